/-! THE CLAIM OUT OF ONE WALK OF THE LAW'S BODY. Your part is whole_start (and what it stands on); all else here is the same for every law, but numbers. -/
def R_law : String := "BitmapstoreLaw"
def lw_P (b : Addr) (xs : List Int32) (args : Array Value) (s : State) : Prop := args = #[.ref b] ∧ s.IntsAt b xs ∧ xs.length ≤ 260 ∧ (Jvm.Cond.and given_1 narrow_1).before args s = true
/-- what a walk over the start with the record d0 says of its end, said of the start itself -/
theorem lw_closed {s t : State} {o : Outcome} {d0 : Drawn} {L : List Loc} {k n : Nat} (hd0 : s.drawn.sameBut d0 lw_cs) (hv : ∃ v, o = .returned v) (hW : (s.setDrawn d0).WarmedH t.vm) (hs : (s.setDrawn d0).sameButNew ({ t with vm := s.vm } : State) L k n) : State.butDraws s t lw_cs (fun t1 => Framed s o t1 L k n) := by
  have h2 : t.drawn = d0 := congrArg State.drawn hs.1
  refine ⟨⟨hv, hW, State.sameButNew.setDrawn hs s.drawn⟩, ?_, by decide⟩
  rw [h2]
  exact hd0
def lw_Q (_ : Array Value) (s : State) (o : Outcome) (t : State) : Prop := o = .returned (some (.int 1)) ∧ State.butDraws s t lw_cs (fun t1 => Framed s o t1 [] 600086 7301442)
def lw_Z (below : List Frame) (a : Array Value) (s : State) : State → Prop := fun t => ∃ o, t.status = .running ∧ Ended t below o ∧ lw_Q a s o t
/-- the law's own end, with 1 on the stack, nothing written that was there before, its room as the claim has it; d0: the record of draws at this point (at the entry s.drawn: begin with 'refine W.base ?_' and 'have hd0 := Drawn.sameBut.refl s.drawn lw_cs') -/
theorem lw_ret {p : Program} {l : Launch} {e : Env} {s : State} {m : MethodId} {below : List Frame} {meth : Method} {c : Code} {b : Nat} {d0 : Drawn} (hd0 : s.drawn.sameBut d0 lw_cs) (hx : p.tables.exec = Jvm.exec) (hb : c.code = code) (hr : meth.sig.returnType = ret) (hlocks : meth.locks = false) {pc : Nat} {H : Heap} {ls : Array Slot} (hdg : decode code pc = .ok (.ireturn, 1)) : W p l e room_1 (s.setDrawn d0) m #[Value.ref b] below meth c H [] 600086 7301442 (lw_Z below #[Value.ref b] s) (F0 m pc ls [.int 1]) := by
  intro T hT X
  obtain ⟨fs, hret, hrun, hended, hW, hframe⟩ := X.leave (v := some (.int 1)) (hlocks := hlocks) (fun h => by rw [hr] at h; cases h)
  have hmeth' : T.vm.method? m = some meth := X.method'
  refine ⟨T.setFrames fs, ?_, .returned (some (.int 1)), hrun, hended, rfl, lw_closed hd0 ⟨_, rfl⟩ hW hframe⟩
  jvm_step X.here [X.here.top, hx, hb, hdg, hmeth', hr, ret, narrow_b1]
  (try refine ⟨rfl, ?_⟩); (try refine ⟨rfl, ?_⟩)
  first | (intro acts; rw [hret _ acts rfl rfl rfl]) | rw [hret _ _ rfl rfl rfl]
  exact Steps.refl _
/-- what holds at the law's entry: the machine, the code, the tables' words (any of lw_tbl by 'hts w (by decide +kernel)'), the script of L ints xs at the cell b, what the Statement gives of the start (any of its parts by flat_of_before) -/
def lw_At (p : Program) (s : State) (m : MethodId) (meth : Method) (c : Code) (b L : Nat) (xs : Nat → Int32) : Prop :=
  p.tables.exec = Jvm.exec ∧ c.code = code ∧ meth.sig.returnType = ret ∧ c.maxLocals = 9 ∧ s.vm.findClass R_law = some m.cls ∧ (∀ w ∈ lw_tbl, w.before #[Value.ref b] s = true) ∧ va_X b L xs s s.heap ∧ b < s.heap.size ∧ meth.locks = false ∧ (Jvm.Cond.and given_1 narrow_1).before #[Value.ref b] s = true ∧ c.exceptionTable.toList = []
theorem law_end {z : Nat} {D : va_G} {ty : Nat → ClassId} {σ0 σE : St} {ad0 : Nat → Nat} {p : Program} {l : Launch} {e : Env} {s : State} {m : MethodId} {b : Nat} {below : List Frame} {meth : Method} {c : Code} {f : Fr} (hcode : mB z = code) (hret : mR z = ret) (hC : Cx z p l room_1 s m meth c) (hcap : gc σE - gc σ0 ≤ 600086 ∧ gs σE - gs σ0 ≤ 7301442) (h : stp z f = some (.inr (.inl (.inl (some (.int 1)), σE)))) :
    Gl z D ty s.heap.size σ0 ad0 p l e room_1 s m #[Value.ref b] below meth c (lw_Z below #[Value.ref b] s) f := by
  obtain ⟨cs, ls, st, σ⟩ := f
  cases cs with
  | nil => cases h
  | cons en r =>
    obtain ⟨pc0, i, len, ext⟩ := en
    replace h : stI z i ext r ls st σ = some (.inr (.inl (.inl (some (.int 1)), σE))) := h
    cases i
    case ireturn =>
      unfold stI at h
      dsimp only at h
      split at h
      next b9 x9 =>
        split at h
        next hb =>
          cases h
          intro pc ad H locs lsC hh
          obtain ⟨hF, hL, h1, h2, hR⟩ := hh
          obtain ⟨rfl, hE, hF'⟩ := fk_e hF
          obtain ⟨d, rfl, hx⟩ := dx_new (n := 1) rfl (fun _ => rfl) (fun _ => rfl) hE
          refine va_forget (fun q hq => hR.2.2.1.2.2 q hq) ?_
          refine W.widen (k := 600086) (n := 7301442) hcap.1 hcap.2 ?_
          rw [hcode] at d
          exact lw_ret (d0 := s.drawn) (Drawn.sameBut.refl s.drawn lw_cs) hC.1 (hC.2.1.trans hcode) (hC.2.2.1.trans hret) hC.2.2.2.2.2.1 d
        next => cases h
      next => cases h
    case fconst q =>
      match q, h with
      | 0, h => cases h
      | 1, h => cases h
      | 2, h => cases h
    case dconst q =>
      match q, h with
      | 0, h => cases h
      | 1, h => cases h
    all_goals
      first
      | (cases h; done)
      | (unfold stI at h
         (try simp only [bI, bL, sL, sto1, sto2, sCall] at h)
         (repeat' split at h) <;> cases h)
/-- the state behind the law's first object, whose place is 0 from there on -/
def st2 (M : Nat → Nat → Int64) (n : Nat) : St := (fun p k => if p = 1 then lkA k else 0, fun p k => if p = 0 then M 2 k else 0, fun _ _ => 0, fun _ _ => none, fun p => if p = 1 then 6 else 0, fun p => if p = 0 then 8 else if p = 1 then 21 else 99, 0, n, n)
theorem st2_f (M : Nat → Nat → Int64) : FS2 (st2 M 1) := ⟨rfl, fun p j hp => if_neg hp, rfl, rfl, fun i _ => rfl⟩
theorem st2_ok (M : Nat → Nat → Int64) (n : Nat) : okS (st2 M n) := ⟨Or.inr rfl, rfl, fun q hq => by
  have hq : 0 + 2 ≤ q := hq
  show (if q = 0 then 8 else if q = 1 then 21 else 99) = 99
  rw [if_neg (by omega), if_neg (by omega)], fun p k q h => by cases h⟩
/-- .. as phase 1 has it -/
def st1 (L : Nat) (xs : Nat → Int32) (M : Nat → Nat → Int64) : St := ((al (st0 L xs) 8 1).1, M, (al (st0 L xs) 8 1).2.2)
theorem wld_2 {ty : Nat → ClassId} {ad : Nat → Nat} {L : Nat} {xs : Nat → Int32} {M : Nat → Nat → Int64} : wld ty (fun q => if q = 0 then ad 2 else ad q) (st2 M 1) = wld ty ad (st1 L xs M) := by
  have k0 : gK (st1 L xs M) 0 = 20 := (al_Kn (σ := st0 L xs) (k := 8) (n := 1) (q := 0) (show 0 ≠ 0 + 2 by omega)).trans rfl
  have k2 : gK (st1 L xs M) 2 = 8 := al_Ke (σ := st0 L xs) (k := 8) (n := 1) rfl
  have x1 : gx (st1 L xs M) = 1 := rfl
  have e1 : pls (st1 L xs M) = [2] := by
    unfold pls
    rw [if_pos k0, x1]
    rfl
  have e2 : pls (st2 M 1) = [0] := by
    unfold pls
    rw [if_neg (show ¬ gK (st2 M 1) 0 = 20 by show ¬ (8 : Nat) = 20; decide)]
    rfl
  have e3 : entE ty ad (st1 L xs M) 2 = .inr (8, [.long (M 2 0)]) := by
    unfold entE
    rw [k2, if_pos (by decide)]
    rfl
  have e4 : entE ty (fun q => if q = 0 then ad 2 else ad q) (st2 M 1) 0 = .inr (8, [.long (M 2 0)]) := by
    unfold entE
    rw [show gK (st2 M 1) 0 = 8 from rfl, if_pos (by decide)]
    rfl
  unfold wld
  rw [e1, e2]
  show [((if 0 = 0 then ad 2 else ad 0), entE ty (fun q => if q = 0 then ad 2 else ad q) (st2 M 1) 0)] = [(ad 2, entE ty ad (st1 L xs M) 2)]
  rw [e3, e4]
  rfl
section TWO
variable {p : Program} {e : Env} {s : State} {m : MethodId} {below : List Frame} {meth : Method} {c : Code} {l : Launch} {b L a1 : Nat} {xs : Nat → Int32} {D : va_G} {ty : Nat → ClassId}
def lsM (v : Value) : List Value := [v, mk0, mk0, mk0, mk0, mk0, mk0, mk0, mk0]
theorem phase_2 (hl : l.stackTraces = false) (hC : Cx 301 p l room_1 s m meth c) (hS : Sx D ty s.heap.size (fun k => if k = 0 then b else a1) (st0 L xs) s) (M : Nat → Nat → Int64) :
    Gl 301 D ty s.heap.size (st0 L xs) (fun k => if k = 0 then b else a1) p l e room_1 s m #[Value.ref b] below meth c (lw_Z below #[Value.ref b] s) (b_301_0.drop 4, lsM (.ref 0), [.ref 2], st1 L xs M) := by
  intro pc ad H locs lsC hh
  obtain ⟨hF, hL, h1, h2, hR⟩ := hh
  obtain ⟨q1, q2, q3, q4, q5, q6, q7, q8, q9⟩ := hR
  obtain ⟨n, qq, hgo, hq1, hq2, hq3⟩ := law_all (st2_f M)
  obtain ⟨o1, σE⟩ := qq
  have hq1 : o1 = .inl (some (.int (iv 1))) := hq1
  subst hq1
  have ad1 : ad 1 = a1 := q6 1 (show 1 < 0 + 2 by omega)
  obtain ⟨a1', a2', a3', a4', a5', a6', a7', a8', a9', a10', a11'⟩ := hS
  have a4' : va_X a1 6 lkA s s.heap := a4'
  have a5' : va_Z "Bitmapstore" "LOOKED_AT" "[I" (.ref a1) (Ab s.heap.size) s s.heap := a5'
  have a10' : a1 < s.heap.size := a10'
  have hS2 : Sx D ty s.heap.size (fun q => if q = 0 then ad 2 else ad q) (st2 M 0) s := ⟨a1', a2', fun h => absurd (show (8 : Nat) = 20 from h) (by decide), by show va_X (ad 1) 6 lkA s s.heap; rw [ad1]; exact a4', by show va_Z "Bitmapstore" "LOOKED_AT" "[I" (.ref (ad 1)) (Ab s.heap.size) s s.heap; rw [ad1]; exact a5', a6', a7', a8', fun h => absurd (show (8 : Nat) = 20 from h) (by decide), by show ad 1 < s.heap.size; rw [ad1]; exact a10', a11'⟩
  have hcap : gc σE - gc (st2 M 0) ≤ 600086 ∧ gs σE - gs (st2 M 0) ≤ 7301442 := by
    have hq2 : gc σE ≤ 1 + 3000 := hq2
    have hq3 : gs σE ≤ 1 + 40000 := hq3
    omega
  have G := run_snd (N := n) (args := #[Value.ref b]) (e := e) (below := below) (Q := lw_Z below #[Value.ref b] s) hC hS2 hcap (fun k hk y as' σ' o1 σ1 h1 h2 h3 h4 => all_snd l hl (k + 1) k (Nat.lt_succ_self k) y as' σ' o1 σ1 h1 h2 h3 h4) (fun f hf => law_end rfl rfl hC hcap hf) (fun x hx => by cases hx) n (Nat.le_refl _) _ hgo
  have hL2 : Lr (fun q => if q = 0 then ad 2 else ad q) lsC (mL 301) (lsM mk0) := ⟨hL.1, rfl, hL.2.2.1, fun i v hv hm => by
    have hv9 : v ∈ lsM mk0 := List.mem_of_getElem? hv
    have : v = mk0 := by simpa [lsM] using hv9
    rw [this] at hm
    cases hm⟩
  have hr1 : rgs (gx (st2 M 1) + 2) (lsM mk0) := fun v hv => by
    have : v = mk0 := by simpa [lsM] using hv
    rw [this]
    exact rg_m
  have hr2 : rgs (gx (st2 M 1) + 2) [Value.ref 0] := rgs_c (rg_r (show 0 < 0 + 2 by omega)) rgs_n
  have w2 := wld_2 (ty := ty) (ad := ad) (L := L) (xs := xs) (M := M)
  have q1 : va_P D vwCl (wld ty ad (st1 L xs M)) H := q1
  have q2 : va_D (Ab s.heap.size) (wld ty ad (st1 L xs M)) := q2
  rw [← w2] at q1 q2
  have h9 := G pc (fun q => if q = 0 then ad 2 else ad q) H locs lsC ⟨hF, hL2, hr1, hr2, q1, q2, q3, st2_ok M 1, Nat.le_refl _, fun _ _ => rfl, Nat.zero_le _, Nat.zero_le _, ⟨rfl, fun _ => ⟨rfl, rfl⟩, rfl, rfl⟩⟩
  exact h9
theorem phase_1 (hl : l.stackTraces = false) (hL : L ≤ 260) (hC : Cx 301 p l room_1 s m meth c) (hS : Sx D ty s.heap.size (fun k => if k = 0 then b else a1) (st0 L xs) s) :
    Gl 301 D ty s.heap.size (st0 L xs) (fun k => if k = 0 then b else a1) p l e room_1 s m #[Value.ref b] below meth c (lw_Z below #[Value.ref b] s) (ent 301 [.ref 0] (st0 L xs)) := by
  have k0 : gK (al (st0 L xs) 8 1) 0 = 20 := (al_Kn (show 0 ≠ 0 + 2 by omega)).trans rfl
  have n0 : gN (al (st0 L xs) 8 1) 0 = L := (al_Nn (show 0 ≠ 0 + 2 by omega)).trans rfl
  have k2 : gK (al (st0 L xs) 8 1) 2 = 8 := al_Ke rfl
  have h155 : Ex 155 [.ref 2, .ref 0] (al (st0 L xs) 8 1) (fun o σ' => o = .inl none ∧ ∃ M, σ' = st1 L xs M) := x_155 k2 k0 n0 hL (fun M => ⟨rfl, M, rfl⟩)
  obtain ⟨hspr, n5, q5, hgo5, ho5, M, hM⟩ := h155
  obtain ⟨o5, σ5⟩ := q5
  have ho5 : o5 = .inl none := ho5
  have hM : σ5 = st1 L xs M := hM
  subst ho5
  subst hM
  have ctr := all_snd l hl (n5 + 1) n5 (Nat.lt_succ_self n5) 155 [.ref 2, .ref 0] (al (st0 L xs) 8 1) _ _ hgo5 (by show (2 : Nat) ≠ 9; decide) rfl hspr
  have hcap1 : gc (al (st0 L xs) 8 1) - gc (st0 L xs) ≤ room_1.cells ∧ gs (al (st0 L xs) 8 1) - gs (st0 L xs) ≤ room_1.slots := ⟨by show (1 : Nat) - 0 ≤ 600086; omega, by show (1 : Nat) - 0 ≤ 7301442; omega⟩
  have hcap0 : gc (st0 L xs) - gc (st0 L xs) ≤ room_1.cells ∧ gs (st0 L xs) - gs (st0 L xs) ≤ room_1.slots := ⟨by rw [Nat.sub_self]; exact Nat.zero_le _, by rw [Nat.sub_self]; exact Nat.zero_le _⟩
  have s3 : stp 301 (b_301_0.drop 3, lsM (.ref 0), [.ref 0, .ref 2, .ref 2], al (st0 L xs) 8 1) = some (.inr (.inr (155, [.ref 2, .ref 0], (b_301_0.drop 4, lsM (.ref 0), [.ref 2], al (st0 L xs) 8 1)))) := by
    show sCall 155 2 9 (b_301_0.drop 4) (lsM (.ref 0)) [.ref 0, .ref 2, .ref 2] (al (st0 L xs) 8 1) = _
    exact scv (y := 155) (n := 2) (c := 8) (p := 2) (as := [.ref 0]) (rest := [.ref 2]) (Or.inl (by decide)) rfl rfl rfl k2
  have G3 := gl_call (e := e) (args := #[Value.ref b]) (below := below) (Q := lw_Z below #[Value.ref b] s) (o1 := .inl none) (σ1 := st1 L xs M) hC hS s3 (fun _ _ => ctr) hcap1 ⟨Nat.le_refl _, Nat.le_refl _⟩ (fun v hv => by cases hv; exact phase_2 hl hC hS M) (fun x hx => by cases hx)
  have s2 : stp 301 (b_301_0.drop 2, lsM (.ref 0), [.ref 2, .ref 2], al (st0 L xs) 8 1) = some (.inl (b_301_0.drop 3, lsM (.ref 0), [.ref 0, .ref 2, .ref 2], al (st0 L xs) 8 1)) := rfl
  have G2 := gl_step hC hS hcap1 s2 G3
  have s1 : stp 301 (b_301_0.drop 1, lsM (.ref 0), [.ref 2], al (st0 L xs) 8 1) = some (.inl (b_301_0.drop 2, lsM (.ref 0), [.ref 2, .ref 2], al (st0 L xs) 8 1)) := rfl
  have G1 := gl_step hC hS hcap1 s1 G2
  have s0 : stp 301 (ent 301 [.ref 0] (st0 L xs)) = some (.inl (b_301_0.drop 1, lsM (.ref 0), [.ref 2], al (st0 L xs) 8 1)) := rfl
  exact gl_step hC hS hcap1 s0 G1
end TWO
theorem whole_start {p : Program} {e : Env} {s : State} {m : MethodId} {below : List Frame} {meth : Method} {c : Code} (l : Launch) (hflags : l.flags = flags0) {b L : Nat} {xs : Nat → Int32} (hL : L ≤ 260) (C0 : lw_At p s m meth c b L xs) : W p l e room_1 s m #[Value.ref b] below meth c s.heap [] 0 0 (lw_Z below #[Value.ref b] s) (entryFrame m ([Value.ref b] : List Value).toArray 9) := by
  obtain ⟨hx, hb, hr, hml, hown, hts, hX, hbl, hlocks, hgv, htab⟩ := C0
  have hl : l.stackTraces = false := by
    unfold Launch.stackTraces
    rw [hflags]
    decide +kernel
  obtain ⟨D, ty, a1, hS⟩ := sx_start hts hX hbl hgv
  have hC : Cx 301 p l room_1 s m meth c := ⟨hx, hb, hr, hml, hown, hlocks, hl, fun h => absurd h (show (9 : Nat) ≠ 2 by omega), by rw [htab]; rfl, Nat.le_of_ble_eq_true rfl, Nat.le_of_ble_eq_true rfl, Nat.le_of_ble_eq_true rfl⟩
  have G := phase_1 (e := e) (below := below) hl hL hC hS
  have hspr : (spr [Value.ref 0]).length ≤ mL 301 := Nat.le_of_ble_eq_true rfl
  have hrg : rgs (gx (st0 L xs) + 2) [Value.ref 0] := rgs_c (rg_r (show 0 < 0 + 2 by omega)) rgs_n
  have hP : va_P D vwCl (wld ty (fun k => if k = 0 then b else a1) (st0 L xs)) s.heap := fun k q h => by cases h
  have hD : va_D (Ab s.heap.size) (wld ty (fun k => if k = 0 then b else a1) (st0 L xs)) := ⟨fun i j p q h => (by cases h), fun k q h => (by cases h)⟩
  have h9 := G 0 (fun k => if k = 0 then b else a1) s.heap [] _ ⟨fk_0 301, Lr_ent hspr, rg_ent hrg, rgs_n, hP, hD, va_S.rf, st0_ok L xs, Nat.le_refl _, fun _ _ => rfl, Nat.le_refl _, Nat.le_refl _, fix2_rf⟩
  rw [lg_entry_eq]
  have e9 : mL 301 = 9 := rfl
  rw [e9] at h9
  exact h9
set_option maxHeartbeats 4000000 in
theorem lw_walk (l : Launch) (hflags : l.flags = flags0) (b : Addr) (xs : List Int32) : MetFree l x (headSpec (Jvm.Cond.code x code maxLocals ret :: tables_1) room_1) (lw_P b xs) (fun _ _ _ _ _ => True) lw_Q := by
  refine MetFree.of_bodyS (code := code) (maxLocals := maxLocals) (ret := ret) (by decide) ?_ ?_
  · intro args s m h hn
    obtain ⟨meth, c, h1, h2, h3, h4, h5, h6, -, -⟩ := Cond.code_spec hn (atoms_spec (ws := Jvm.Cond.code x code maxLocals ret :: tables_1) h _ List.mem_cons_self)
    exact ⟨meth, c, h1, h2, h3, h4, h5, h6⟩
  · intro p e s m args below meth c s₁ B hml0 hP _
    obtain ⟨rfl, hx, hbd, hgv⟩ := hP
    obtain ⟨scr, harrAt, hlist, hof, hsmall⟩ := hx
    obtain ⟨hcb, hkn, -, -⟩ := State.arrayAt?_spec harrAt
    have hown : s.vm.findClass R_law = some m.cls := findClass_of_methodNamed B.named
    have hts0 : ∀ c ∈ (Jvm.Cond.code x code maxLocals ret :: tables_1), c.before #[Value.ref b] s = true := atoms_spec (ws := Jvm.Cond.code x code maxLocals ret :: tables_1) B.pre
    have hts : ∀ w ∈ lw_tbl, w.before #[Value.ref b] s = true := k2_hts_sels lw_privs (fun w hw => hts0 w (List.mem_cons_of_mem _ hw)) lw_privs_ok
    have hml : c.maxLocals = 9 := B.maxLocals_eq (hts0 _ List.mem_cons_self)
    have X₀ : Stand p l e room_1 s m #[Value.ref b] below meth c s₁ [] 0 0 := Stand.of_body B
    have hh0 : s₁.heap = s.heap := by rw [B.state]; rfl
    have hsz : scr.slots.size = xs.length := by rw [← Array.length_toList, hlist, List.length_map]
    have hval : ∀ j : Nat, j < xs.length → scr.slots[j]? = some (.int (xs.getD j 0)) := fun j hj => by
      rw [← Array.getElem?_toList, hlist]
      simp [hj]
    have hbl : b < s.heap.size := (Array.getElem?_eq_some_iff.mp hcb).1
    have hX : va_X b xs.length (fun j => xs.getD j 0) s s.heap := ⟨scr, hcb, hof, hkn, hsz, hval⟩
    have htab : c.exceptionTable.toList = [] := by
      obtain ⟨meth9, c9, h1, h2, -, -, -, -, h6, -⟩ := Cond.code_spec B.named (hts0 _ List.mem_cons_self)
      cases Option.some.inj (h1.symm.trans B.method)
      cases Option.some.inj (h2.symm.trans X₀.code)
      simpa using h6
    have K : W p l e room_1 s m #[Value.ref b] below meth c s₁.heap [] 0 0 (lw_Z below #[Value.ref b] s) (entryFrame m ([Value.ref b] : List Value).toArray 9) := by
      rw [hh0]
      exact whole_start l hflags hbd ⟨B.exec, B.bytes, B.returns, hml, hown, hts, hX, hbl, B.notSynchronized, hgv, htab⟩
    obtain ⟨t, a1, o, b1, b2, b3⟩ := K s₁ rfl X₀
    exact ⟨t, o, a1, b1, b2, b3⟩
theorem lw_pre_spec {args : Array Value} {s : State} (h : (Jvm.Cond.and given_1 narrow_1).before args s = true) (hr : rest_1_c.before args s = true) : ∃ (b : Addr) (xs : List Int32), lw_P b xs args s := by
  have hs := flat_of_before _ h
  have hq := flat_of_before _ hr
  have hc : (Cond.count 1).before args s = true := hs _ (by decide +kernel)
  have harr : (Cond.arrayOf (.arg 0) .int).before args s = true := hs _ (by decide +kernel)
  have hle : (Cond.le (.length (.arg 0)) (.int 260)).before args s = true := hs _ (by decide +kernel)
  have hlen : (Cond.isInt (.length (.arg 0))).before args s = true := hq _ (by decide +kernel)
  have hall : (Cond.all (.arg 0) (.isInt (.elem (.arg 0) (.index 0)))).before args s = true := hq _ (by decide +kernel)
  obtain ⟨b, xs, hb, hx⟩ := State.ints_of_pre rfl harr hlen hall
  have hsm : xs.length < 2 ^ 31 := hx.choose_spec.2.2.2
  have hev : (Term.length (.arg 0)).eval args s none [] s = some (.int xs.length.toInt32) := hx.length_eval hb
  have hv := Cond.le_ints hev (show (Term.int 260).eval args s none [] s = some (.int 260) from rfl)
  have hd : xs.length.toInt32 ≤ 260 := by
    simpa [Cond.before, Cond.holds, hv] using hle
  have hN : xs.length ≤ 260 := (Int32.ofNat_le_ofNat hsm (by decide)).mp (show Int32.ofNat xs.length ≤ Int32.ofNat 260 from hd)
  exact ⟨b, xs, Cond.one_arg hc (show args[0]? = some (.ref b) from hb), hx, hN, h⟩
theorem lw_comes (l : Launch) (hflags : l.flags = flags0) : Comes l x (Jvm.Cond.code x code maxLocals ret :: tables_1) room_1 (fun tb e args s => Calls_1 tb e args s ∧ rest_1 tb e args s ∧ Pre_1 tb e args s)
    (fun _ _ args s o t => lw_Q args s o t) := by
  intro p e ha hc hk s m args below hf hfit hheap happ hpre
  obtain ⟨b, xs, hP⟩ := lw_pre_spec hpre.2.2 hpre.2.1
  obtain ⟨k, o, h1, h2, h3, hQ⟩ := lw_walk l hflags b xs p e ha hc hk s m args below hf ((Spec.applies_iff_loose hf).mp happ).1 hP trivial
  exact ⟨k, o, h1, h2, h3, hQ⟩
theorem lw_frame {s t : State} {o : Outcome} {args : Array Value} (h : State.butDraws s t lw_cs (fun t1 => Framed s o t1 [] 600086 7301442)) :
    State.butDraws s t [Jvm.Choice.named "NaN.bits"] (fun t1 => Framed s o t1 (fieldLocs frame_1_writes args s ++ arrayLocs frame_1_arrays args s ++ staticLocs frame_1_statics s) 600086 7301442) := h
theorem lw_limb (L : Cond) (hL : ∀ (args : Array Value) (s t : State), L.after args s (.returned (some (.int 1))) t = true) :
    ArmFor flags0 classFile x code maxLocals ret World_1 tables_1 room_1 Calls_1 rest_1 Pre_1
      (fun tb e a s o t => postC L tb e a s o t ∧ State.butDraws s t [Jvm.Choice.named "NaN.bits"] (fun t1 => Framed s o t1 (fieldLocs frame_1_writes a s ++ arrayLocs frame_1_arrays a s ++ staticLocs frame_1_statics s) 600086 7301442)) := by
  intro l hflags _ _ p e ha hc hk s m args below hf hfit hheap happ hpre
  obtain ⟨k, o, h1, h2, h3, rfl, hF⟩ := lw_comes l hflags p e ha hc hk s m args below hf hfit hheap happ hpre
  exact ⟨k, _, h1, h2, h3, hL args s _, lw_frame hF⟩
theorem i_vc : Claimed_1_1 ∧ Claimed_1_2 := ⟨lw_limb limb_1_1 (fun args s t => by simp [limb_1_1, Cond.after, Cond.holds, Cond.value]), lw_limb limb_1_2 (fun args s t => Cond.after_iff.mpr (by
  first | (rw [show limb_1_2 = Cond.eq .result (.int 1) from rfl, Cond.eq_ints (x := 1) (y := 1) rfl rfl]; simp; done) | (simp [limb_1_2, Cond.value, Term.eval]; done)))⟩
