/-! THE RUN OF MY MACHINE: one entry, a method, and what a run says (Wp, Ex) with an equation for each kind of entry -/
noncomputable def stI (z : Nat) (i : Instr) (ext : List Nat) (r : List En) (ls st : List Value) (σ : St) : Option Rs := match i with
  | .iconst v => nxt (r, ls, .int (Int32.ofInt v) :: st, σ)
  | .bipush v => nxt (r, ls, .long (Int64.ofInt v) :: st, σ)
  | .fconst 0 => nxt (r, ls, .float FP.fconst0 :: st, σ)
  | .dconst 0 => nxt (r, ls, .double FP.dconst0 :: st, σ)
  | .iload k => (match ls[k]? with | some (.int x) => nxt (r, ls, .int x :: st, σ) | _ => none)
  | .lload k => (match ls[k]? with | some (.long x) => nxt (r, ls, .long x :: st, σ) | _ => none)
  | .fload k => (match ls[k]? with | some (.float x) => nxt (r, ls, .float x :: st, σ) | _ => none)
  | .dload k => (match ls[k]? with | some (.double x) => nxt (r, ls, .double x :: st, σ) | _ => none)
  | .aload k => (match ls[k]? with | some (.ref x) => nxt (r, ls, .ref x :: st, σ) | _ => none)
  | .istore k => (match st with | .int x :: st => sto1 r ls k (.int x) st σ | _ => none)
  | .fstore k => (match st with | .float x :: st => sto1 r ls k (.float x) st σ | _ => none)
  | .astore k => (match st with | .ref x :: st => sto1 r ls k (.ref x) st σ | _ => none)
  | .lstore k => (match st with | .long x :: st => sto2 r ls k (.long x) st σ | _ => none)
  | .dstore k => (match st with | .double x :: st => sto2 r ls k (.double x) st σ | _ => none)
  | .iinc k n => (match ls[k]? with | some (.int x) => sto1 r ls k (.int (x + Int32.ofInt n)) st σ | _ => none)
  | .iadd => bI (fun x y => x + y) r ls st σ
  | .isub => bI (fun x y => x - y) r ls st σ
  | .imul => bI (fun x y => x * y) r ls st σ
  | .iand => bI (fun x y => x &&& y) r ls st σ
  | .ior => bI (fun x y => x ||| y) r ls st σ
  | .ixor => bI (fun x y => x ^^^ y) r ls st σ
  | .ishl => bI (fun x y => x <<< (y &&& 31)) r ls st σ
  | .ishr => bI (fun x y => x >>> (y &&& 31)) r ls st σ
  | .iushr => bI (fun x y => (x.toUInt32 >>> (y.toUInt32 &&& Int32.toUInt32 31)).toInt32) r ls st σ
  | .idiv => (match st with | .int y :: .int x :: st => if y = 0 then none else nxt (r, ls, .int (x / y) :: st, σ) | _ => none)
  | .irem => (match st with | .int y :: .int x :: st => if y = 0 then none else nxt (r, ls, .int (x - x / y * y) :: st, σ) | _ => none)
  | .ladd => bL (fun x y => x + y) r ls st σ
  | .lsub => bL (fun x y => x - y) r ls st σ
  | .lmul => bL (fun x y => x * y) r ls st σ
  | .lrem => (match st with | .long y :: .long x :: st => if y = 0 then none else nxt (r, ls, .long (x - x / y * y) :: st, σ) | _ => none)
  | .land => bL (fun x y => x &&& y) r ls st σ
  | .lor => bL (fun x y => x ||| y) r ls st σ
  | .lxor => bL (fun x y => x ^^^ y) r ls st σ
  | .lshl => sL (fun x y => x <<< (y.toInt64 &&& 63)) r ls st σ
  | .lushr => sL (fun x y => (x.toUInt64 >>> (y.toInt64.toUInt64 &&& Int64.toUInt64 63)).toInt64) r ls st σ
  | .lcmp => (match st with | .long y :: .long x :: st => nxt (r, ls, .int (lg_cmp x y) :: st, σ) | _ => none)
  | .fcmp op => (match st with | .float y :: .float x :: st => nxt (r, ls, .int (Op.cmpValue (FP.fcmp x y) op) :: st, σ) | _ => none)
  | .dcmp op => (match st with | .double y :: .double x :: st => nxt (r, ls, .int (Op.cmpValue (FP.dcmp x y) op) :: st, σ) | _ => none)
  | .i2l => (match st with | .int x :: st => nxt (r, ls, .long x.toInt64 :: st, σ) | _ => none)
  | .l2i => (match st with | .long x :: st => nxt (r, ls, .int x.toInt32 :: st, σ) | _ => none)
  | .i2f => (match st with | .int x :: st => nxt (r, ls, .float (FP.i2f x) :: st, σ) | _ => none)
  | .i2d => (match st with | .int x :: st => nxt (r, ls, .double (FP.i2d x) :: st, σ) | _ => none)
  | .f2d => (match st with | .float x :: st => if (FP.f2d x) &&& 0x7fffffffffffffff ≤ 0x7ff0000000000000 then nxt (r, ls, .double (FP.f2d x) :: st, σ) else none | _ => none)
  | .fdiv => (match st with | .float y :: .float x :: st => if (FP.fdiv x y) &&& 0x7fffffff ≤ 0x7f800000 then nxt (r, ls, .float (FP.fdiv x y) :: st, σ) else none | _ => none)
  | .ddiv => (match st with | .double y :: .double x :: st => if (FP.ddiv x y) &&& 0x7fffffffffffffff ≤ 0x7ff0000000000000 then nxt (r, ls, .double (FP.ddiv x y) :: st, σ) else none | _ => none)
  | .dup => (match st with | .int x :: st => nxt (r, ls, .int x :: .int x :: st, σ) | .ref x :: st => nxt (r, ls, .ref x :: .ref x :: st, σ) | _ => none)
  | .dup2 => (match st with | .int x :: .ref y :: st => nxt (r, ls, .int x :: .ref y :: .int x :: .ref y :: st, σ) | _ => none)
  | .pop => (match st with | .int _ :: st => nxt (r, ls, st, σ) | .ref _ :: st => nxt (r, ls, st, σ) | _ => none)
  | .ifCond c _ => (match ext, st with | [b], .int x :: st => if brc c x 0 = true then nxt (blk z b, ls, st, σ) else nxt (r, ls, st, σ) | _, _ => none)
  | .if_icmp c _ => (match ext, st with | [b], .int y :: .int x :: st => if brc c x y = true then nxt (blk z b, ls, st, σ) else nxt (r, ls, st, σ) | _, _ => none)
  | .ifnull _ => (match st with | .ref _ :: st => nxt (r, ls, st, σ) | _ => none)
  | .goto _ => (match ext with | [b] => nxt (blk z b, ls, st, σ) | _ => none)
  | .nop => (match ext with | [b] => nxt (blk z b, ls, st, σ) | _ => none)
  | .tableswitch _ lo _ _ => (match ext, st with | b :: ts, .int x :: st => nxt (blk z (swt b ts lo x), ls, st, σ) | _, _ => none)
  | .getfield _ => (match ext, st with | [c, k, t, _], .ref p :: st => if gK σ p = c then nxt (r, ls, gf σ t p k :: st, σ) else none | _, _ => none)
  | .putfield _ => (match ext, st with
    | [c, k, t, _], .int x :: .ref p :: st => if gK σ p = c ∧ t = 1 then nxt (r, ls, st, setI σ p k x) else none
    | [c, k, t, _], .long x :: .ref p :: st => if gK σ p = c ∧ t = 2 then nxt (r, ls, st, setL σ p k x) else none
    | [c, k, t, _], .ref x :: .ref p :: st => if gK σ p = c ∧ t = 3 then nxt (r, ls, st, setR σ p k (some x)) else none
    | _, _ => none)
  | .getstatic _ => nxt (r, ls, .ref 1 :: st, σ)
  | .iaload => (match st with | .int i :: .ref p :: st => if (gK σ p = 10 ∨ p = 1 ∨ (p = 0 ∧ gK σ 0 = 20)) ∧ inb i (gN σ p) then nxt (r, ls, .int (gI σ p i.toNatClampNeg) :: st, σ) else none | _ => none)
  | .iastore => (match st with | .int x :: .int i :: .ref p :: st => if gK σ p = 10 ∧ inb i (gN σ p) then nxt (r, ls, st, setI σ p i.toNatClampNeg x) else none | _ => none)
  | .baload => (match st with | .int i :: .ref p :: st => if gK σ p = 11 ∧ inb i (gN σ p) then nxt (r, ls, .int (gI σ p i.toNatClampNeg) :: st, σ) else none | _ => none)
  | .bastore => (match st with | .int x :: .int i :: .ref p :: st => if gK σ p = 11 ∧ inb i (gN σ p) then nxt (r, ls, st, setI σ p i.toNatClampNeg (vp_nar .boolean x)) else none | _ => none)
  | .laload => (match st with | .int i :: .ref p :: st => if gK σ p = 12 ∧ inb i (gN σ p) then nxt (r, ls, .long (gL σ p i.toNatClampNeg) :: st, σ) else none | _ => none)
  | .lastore => (match st with | .long x :: .int i :: .ref p :: st => if gK σ p = 12 ∧ inb i (gN σ p) then nxt (r, ls, st, setL σ p i.toNatClampNeg x) else none | _ => none)
  | .daload => (match st with | .int i :: .ref p :: st => if gK σ p = 13 ∧ inb i (gN σ p) then nxt (r, ls, .double (gD σ p i.toNatClampNeg) :: st, σ) else none | _ => none)
  | .dastore => (match st with | .double x :: .int i :: .ref p :: st => if gK σ p = 13 ∧ inb i (gN σ p) then nxt (r, ls, st, setD σ p i.toNatClampNeg x) else none | _ => none)
  | .aaload => (match st with | .int i :: .ref p :: st => if isRA (gK σ p) = true ∧ inb i (gN σ p) then nxt (r, ls, rv (gR σ p i.toNatClampNeg) :: st, σ) else none | _ => none)
  | .aastore => (match st with | .ref x :: .int i :: .ref p :: st => if isRA (gK σ p) = true ∧ gK σ x = ek (gK σ p) ∧ inb i (gN σ p) then nxt (r, ls, st, setR σ p i.toNatClampNeg (some x)) else none | _ => none)
  | .arraylength => (match st with | .ref p :: st => if (10 ≤ gK σ p ∧ gK σ p ≤ 18) ∨ p = 1 ∨ (p = 0 ∧ gK σ 0 = 20) then nxt (r, ls, .int (Int32.ofNat (gN σ p)) :: st, σ) else none | _ => none)
  | .new _ => (match ext with | [c, _] => nxt (r, ls, .ref (gx σ + 2) :: st, al σ c (nf c)) | _ => none)
  | .newarray _ => (match ext, st with | [k], .int n :: st => if ¬ n < 0 ∧ n.toNatClampNeg ≤ 100000 then nxt (r, ls, .ref (gx σ + 2) :: st, al σ k n.toNatClampNeg) else none | _, _ => none)
  | .anewarray _ => (match ext, st with | [k, _], .int n :: st => if ¬ n < 0 ∧ n.toNatClampNeg ≤ 100000 then nxt (r, ls, .ref (gx σ + 2) :: st, al σ k n.toNatClampNeg) else none | _, _ => none)
  | .multianewarray _ _ => (match st with | .int k :: .int n :: st => if ¬ n < 0 ∧ ¬ k < 0 ∧ n.toNatClampNeg ≤ 10000 ∧ k.toNatClampNeg ≤ 10000 then nxt (r, ls, .ref (gx σ + 2) :: st, alM σ n.toNatClampNeg k.toNatClampNeg) else none | _ => none)
  | .invokevirtual _ => (match ext with | [y, n, c, _] => sCall y n c r ls st σ | _ => none)
  | .invokestatic _ => (match ext with
    | [y, n, c, _] => sCall y n c r ls st σ
    | [_] => (match st with
      | .int n :: .int dp :: .ref a :: .int sp :: .ref a0 :: st => if gK σ a0 = 10 ∧ gK σ a = 10 ∧ ¬ sp < 0 ∧ ¬ dp < 0 ∧ ¬ n < 0 ∧ sp.toNatClampNeg + n.toNatClampNeg ≤ gN σ a0 ∧ dp.toNatClampNeg + n.toNatClampNeg ≤ gN σ a ∧ st.length ≤ 4 then nxt (r, ls, st, rowI σ a (va_cpy (gI σ a0) (gI σ a) sp.toNatClampNeg dp.toNatClampNeg n.toNatClampNeg)) else none
      | _ => none)
    | [_, 0] => (match st with | .int y :: .int x :: st => if st.length ≤ 4 then nxt (r, ls, .int (if x < y then y else x) :: st, σ) else none | _ => none)
    | [_, 1] => (match st with | .int y :: .int x :: st => if st.length ≤ 4 then nxt (r, ls, .int (if y < x then y else x) :: st, σ) else none | _ => none)
    | _ => none)
  | .invokespecial _ => (match ext with
    | [y, n, c, _] => sCall y n c r ls st σ
    | [_] => (match st with | .ref _ :: st => if st.length ≤ 4 then nxt (r, ls, st, σ) else none | _ => none)
    | _ => none)
  | .athrow => (match ext, st with | [e, _], [] => don (.inr e) (bmp σ) | _, _ => none)
  | .ireturn => (match ext, st with | [b], [.int x] => if b = 0 ∨ (x = 0 ∨ x = 1) then don (.inl (some (.int x))) σ else none | _, _ => none)
  | .freturn => (match st with | [.float x] => don (.inl (some (.float x))) σ | _ => none)
  | .dreturn => (match st with | [.double x] => don (.inl (some (.double x))) σ | _ => none)
  | .areturn => (match st with | [.ref x] => don (.inl (some (.ref x))) σ | _ => none)
  | .return_ => (match st with | [] => don (.inl none) σ | _ => none)
  | _ => none
noncomputable def stp (z : Nat) (f : Fr) : Option Rs := match f with
  | ([], _, _, _) => none
  | (e :: r, ls, st, σ) => stI z e.2.1 e.2.2.2 r ls st σ
/-- where values stand in a frame: a long or double takes two places -/
def spr : List Value → List Value
  | [] => []
  | v :: vs => if is2 v = true then v :: mk0 :: spr vs else v :: spr vs
noncomputable def ent (z : Nat) (as : List Value) (σ : St) : Fr := (blk z 0, spr as ++ List.replicate (mL z - (spr as).length) mk0, [], σ)
/-- caught where: the block and the number that the exception is laid at -/
def fnd : List (Nat × Nat × Nat) → Nat → Option (Nat × Nat)
  | [], _ => none
  | (x, b, k) :: r, e => if e = x then some (b, k) else fnd r e
noncomputable def go : Nat → Nat → Fr → Option (Out × St)
  | 0, _, _ => none
  | n + 1, z, f => match stp z f with
    | none => none
    | some (.inl f') => go n z f'
    | some (.inr (.inl q)) => some q
    | some (.inr (.inr (y, as, g))) => if (spr as).length ≤ mL y then (match go n y (ent y as g.2.2.2) with
      | none => none
      | some (.inl v, σ') => go n z (g.1, g.2.1, v.toList ++ g.2.2.1, σ')
      | some (.inr e, σ') => if hnd z = [] then some (.inr e, σ') else match fnd (hnd z) e with
        | none => none
        | some (b, k) => if okst g.2.1 k = true ∧ k < g.2.1.length then go n z (blk z b, g.2.1.set k mk0, [], σ') else none) else none
theorem go_s (n z : Nat) (f : Fr) : go (n + 1) z f = match stp z f with
    | none => none
    | some (.inl f') => go n z f'
    | some (.inr (.inl q)) => some q
    | some (.inr (.inr (y, as, g))) => if (spr as).length ≤ mL y then (match go n y (ent y as g.2.2.2) with
      | none => none
      | some (.inl v, σ') => go n z (g.1, g.2.1, v.toList ++ g.2.2.1, σ')
      | some (.inr e, σ') => if hnd z = [] then some (.inr e, σ') else match fnd (hnd z) e with
        | none => none
        | some (b, k) => if okst g.2.1 k = true ∧ k < g.2.1.length then go n z (blk z b, g.2.1.set k mk0, [], σ') else none) else none := rfl
theorem go_m : ∀ (n z : Nat) (f : Fr) (q : Out × St), go n z f = some q → go (n + 1) z f = some q := by
  intro n
  induction n with
  | zero => intro z f q h; exact absurd h (by simp [go])
  | succ n ih =>
    intro z f q h
    rw [go_s] at h ⊢
    cases hs : stp z f with
    | none => rw [hs] at h; exact absurd h (by simp)
    | some w =>
      rw [hs] at h
      rcases w with f' | q' | ⟨y, as, g⟩
      · exact ih _ _ _ h
      · exact h
      · dsimp only at h ⊢
        by_cases hp : (spr as).length ≤ mL y
        rotate_left
        · rw [if_neg hp] at h; exact absurd h (by simp)
        rw [if_pos hp] at h ⊢
        cases hc : go n y (ent y as g.2.2.2) with
        | none => rw [hc] at h; exact absurd h (by simp)
        | some w =>
          rw [ih _ _ _ hc]
          rw [hc] at h
          obtain ⟨v | e, σ'⟩ := w
          · exact ih _ _ _ h
          · dsimp only at h ⊢
            by_cases h0 : hnd z = []
            · rw [if_pos h0] at h ⊢
              exact h
            · rw [if_neg h0] at h ⊢
              cases hf : fnd (hnd z) e with
              | none => rw [hf] at h; exact absurd h (by simp)
              | some bk =>
                rw [hf] at h
                dsimp only at h ⊢
                by_cases h9 : okst g.2.1 bk.2 = true ∧ bk.2 < g.2.1.length
                · rw [if_pos h9] at h ⊢
                  exact ih _ _ _ h
                · rw [if_neg h9] at h
                  exact absurd h (by simp)
theorem go_k {n z : Nat} {f : Fr} {q : Out × St} (h : go n z f = some q) : ∀ k, n ≤ k → go k z f = some q := by
  intro k hk
  induction k with
  | zero => rw [show n = 0 by omega] at h; exact h
  | succ k ih =>
    by_cases hn : n = k + 1
    · rw [← hn]; exact h
    · exact go_m _ _ _ _ (ih (by omega))
/-- the run from this frame ends with Q -/
def Wp (z : Nat) (f : Fr) (Q : Out → St → Prop) : Prop := ∃ (n : Nat) (q : Out × St), go n z f = some q ∧ Q q.1 q.2
def Ex (z : Nat) (as : List Value) (σ : St) (Q : Out → St → Prop) : Prop := (spr as).length ≤ mL z ∧ Wp z (ent z as σ) Q
theorem wp_next {z : Nat} {f f' : Fr} {Q : Out → St → Prop} (h : stp z f = some (.inl f')) : Wp z f Q = Wp z f' Q := by
  apply propext
  constructor
  · rintro ⟨n, q, h1, h2⟩
    cases n with
    | zero => exact absurd h1 (by simp [go])
    | succ n => rw [go_s, h] at h1; exact ⟨n, q, h1, h2⟩
  · rintro ⟨n, q, h1, h2⟩
    exact ⟨n + 1, q, by rw [go_s, h]; exact h1, h2⟩
theorem wp_done {z : Nat} {f : Fr} {o : Out} {σ : St} {Q : Out → St → Prop} (h : stp z f = some (.inr (.inl (o, σ)))) : Wp z f Q = Q o σ := by
  apply propext
  constructor
  · rintro ⟨n, q, h1, h2⟩
    cases n with
    | zero => exact absurd h1 (by simp [go])
    | succ n => rw [go_s, h] at h1; cases h1; exact h2
  · intro h2
    exact ⟨1, (o, σ), by rw [go_s, h], h2⟩
/-- what comes behind a call -/
noncomputable def aft (z : Nat) (r : List En) (ls st : List Value) (Q : Out → St → Prop) (o : Out) (σ : St) : Prop := match o with
  | .inl v => Wp z (r, ls, v.toList ++ st, σ) Q
  | .inr e => if hnd z = [] then Q (.inr e) σ else match fnd (hnd z) e with
    | none => False
    | some (b, k) => (okst ls k = true ∧ k < ls.length) ∧ Wp z (blk z b, ls.set k mk0, [], σ) Q
theorem wp_call {z y : Nat} {f g : Fr} {as : List Value} {Q : Out → St → Prop} (h : stp z f = some (.inr (.inr (y, as, g)))) : Wp z f Q = Ex y as g.2.2.2 (aft z g.1 g.2.1 g.2.2.1 Q) := by
  apply propext
  constructor
  · rintro ⟨n, q, h1, h2⟩
    cases n with
    | zero => exact absurd h1 (by simp [go])
    | succ n =>
      rw [go_s, h] at h1
      dsimp only at h1
      by_cases hp : (spr as).length ≤ mL y
      rotate_left
      · rw [if_neg hp] at h1; exact absurd h1 (by simp)
      rw [if_pos hp] at h1
      cases hc : go n y (ent y as g.2.2.2) with
      | none => rw [hc] at h1; exact absurd h1 (by simp)
      | some w =>
        rw [hc] at h1
        refine ⟨hp, n, w, hc, ?_⟩
        obtain ⟨v | e, σ'⟩ := w
        · exact ⟨n, q, h1, h2⟩
        · dsimp only [aft] at h1 ⊢
          by_cases h0 : hnd z = []
          · rw [if_pos h0] at h1 ⊢
            cases h1
            exact h2
          · rw [if_neg h0] at h1 ⊢
            cases hf : fnd (hnd z) e with
            | none => rw [hf] at h1; exact absurd h1 (by simp)
            | some bk =>
              rw [hf] at h1
              dsimp only at h1 ⊢
              by_cases h9 : okst g.2.1 bk.2 = true ∧ bk.2 < g.2.1.length
              · rw [if_pos h9] at h1
                exact ⟨h9, n, q, h1, h2⟩
              · rw [if_neg h9] at h1
                exact absurd h1 (by simp)
  · rintro ⟨hp, n, w, hc, h2⟩
    obtain ⟨v | e, σ'⟩ := w
    · obtain ⟨k, q, h3, h4⟩ := h2
      refine ⟨max n k + 1, q, ?_, h4⟩
      rw [go_s, h]
      dsimp only
      rw [if_pos hp]
      rw [go_k hc _ (Nat.le_max_left n k)]
      exact go_k h3 _ (Nat.le_max_right n k)
    · dsimp only [aft] at h2
      by_cases h0 : hnd z = []
      · rw [if_pos h0] at h2
        refine ⟨n + 1, (.inr e, σ'), ?_, h2⟩
        rw [go_s, h]
        dsimp only
        rw [if_pos hp]
        rw [hc]
        dsimp only
        rw [if_pos h0]
      · rw [if_neg h0] at h2
        cases hf : fnd (hnd z) e with
        | none => rw [hf] at h2; exact absurd h2 (by simp)
        | some bk =>
          rw [hf] at h2
          obtain ⟨h9, k, q, h3, h4⟩ := h2
          refine ⟨max n k + 1, q, ?_, h4⟩
          rw [go_s, h]
          dsimp only
          rw [if_pos hp]
          rw [go_k hc _ (Nat.le_max_left n k)]
          dsimp only
          rw [if_neg h0, hf]
          dsimp only
          rw [if_pos h9]
          exact go_k h3 _ (Nat.le_max_right n k)
theorem wp_mono {z : Nat} {f : Fr} {Q Q' : Out → St → Prop} (h : Wp z f Q) (hq : ∀ o σ, Q o σ → Q' o σ) : Wp z f Q' := by
  obtain ⟨n, q, h1, h2⟩ := h
  exact ⟨n, q, h1, hq _ _ h2⟩
