/-! EQUATIONS: one entry each, for the pure side -/
theorem wp_none {z : Nat} {f : Fr} {Q : Out → St → Prop} (h : stp z f = none) : Wp z f Q = False := by
  apply propext
  constructor
  · rintro ⟨n, q, h1, -⟩
    cases n with
    | zero => exact absurd h1 (by simp [go])
    | succ n => rw [go_s, h] at h1; exact absurd h1 (by simp)
  · exact False.elim
/-- where a table of jumps goes -/
def Wsw (z d : Nat) : List Nat → Int → Int32 → List Value → List Value → St → (Out → St → Prop) → Prop
  | [], _, _, ls, st, σ, Q => Wp z (blk z d, ls, st, σ) Q
  | b :: bs, lo, x, ls, st, σ, Q => if x = Int32.ofInt lo then Wp z (blk z b, ls, st, σ) Q else Wsw z d bs (lo + 1) x ls st σ Q
theorem wsw_n {z d : Nat} {lo : Int} {x : Int32} {ls st : List Value} {σ : St} {Q : Out → St → Prop} : Wsw z d [] lo x ls st σ Q = Wp z (blk z d, ls, st, σ) Q := rfl
theorem wsw_c {z d b : Nat} {bs : List Nat} {lo : Int} {x : Int32} {ls st : List Value} {σ : St} {Q : Out → St → Prop} : Wsw z d (b :: bs) lo x ls st σ Q = if x = Int32.ofInt lo then Wp z (blk z b, ls, st, σ) Q else Wsw z d bs (lo + 1) x ls st σ Q := rfl
theorem wsw_eq {z d : Nat} {ls st : List Value} {σ : St} {Q : Out → St → Prop} : ∀ {ts : List Nat} {lo : Int} {x : Int32}, Wsw z d ts lo x ls st σ Q = Wp z (blk z (swt d ts lo x), ls, st, σ) Q := by
  intro ts
  induction ts with
  | nil => intro lo x; rfl
  | cons b bs ih =>
    intro lo x
    rw [wsw_c, ih]
    show _ = Wp z (blk z (if x = Int32.ofInt lo then b else swt d bs (lo + 1) x), ls, st, σ) Q
    split <;> rfl
theorem scs {y n : Nat} {r : List En} {ls st as rest : List Value} {σ : St} (h4 : rest.length ≤ 4 ∨ (rest.map (fun v => v.category)).sum ≤ 8) (h1 : (st.take n).reverse = as) (h2 : st.drop n = rest) (h3 : Nat.ble n st.length = true) : sCall y n 0 r ls st σ = some (.inr (.inr (y, as, (r, ls, rest, σ)))) := by
  unfold sCall
  subst h1
  subst h2
  rw [if_pos ⟨Nat.le_of_ble_eq_true h3, h4⟩]
theorem scn {y n c : Nat} {r : List En} {ls st : List Value} {σ : St} (h : ¬ (n ≤ st.length ∧ ((st.drop n).length ≤ 4 ∨ ((st.drop n).map (fun v => v.category)).sum ≤ 8))) : sCall y n c r ls st σ = none := if_neg h
theorem scv {y n c p : Nat} {r : List En} {ls st as rest : List Value} {σ : St} (h4 : rest.length ≤ 4 ∨ (rest.map (fun v => v.category)).sum ≤ 8) (h1 : (st.take n).reverse = .ref p :: as) (h2 : st.drop n = rest) (h3 : Nat.ble n st.length = true) (hk : gK σ p = c) : sCall y n (c + 1) r ls st σ = some (.inr (.inr (y, .ref p :: as, (r, ls, rest, σ)))) := by
  unfold sCall
  subst h2
  rw [if_pos ⟨Nat.le_of_ble_eq_true h3, h4⟩]
  dsimp only
  rw [h1]
  exact if_pos hk
theorem scw {y n c p : Nat} {r : List En} {ls st as : List Value} {σ : St} (h1 : (st.take n).reverse = .ref p :: as) (hk : ¬ gK σ p = c) : sCall y n (c + 1) r ls st σ = none := by
  unfold sCall
  by_cases h : n ≤ st.length ∧ ((st.drop n).length ≤ 4 ∨ ((st.drop n).map (fun v => v.category)).sum ≤ 8)
  · rw [if_pos h]
    dsimp only
    rw [h1]
    exact if_neg hk
  · rw [if_neg h]
theorem aft_i {z : Nat} {r : List En} {ls st : List Value} {Q : Out → St → Prop} {v : Option Value} {σ : St} : aft z r ls st Q (.inl v) σ = Wp z (r, ls, v.toList ++ st, σ) Q := rfl
theorem aft_x {z e : Nat} {r : List En} {ls st : List Value} {Q : Out → St → Prop} {σ : St} (h : hnd z = []) : aft z r ls st Q (.inr e) σ = Q (.inr e) σ := if_pos h
theorem wq_iconst {z pc len : Nat} {ext : List Nat} {r : List En} {ls : List Value} {st : List Value} {σ : St} {Q : Out → St → Prop} {v : Int} : Wp z (((pc, Instr.iconst v, len, ext) :: r), ls, st, σ) Q = Wp z (r, ls, .int (Int32.ofInt v) :: st, σ) Q := wp_next rfl
theorem wq_bipush {z pc len : Nat} {ext : List Nat} {r : List En} {ls : List Value} {st : List Value} {σ : St} {Q : Out → St → Prop} {v : Int} : Wp z (((pc, Instr.bipush v, len, ext) :: r), ls, st, σ) Q = Wp z (r, ls, .long (Int64.ofInt v) :: st, σ) Q := wp_next rfl
theorem wq_fconst {z pc len : Nat} {ext : List Nat} {r : List En} {ls : List Value} {st : List Value} {σ : St} {Q : Out → St → Prop}  : Wp z (((pc, Instr.fconst 0, len, ext) :: r), ls, st, σ) Q = Wp z (r, ls, .float FP.fconst0 :: st, σ) Q := wp_next rfl
theorem wq_dconst {z pc len : Nat} {ext : List Nat} {r : List En} {ls : List Value} {st : List Value} {σ : St} {Q : Out → St → Prop}  : Wp z (((pc, Instr.dconst 0, len, ext) :: r), ls, st, σ) Q = Wp z (r, ls, .double FP.dconst0 :: st, σ) Q := wp_next rfl
theorem wq_iload {z pc len : Nat} {ext : List Nat} {r : List En} {ls : List Value} {st : List Value} {σ : St} {Q : Out → St → Prop} {k : Nat} : Wp z (((pc, Instr.iload k, len, ext) :: r), ls, st, σ) Q = (match ls[k]? with | some (.int x) => Wp z (r, ls, .int x :: st, σ) Q | _ => False) := by
  have hs : stp z (((pc, Instr.iload k, len, ext) :: r), ls, st, σ) = (match ls[k]? with | some (.int x) => nxt (r, ls, .int x :: st, σ) | _ => none) := rfl
  cases h : ls[k]? with
  | none => rw [h] at hs; exact wp_none hs
  | some w =>
    rw [h] at hs
    cases w <;> first | exact wp_none hs | exact wp_next hs
theorem wq_lload {z pc len : Nat} {ext : List Nat} {r : List En} {ls : List Value} {st : List Value} {σ : St} {Q : Out → St → Prop} {k : Nat} : Wp z (((pc, Instr.lload k, len, ext) :: r), ls, st, σ) Q = (match ls[k]? with | some (.long x) => Wp z (r, ls, .long x :: st, σ) Q | _ => False) := by
  have hs : stp z (((pc, Instr.lload k, len, ext) :: r), ls, st, σ) = (match ls[k]? with | some (.long x) => nxt (r, ls, .long x :: st, σ) | _ => none) := rfl
  cases h : ls[k]? with
  | none => rw [h] at hs; exact wp_none hs
  | some w =>
    rw [h] at hs
    cases w <;> first | exact wp_none hs | exact wp_next hs
theorem wq_fload {z pc len : Nat} {ext : List Nat} {r : List En} {ls : List Value} {st : List Value} {σ : St} {Q : Out → St → Prop} {k : Nat} : Wp z (((pc, Instr.fload k, len, ext) :: r), ls, st, σ) Q = (match ls[k]? with | some (.float x) => Wp z (r, ls, .float x :: st, σ) Q | _ => False) := by
  have hs : stp z (((pc, Instr.fload k, len, ext) :: r), ls, st, σ) = (match ls[k]? with | some (.float x) => nxt (r, ls, .float x :: st, σ) | _ => none) := rfl
  cases h : ls[k]? with
  | none => rw [h] at hs; exact wp_none hs
  | some w =>
    rw [h] at hs
    cases w <;> first | exact wp_none hs | exact wp_next hs
theorem wq_dload {z pc len : Nat} {ext : List Nat} {r : List En} {ls : List Value} {st : List Value} {σ : St} {Q : Out → St → Prop} {k : Nat} : Wp z (((pc, Instr.dload k, len, ext) :: r), ls, st, σ) Q = (match ls[k]? with | some (.double x) => Wp z (r, ls, .double x :: st, σ) Q | _ => False) := by
  have hs : stp z (((pc, Instr.dload k, len, ext) :: r), ls, st, σ) = (match ls[k]? with | some (.double x) => nxt (r, ls, .double x :: st, σ) | _ => none) := rfl
  cases h : ls[k]? with
  | none => rw [h] at hs; exact wp_none hs
  | some w =>
    rw [h] at hs
    cases w <;> first | exact wp_none hs | exact wp_next hs
theorem wq_aload {z pc len : Nat} {ext : List Nat} {r : List En} {ls : List Value} {st : List Value} {σ : St} {Q : Out → St → Prop} {k : Nat} : Wp z (((pc, Instr.aload k, len, ext) :: r), ls, st, σ) Q = (match ls[k]? with | some (.ref x) => Wp z (r, ls, .ref x :: st, σ) Q | _ => False) := by
  have hs : stp z (((pc, Instr.aload k, len, ext) :: r), ls, st, σ) = (match ls[k]? with | some (.ref x) => nxt (r, ls, .ref x :: st, σ) | _ => none) := rfl
  cases h : ls[k]? with
  | none => rw [h] at hs; exact wp_none hs
  | some w =>
    rw [h] at hs
    cases w <;> first | exact wp_none hs | exact wp_next hs
theorem wq_istore {z pc len : Nat} {ext : List Nat} {r : List En} {ls : List Value} {st : List Value} {σ : St} {Q : Out → St → Prop} {k : Nat} {x : Int32} : Wp z (((pc, Instr.istore k, len, ext) :: r), ls, .int x :: st, σ) Q = ((k < ls.length ∧ okst ls k = true) ∧ Wp z (r, ls.set k (.int x), st, σ) Q) := by
  by_cases hq : (k < ls.length ∧ okst ls k = true)
  · rw [wp_next (show stp z (((pc, Instr.istore k, len, ext) :: r), ls, .int x :: st, σ) = _ from if_pos hq)]
    exact propext ⟨fun h => ⟨hq, h⟩, fun h => h.2⟩
  · rw [wp_none (show stp z (((pc, Instr.istore k, len, ext) :: r), ls, .int x :: st, σ) = _ from if_neg hq)]
    exact propext ⟨False.elim, fun h => hq h.1⟩
theorem wq_fstore {z pc len : Nat} {ext : List Nat} {r : List En} {ls : List Value} {st : List Value} {σ : St} {Q : Out → St → Prop} {k : Nat} {x : UInt32} : Wp z (((pc, Instr.fstore k, len, ext) :: r), ls, .float x :: st, σ) Q = ((k < ls.length ∧ okst ls k = true) ∧ Wp z (r, ls.set k (.float x), st, σ) Q) := by
  by_cases hq : (k < ls.length ∧ okst ls k = true)
  · rw [wp_next (show stp z (((pc, Instr.fstore k, len, ext) :: r), ls, .float x :: st, σ) = _ from if_pos hq)]
    exact propext ⟨fun h => ⟨hq, h⟩, fun h => h.2⟩
  · rw [wp_none (show stp z (((pc, Instr.fstore k, len, ext) :: r), ls, .float x :: st, σ) = _ from if_neg hq)]
    exact propext ⟨False.elim, fun h => hq h.1⟩
theorem wq_astore {z pc len : Nat} {ext : List Nat} {r : List En} {ls : List Value} {st : List Value} {σ : St} {Q : Out → St → Prop} {k : Nat} {x : Nat} : Wp z (((pc, Instr.astore k, len, ext) :: r), ls, .ref x :: st, σ) Q = ((k < ls.length ∧ okst ls k = true) ∧ Wp z (r, ls.set k (.ref x), st, σ) Q) := by
  by_cases hq : (k < ls.length ∧ okst ls k = true)
  · rw [wp_next (show stp z (((pc, Instr.astore k, len, ext) :: r), ls, .ref x :: st, σ) = _ from if_pos hq)]
    exact propext ⟨fun h => ⟨hq, h⟩, fun h => h.2⟩
  · rw [wp_none (show stp z (((pc, Instr.astore k, len, ext) :: r), ls, .ref x :: st, σ) = _ from if_neg hq)]
    exact propext ⟨False.elim, fun h => hq h.1⟩
theorem wq_lstore {z pc len : Nat} {ext : List Nat} {r : List En} {ls : List Value} {st : List Value} {σ : St} {Q : Out → St → Prop} {k : Nat} {x : Int64} : Wp z (((pc, Instr.lstore k, len, ext) :: r), ls, .long x :: st, σ) Q = ((k + 1 < ls.length ∧ okst ls k = true) ∧ Wp z (r, (ls.set k (.long x)).set (k + 1) mk0, st, σ) Q) := by
  by_cases hq : (k + 1 < ls.length ∧ okst ls k = true)
  · rw [wp_next (show stp z (((pc, Instr.lstore k, len, ext) :: r), ls, .long x :: st, σ) = _ from if_pos hq)]
    exact propext ⟨fun h => ⟨hq, h⟩, fun h => h.2⟩
  · rw [wp_none (show stp z (((pc, Instr.lstore k, len, ext) :: r), ls, .long x :: st, σ) = _ from if_neg hq)]
    exact propext ⟨False.elim, fun h => hq h.1⟩
theorem wq_dstore {z pc len : Nat} {ext : List Nat} {r : List En} {ls : List Value} {st : List Value} {σ : St} {Q : Out → St → Prop} {k : Nat} {x : UInt64} : Wp z (((pc, Instr.dstore k, len, ext) :: r), ls, .double x :: st, σ) Q = ((k + 1 < ls.length ∧ okst ls k = true) ∧ Wp z (r, (ls.set k (.double x)).set (k + 1) mk0, st, σ) Q) := by
  by_cases hq : (k + 1 < ls.length ∧ okst ls k = true)
  · rw [wp_next (show stp z (((pc, Instr.dstore k, len, ext) :: r), ls, .double x :: st, σ) = _ from if_pos hq)]
    exact propext ⟨fun h => ⟨hq, h⟩, fun h => h.2⟩
  · rw [wp_none (show stp z (((pc, Instr.dstore k, len, ext) :: r), ls, .double x :: st, σ) = _ from if_neg hq)]
    exact propext ⟨False.elim, fun h => hq h.1⟩
theorem wq_iinc {z pc len : Nat} {ext : List Nat} {r : List En} {ls : List Value} {st : List Value} {σ : St} {Q : Out → St → Prop} {k : Nat} {n : Int} : Wp z (((pc, Instr.iinc k n, len, ext) :: r), ls, st, σ) Q = (match ls[k]? with | some (.int x) => ((k < ls.length ∧ okst ls k = true) ∧ Wp z (r, ls.set k (.int (x + Int32.ofInt n)), st, σ) Q) | _ => False) := by
  have hs : stp z (((pc, Instr.iinc k n, len, ext) :: r), ls, st, σ) = (match ls[k]? with | some (.int x) => (if k < ls.length ∧ okst ls k = true then nxt (r, ls.set k (.int (x + Int32.ofInt n)), st, σ) else none) | _ => none) := rfl
  cases h : ls[k]? with
  | none => rw [h] at hs; exact wp_none hs
  | some w =>
    rw [h] at hs
    cases w
    case int x =>
      dsimp only at hs ⊢
      by_cases hq : (k < ls.length ∧ okst ls k = true)
      · rw [if_pos hq] at hs
        rw [wp_next hs]
        exact propext ⟨fun h => ⟨hq, h⟩, fun h => h.2⟩
      · rw [if_neg hq] at hs
        rw [wp_none hs]
        exact propext ⟨False.elim, fun h => hq h.1⟩
    all_goals exact wp_none hs
theorem wq_iadd {z pc len : Nat} {ext : List Nat} {r : List En} {ls : List Value} {st : List Value} {σ : St} {Q : Out → St → Prop} {x y : Int32} : Wp z (((pc, Instr.iadd, len, ext) :: r), ls, .int y :: .int x :: st, σ) Q = Wp z (r, ls, .int (x + y) :: st, σ) Q := wp_next rfl
theorem wq_isub {z pc len : Nat} {ext : List Nat} {r : List En} {ls : List Value} {st : List Value} {σ : St} {Q : Out → St → Prop} {x y : Int32} : Wp z (((pc, Instr.isub, len, ext) :: r), ls, .int y :: .int x :: st, σ) Q = Wp z (r, ls, .int (x - y) :: st, σ) Q := wp_next rfl
theorem wq_imul {z pc len : Nat} {ext : List Nat} {r : List En} {ls : List Value} {st : List Value} {σ : St} {Q : Out → St → Prop} {x y : Int32} : Wp z (((pc, Instr.imul, len, ext) :: r), ls, .int y :: .int x :: st, σ) Q = Wp z (r, ls, .int (x * y) :: st, σ) Q := wp_next rfl
theorem wq_iand {z pc len : Nat} {ext : List Nat} {r : List En} {ls : List Value} {st : List Value} {σ : St} {Q : Out → St → Prop} {x y : Int32} : Wp z (((pc, Instr.iand, len, ext) :: r), ls, .int y :: .int x :: st, σ) Q = Wp z (r, ls, .int (x &&& y) :: st, σ) Q := wp_next rfl
theorem wq_ior {z pc len : Nat} {ext : List Nat} {r : List En} {ls : List Value} {st : List Value} {σ : St} {Q : Out → St → Prop} {x y : Int32} : Wp z (((pc, Instr.ior, len, ext) :: r), ls, .int y :: .int x :: st, σ) Q = Wp z (r, ls, .int (x ||| y) :: st, σ) Q := wp_next rfl
theorem wq_ixor {z pc len : Nat} {ext : List Nat} {r : List En} {ls : List Value} {st : List Value} {σ : St} {Q : Out → St → Prop} {x y : Int32} : Wp z (((pc, Instr.ixor, len, ext) :: r), ls, .int y :: .int x :: st, σ) Q = Wp z (r, ls, .int (x ^^^ y) :: st, σ) Q := wp_next rfl
theorem wq_ishl {z pc len : Nat} {ext : List Nat} {r : List En} {ls : List Value} {st : List Value} {σ : St} {Q : Out → St → Prop} {x y : Int32} : Wp z (((pc, Instr.ishl, len, ext) :: r), ls, .int y :: .int x :: st, σ) Q = Wp z (r, ls, .int (x <<< (y &&& 31)) :: st, σ) Q := wp_next rfl
theorem wq_ishr {z pc len : Nat} {ext : List Nat} {r : List En} {ls : List Value} {st : List Value} {σ : St} {Q : Out → St → Prop} {x y : Int32} : Wp z (((pc, Instr.ishr, len, ext) :: r), ls, .int y :: .int x :: st, σ) Q = Wp z (r, ls, .int (x >>> (y &&& 31)) :: st, σ) Q := wp_next rfl
theorem wq_iushr {z pc len : Nat} {ext : List Nat} {r : List En} {ls : List Value} {st : List Value} {σ : St} {Q : Out → St → Prop} {x y : Int32} : Wp z (((pc, Instr.iushr, len, ext) :: r), ls, .int y :: .int x :: st, σ) Q = Wp z (r, ls, .int ((x.toUInt32 >>> (y.toUInt32 &&& Int32.toUInt32 31)).toInt32) :: st, σ) Q := wp_next rfl
theorem wq_ladd {z pc len : Nat} {ext : List Nat} {r : List En} {ls : List Value} {st : List Value} {σ : St} {Q : Out → St → Prop} {x y : Int64} : Wp z (((pc, Instr.ladd, len, ext) :: r), ls, .long y :: .long x :: st, σ) Q = Wp z (r, ls, .long (x + y) :: st, σ) Q := wp_next rfl
theorem wq_lsub {z pc len : Nat} {ext : List Nat} {r : List En} {ls : List Value} {st : List Value} {σ : St} {Q : Out → St → Prop} {x y : Int64} : Wp z (((pc, Instr.lsub, len, ext) :: r), ls, .long y :: .long x :: st, σ) Q = Wp z (r, ls, .long (x - y) :: st, σ) Q := wp_next rfl
theorem wq_lmul {z pc len : Nat} {ext : List Nat} {r : List En} {ls : List Value} {st : List Value} {σ : St} {Q : Out → St → Prop} {x y : Int64} : Wp z (((pc, Instr.lmul, len, ext) :: r), ls, .long y :: .long x :: st, σ) Q = Wp z (r, ls, .long (x * y) :: st, σ) Q := wp_next rfl
theorem wq_land {z pc len : Nat} {ext : List Nat} {r : List En} {ls : List Value} {st : List Value} {σ : St} {Q : Out → St → Prop} {x y : Int64} : Wp z (((pc, Instr.land, len, ext) :: r), ls, .long y :: .long x :: st, σ) Q = Wp z (r, ls, .long (x &&& y) :: st, σ) Q := wp_next rfl
theorem wq_lor {z pc len : Nat} {ext : List Nat} {r : List En} {ls : List Value} {st : List Value} {σ : St} {Q : Out → St → Prop} {x y : Int64} : Wp z (((pc, Instr.lor, len, ext) :: r), ls, .long y :: .long x :: st, σ) Q = Wp z (r, ls, .long (x ||| y) :: st, σ) Q := wp_next rfl
theorem wq_lxor {z pc len : Nat} {ext : List Nat} {r : List En} {ls : List Value} {st : List Value} {σ : St} {Q : Out → St → Prop} {x y : Int64} : Wp z (((pc, Instr.lxor, len, ext) :: r), ls, .long y :: .long x :: st, σ) Q = Wp z (r, ls, .long (x ^^^ y) :: st, σ) Q := wp_next rfl
theorem wq_lshl {z pc len : Nat} {ext : List Nat} {r : List En} {ls : List Value} {st : List Value} {σ : St} {Q : Out → St → Prop} {x : Int64} {y : Int32} : Wp z (((pc, Instr.lshl, len, ext) :: r), ls, .int y :: .long x :: st, σ) Q = Wp z (r, ls, .long (x <<< (y.toInt64 &&& 63)) :: st, σ) Q := wp_next rfl
theorem wq_lushr {z pc len : Nat} {ext : List Nat} {r : List En} {ls : List Value} {st : List Value} {σ : St} {Q : Out → St → Prop} {x : Int64} {y : Int32} : Wp z (((pc, Instr.lushr, len, ext) :: r), ls, .int y :: .long x :: st, σ) Q = Wp z (r, ls, .long ((x.toUInt64 >>> (y.toInt64.toUInt64 &&& Int64.toUInt64 63)).toInt64) :: st, σ) Q := wp_next rfl
theorem wq_idiv {z pc len : Nat} {ext : List Nat} {r : List En} {ls : List Value} {st : List Value} {σ : St} {Q : Out → St → Prop} {x y : Int32} : Wp z (((pc, Instr.idiv, len, ext) :: r), ls, .int y :: .int x :: st, σ) Q = (¬ y = 0 ∧ Wp z (r, ls, .int (x / y) :: st, σ) Q) := by
  by_cases hq : y = 0
  · rw [wp_none (show stp z (((pc, Instr.idiv, len, ext) :: r), ls, .int y :: .int x :: st, σ) = _ from if_pos hq)]
    exact propext ⟨False.elim, fun h => h.1 hq⟩
  · rw [wp_next (show stp z (((pc, Instr.idiv, len, ext) :: r), ls, .int y :: .int x :: st, σ) = _ from if_neg hq)]
    exact propext ⟨fun h => ⟨hq, h⟩, fun h => h.2⟩
theorem wq_irem {z pc len : Nat} {ext : List Nat} {r : List En} {ls : List Value} {st : List Value} {σ : St} {Q : Out → St → Prop} {x y : Int32} : Wp z (((pc, Instr.irem, len, ext) :: r), ls, .int y :: .int x :: st, σ) Q = (¬ y = 0 ∧ Wp z (r, ls, .int (x - x / y * y) :: st, σ) Q) := by
  by_cases hq : y = 0
  · rw [wp_none (show stp z (((pc, Instr.irem, len, ext) :: r), ls, .int y :: .int x :: st, σ) = _ from if_pos hq)]
    exact propext ⟨False.elim, fun h => h.1 hq⟩
  · rw [wp_next (show stp z (((pc, Instr.irem, len, ext) :: r), ls, .int y :: .int x :: st, σ) = _ from if_neg hq)]
    exact propext ⟨fun h => ⟨hq, h⟩, fun h => h.2⟩
theorem wq_lrem {z pc len : Nat} {ext : List Nat} {r : List En} {ls : List Value} {st : List Value} {σ : St} {Q : Out → St → Prop} {x y : Int64} : Wp z (((pc, Instr.lrem, len, ext) :: r), ls, .long y :: .long x :: st, σ) Q = (¬ y = 0 ∧ Wp z (r, ls, .long (x - x / y * y) :: st, σ) Q) := by
  by_cases hq : y = 0
  · rw [wp_none (show stp z (((pc, Instr.lrem, len, ext) :: r), ls, .long y :: .long x :: st, σ) = _ from if_pos hq)]
    exact propext ⟨False.elim, fun h => h.1 hq⟩
  · rw [wp_next (show stp z (((pc, Instr.lrem, len, ext) :: r), ls, .long y :: .long x :: st, σ) = _ from if_neg hq)]
    exact propext ⟨fun h => ⟨hq, h⟩, fun h => h.2⟩
theorem wq_ifnull {z pc len : Nat} {ext : List Nat} {r : List En} {ls : List Value} {st : List Value} {σ : St} {Q : Out → St → Prop} {x : Nat} {off : Int} : Wp z (((pc, (Instr.ifnull off), len, ext) :: r), ls, .ref x :: st, σ) Q = Wp z (r, ls, st, σ) Q := wp_next rfl
theorem wq_lcmp {z pc len : Nat} {ext : List Nat} {r : List En} {ls : List Value} {st : List Value} {σ : St} {Q : Out → St → Prop} {x y : Int64} : Wp z (((pc, Instr.lcmp, len, ext) :: r), ls, .long y :: .long x :: st, σ) Q = Wp z (r, ls, .int (lg_cmp x y) :: st, σ) Q := wp_next rfl
theorem wq_fcmp {z pc len : Nat} {ext : List Nat} {r : List En} {ls : List Value} {st : List Value} {σ : St} {Q : Out → St → Prop} {x y : UInt32} {op : CmpOp} : Wp z (((pc, (Instr.fcmp op), len, ext) :: r), ls, .float y :: .float x :: st, σ) Q = Wp z (r, ls, .int (Op.cmpValue (FP.fcmp x y) op) :: st, σ) Q := wp_next rfl
theorem wq_dcmp {z pc len : Nat} {ext : List Nat} {r : List En} {ls : List Value} {st : List Value} {σ : St} {Q : Out → St → Prop} {x y : UInt64} {op : CmpOp} : Wp z (((pc, (Instr.dcmp op), len, ext) :: r), ls, .double y :: .double x :: st, σ) Q = Wp z (r, ls, .int (Op.cmpValue (FP.dcmp x y) op) :: st, σ) Q := wp_next rfl
theorem wq_i2l {z pc len : Nat} {ext : List Nat} {r : List En} {ls : List Value} {st : List Value} {σ : St} {Q : Out → St → Prop} {x : Int32} : Wp z (((pc, Instr.i2l, len, ext) :: r), ls, .int x :: st, σ) Q = Wp z (r, ls, .long x.toInt64 :: st, σ) Q := wp_next rfl
theorem wq_l2i {z pc len : Nat} {ext : List Nat} {r : List En} {ls : List Value} {st : List Value} {σ : St} {Q : Out → St → Prop} {x : Int64} : Wp z (((pc, Instr.l2i, len, ext) :: r), ls, .long x :: st, σ) Q = Wp z (r, ls, .int x.toInt32 :: st, σ) Q := wp_next rfl
theorem wq_i2f {z pc len : Nat} {ext : List Nat} {r : List En} {ls : List Value} {st : List Value} {σ : St} {Q : Out → St → Prop} {x : Int32} : Wp z (((pc, Instr.i2f, len, ext) :: r), ls, .int x :: st, σ) Q = Wp z (r, ls, .float (FP.i2f x) :: st, σ) Q := wp_next rfl
theorem wq_i2d {z pc len : Nat} {ext : List Nat} {r : List En} {ls : List Value} {st : List Value} {σ : St} {Q : Out → St → Prop} {x : Int32} : Wp z (((pc, Instr.i2d, len, ext) :: r), ls, .int x :: st, σ) Q = Wp z (r, ls, .double (FP.i2d x) :: st, σ) Q := wp_next rfl
theorem wq_f2d {z pc len : Nat} {ext : List Nat} {r : List En} {ls : List Value} {st : List Value} {σ : St} {Q : Out → St → Prop} {x : UInt32} : Wp z (((pc, Instr.f2d, len, ext) :: r), ls, .float x :: st, σ) Q = (((FP.f2d x) &&& 0x7fffffffffffffff ≤ 0x7ff0000000000000) ∧ Wp z (r, ls, .double (FP.f2d x) :: st, σ) Q) := by
  by_cases hq : ((FP.f2d x) &&& 0x7fffffffffffffff ≤ 0x7ff0000000000000)
  · rw [wp_next (show stp z (((pc, Instr.f2d, len, ext) :: r), ls, .float x :: st, σ) = _ from if_pos hq)]
    exact propext ⟨fun h => ⟨hq, h⟩, fun h => h.2⟩
  · rw [wp_none (show stp z (((pc, Instr.f2d, len, ext) :: r), ls, .float x :: st, σ) = _ from if_neg hq)]
    exact propext ⟨False.elim, fun h => hq h.1⟩
theorem wq_fdiv {z pc len : Nat} {ext : List Nat} {r : List En} {ls : List Value} {st : List Value} {σ : St} {Q : Out → St → Prop} {x y : UInt32} : Wp z (((pc, Instr.fdiv, len, ext) :: r), ls, .float y :: .float x :: st, σ) Q = (((FP.fdiv x y) &&& 0x7fffffff ≤ 0x7f800000) ∧ Wp z (r, ls, .float (FP.fdiv x y) :: st, σ) Q) := by
  by_cases hq : ((FP.fdiv x y) &&& 0x7fffffff ≤ 0x7f800000)
  · rw [wp_next (show stp z (((pc, Instr.fdiv, len, ext) :: r), ls, .float y :: .float x :: st, σ) = _ from if_pos hq)]
    exact propext ⟨fun h => ⟨hq, h⟩, fun h => h.2⟩
  · rw [wp_none (show stp z (((pc, Instr.fdiv, len, ext) :: r), ls, .float y :: .float x :: st, σ) = _ from if_neg hq)]
    exact propext ⟨False.elim, fun h => hq h.1⟩
theorem wq_ddiv {z pc len : Nat} {ext : List Nat} {r : List En} {ls : List Value} {st : List Value} {σ : St} {Q : Out → St → Prop} {x y : UInt64} : Wp z (((pc, Instr.ddiv, len, ext) :: r), ls, .double y :: .double x :: st, σ) Q = (((FP.ddiv x y) &&& 0x7fffffffffffffff ≤ 0x7ff0000000000000) ∧ Wp z (r, ls, .double (FP.ddiv x y) :: st, σ) Q) := by
  by_cases hq : ((FP.ddiv x y) &&& 0x7fffffffffffffff ≤ 0x7ff0000000000000)
  · rw [wp_next (show stp z (((pc, Instr.ddiv, len, ext) :: r), ls, .double y :: .double x :: st, σ) = _ from if_pos hq)]
    exact propext ⟨fun h => ⟨hq, h⟩, fun h => h.2⟩
  · rw [wp_none (show stp z (((pc, Instr.ddiv, len, ext) :: r), ls, .double y :: .double x :: st, σ) = _ from if_neg hq)]
    exact propext ⟨False.elim, fun h => hq h.1⟩
theorem wq_dupi {z pc len : Nat} {ext : List Nat} {r : List En} {ls : List Value} {st : List Value} {σ : St} {Q : Out → St → Prop} {x : Int32} : Wp z (((pc, Instr.dup, len, ext) :: r), ls, .int x :: st, σ) Q = Wp z (r, ls, .int x :: .int x :: st, σ) Q := wp_next rfl
theorem wq_dupr {z pc len : Nat} {ext : List Nat} {r : List En} {ls : List Value} {st : List Value} {σ : St} {Q : Out → St → Prop} {x : Nat} : Wp z (((pc, Instr.dup, len, ext) :: r), ls, .ref x :: st, σ) Q = Wp z (r, ls, .ref x :: .ref x :: st, σ) Q := wp_next rfl
theorem wq_dup2 {z pc len : Nat} {ext : List Nat} {r : List En} {ls : List Value} {st : List Value} {σ : St} {Q : Out → St → Prop} {x : Int32} {y : Nat} : Wp z (((pc, Instr.dup2, len, ext) :: r), ls, .int x :: .ref y :: st, σ) Q = Wp z (r, ls, .int x :: .ref y :: .int x :: .ref y :: st, σ) Q := wp_next rfl
theorem wq_popi {z pc len : Nat} {ext : List Nat} {r : List En} {ls : List Value} {st : List Value} {σ : St} {Q : Out → St → Prop} {x : Int32} : Wp z (((pc, Instr.pop, len, ext) :: r), ls, .int x :: st, σ) Q = Wp z (r, ls, st, σ) Q := wp_next rfl
theorem wq_popr {z pc len : Nat} {ext : List Nat} {r : List En} {ls : List Value} {st : List Value} {σ : St} {Q : Out → St → Prop} {x : Nat} : Wp z (((pc, Instr.pop, len, ext) :: r), ls, .ref x :: st, σ) Q = Wp z (r, ls, st, σ) Q := wp_next rfl
theorem wq_if_eq {z pc len : Nat} {r : List En} {ls : List Value} {st : List Value} {σ : St} {Q : Out → St → Prop} {b : Nat} {off : Int} {x : Int32} : Wp z (((pc, (Instr.ifCond .eq off), len, [b]) :: r), ls, .int x :: st, σ) Q = (if x = 0 then Wp z (blk z b, ls, st, σ) Q else Wp z (r, ls, st, σ) Q) := by
  by_cases hq : x = 0
  · rw [if_pos hq]
    exact wp_next (show stp z (((pc, (Instr.ifCond .eq off), len, [b]) :: r), ls, .int x :: st, σ) = _ from if_pos (decide_eq_true hq))
  · rw [if_neg hq]
    exact wp_next (show stp z (((pc, (Instr.ifCond .eq off), len, [b]) :: r), ls, .int x :: st, σ) = _ from if_neg (fun h => hq (of_decide_eq_true h)))
theorem wq_ic_eq {z pc len : Nat} {r : List En} {ls : List Value} {st : List Value} {σ : St} {Q : Out → St → Prop} {b : Nat} {off : Int} {x y : Int32} : Wp z (((pc, (Instr.if_icmp .eq off), len, [b]) :: r), ls, .int y :: .int x :: st, σ) Q = (if x = y then Wp z (blk z b, ls, st, σ) Q else Wp z (r, ls, st, σ) Q) := by
  by_cases hq : x = y
  · rw [if_pos hq]
    exact wp_next (show stp z (((pc, (Instr.if_icmp .eq off), len, [b]) :: r), ls, .int y :: .int x :: st, σ) = _ from if_pos (decide_eq_true hq))
  · rw [if_neg hq]
    exact wp_next (show stp z (((pc, (Instr.if_icmp .eq off), len, [b]) :: r), ls, .int y :: .int x :: st, σ) = _ from if_neg (fun h => hq (of_decide_eq_true h)))
theorem wq_if_ne {z pc len : Nat} {r : List En} {ls : List Value} {st : List Value} {σ : St} {Q : Out → St → Prop} {b : Nat} {off : Int} {x : Int32} : Wp z (((pc, (Instr.ifCond .ne off), len, [b]) :: r), ls, .int x :: st, σ) Q = (if ¬ x = 0 then Wp z (blk z b, ls, st, σ) Q else Wp z (r, ls, st, σ) Q) := by
  by_cases hq : ¬ x = 0
  · rw [if_pos hq]
    exact wp_next (show stp z (((pc, (Instr.ifCond .ne off), len, [b]) :: r), ls, .int x :: st, σ) = _ from if_pos ((by show (!decide (x = 0)) = true; rw [decide_eq_false hq]; rfl)))
  · rw [if_neg hq]
    exact wp_next (show stp z (((pc, (Instr.ifCond .ne off), len, [b]) :: r), ls, .int x :: st, σ) = _ from if_neg (fun h => hq (fun e => by rw [show brc .ne x 0 = (!decide (x = 0)) from rfl, decide_eq_true e] at h; cases h)))
theorem wq_ic_ne {z pc len : Nat} {r : List En} {ls : List Value} {st : List Value} {σ : St} {Q : Out → St → Prop} {b : Nat} {off : Int} {x y : Int32} : Wp z (((pc, (Instr.if_icmp .ne off), len, [b]) :: r), ls, .int y :: .int x :: st, σ) Q = (if ¬ x = y then Wp z (blk z b, ls, st, σ) Q else Wp z (r, ls, st, σ) Q) := by
  by_cases hq : ¬ x = y
  · rw [if_pos hq]
    exact wp_next (show stp z (((pc, (Instr.if_icmp .ne off), len, [b]) :: r), ls, .int y :: .int x :: st, σ) = _ from if_pos ((by show (!decide (x = y)) = true; rw [decide_eq_false hq]; rfl)))
  · rw [if_neg hq]
    exact wp_next (show stp z (((pc, (Instr.if_icmp .ne off), len, [b]) :: r), ls, .int y :: .int x :: st, σ) = _ from if_neg (fun h => hq (fun e => by rw [show brc .ne x y = (!decide (x = y)) from rfl, decide_eq_true e] at h; cases h)))
theorem wq_if_lt {z pc len : Nat} {r : List En} {ls : List Value} {st : List Value} {σ : St} {Q : Out → St → Prop} {b : Nat} {off : Int} {x : Int32} : Wp z (((pc, (Instr.ifCond .lt off), len, [b]) :: r), ls, .int x :: st, σ) Q = (if x < 0 then Wp z (blk z b, ls, st, σ) Q else Wp z (r, ls, st, σ) Q) := by
  by_cases hq : x < 0
  · rw [if_pos hq]
    exact wp_next (show stp z (((pc, (Instr.ifCond .lt off), len, [b]) :: r), ls, .int x :: st, σ) = _ from if_pos (decide_eq_true hq))
  · rw [if_neg hq]
    exact wp_next (show stp z (((pc, (Instr.ifCond .lt off), len, [b]) :: r), ls, .int x :: st, σ) = _ from if_neg (fun h => hq (of_decide_eq_true h)))
theorem wq_ic_lt {z pc len : Nat} {r : List En} {ls : List Value} {st : List Value} {σ : St} {Q : Out → St → Prop} {b : Nat} {off : Int} {x y : Int32} : Wp z (((pc, (Instr.if_icmp .lt off), len, [b]) :: r), ls, .int y :: .int x :: st, σ) Q = (if x < y then Wp z (blk z b, ls, st, σ) Q else Wp z (r, ls, st, σ) Q) := by
  by_cases hq : x < y
  · rw [if_pos hq]
    exact wp_next (show stp z (((pc, (Instr.if_icmp .lt off), len, [b]) :: r), ls, .int y :: .int x :: st, σ) = _ from if_pos (decide_eq_true hq))
  · rw [if_neg hq]
    exact wp_next (show stp z (((pc, (Instr.if_icmp .lt off), len, [b]) :: r), ls, .int y :: .int x :: st, σ) = _ from if_neg (fun h => hq (of_decide_eq_true h)))
theorem wq_if_ge {z pc len : Nat} {r : List En} {ls : List Value} {st : List Value} {σ : St} {Q : Out → St → Prop} {b : Nat} {off : Int} {x : Int32} : Wp z (((pc, (Instr.ifCond .ge off), len, [b]) :: r), ls, .int x :: st, σ) Q = (if 0 ≤ x then Wp z (blk z b, ls, st, σ) Q else Wp z (r, ls, st, σ) Q) := by
  by_cases hq : 0 ≤ x
  · rw [if_pos hq]
    exact wp_next (show stp z (((pc, (Instr.ifCond .ge off), len, [b]) :: r), ls, .int x :: st, σ) = _ from if_pos (decide_eq_true hq))
  · rw [if_neg hq]
    exact wp_next (show stp z (((pc, (Instr.ifCond .ge off), len, [b]) :: r), ls, .int x :: st, σ) = _ from if_neg (fun h => hq (of_decide_eq_true h)))
theorem wq_ic_ge {z pc len : Nat} {r : List En} {ls : List Value} {st : List Value} {σ : St} {Q : Out → St → Prop} {b : Nat} {off : Int} {x y : Int32} : Wp z (((pc, (Instr.if_icmp .ge off), len, [b]) :: r), ls, .int y :: .int x :: st, σ) Q = (if y ≤ x then Wp z (blk z b, ls, st, σ) Q else Wp z (r, ls, st, σ) Q) := by
  by_cases hq : y ≤ x
  · rw [if_pos hq]
    exact wp_next (show stp z (((pc, (Instr.if_icmp .ge off), len, [b]) :: r), ls, .int y :: .int x :: st, σ) = _ from if_pos (decide_eq_true hq))
  · rw [if_neg hq]
    exact wp_next (show stp z (((pc, (Instr.if_icmp .ge off), len, [b]) :: r), ls, .int y :: .int x :: st, σ) = _ from if_neg (fun h => hq (of_decide_eq_true h)))
theorem wq_if_gt {z pc len : Nat} {r : List En} {ls : List Value} {st : List Value} {σ : St} {Q : Out → St → Prop} {b : Nat} {off : Int} {x : Int32} : Wp z (((pc, (Instr.ifCond .gt off), len, [b]) :: r), ls, .int x :: st, σ) Q = (if 0 < x then Wp z (blk z b, ls, st, σ) Q else Wp z (r, ls, st, σ) Q) := by
  by_cases hq : 0 < x
  · rw [if_pos hq]
    exact wp_next (show stp z (((pc, (Instr.ifCond .gt off), len, [b]) :: r), ls, .int x :: st, σ) = _ from if_pos (decide_eq_true hq))
  · rw [if_neg hq]
    exact wp_next (show stp z (((pc, (Instr.ifCond .gt off), len, [b]) :: r), ls, .int x :: st, σ) = _ from if_neg (fun h => hq (of_decide_eq_true h)))
theorem wq_ic_gt {z pc len : Nat} {r : List En} {ls : List Value} {st : List Value} {σ : St} {Q : Out → St → Prop} {b : Nat} {off : Int} {x y : Int32} : Wp z (((pc, (Instr.if_icmp .gt off), len, [b]) :: r), ls, .int y :: .int x :: st, σ) Q = (if y < x then Wp z (blk z b, ls, st, σ) Q else Wp z (r, ls, st, σ) Q) := by
  by_cases hq : y < x
  · rw [if_pos hq]
    exact wp_next (show stp z (((pc, (Instr.if_icmp .gt off), len, [b]) :: r), ls, .int y :: .int x :: st, σ) = _ from if_pos (decide_eq_true hq))
  · rw [if_neg hq]
    exact wp_next (show stp z (((pc, (Instr.if_icmp .gt off), len, [b]) :: r), ls, .int y :: .int x :: st, σ) = _ from if_neg (fun h => hq (of_decide_eq_true h)))
theorem wq_if_le {z pc len : Nat} {r : List En} {ls : List Value} {st : List Value} {σ : St} {Q : Out → St → Prop} {b : Nat} {off : Int} {x : Int32} : Wp z (((pc, (Instr.ifCond .le off), len, [b]) :: r), ls, .int x :: st, σ) Q = (if x ≤ 0 then Wp z (blk z b, ls, st, σ) Q else Wp z (r, ls, st, σ) Q) := by
  by_cases hq : x ≤ 0
  · rw [if_pos hq]
    exact wp_next (show stp z (((pc, (Instr.ifCond .le off), len, [b]) :: r), ls, .int x :: st, σ) = _ from if_pos (decide_eq_true hq))
  · rw [if_neg hq]
    exact wp_next (show stp z (((pc, (Instr.ifCond .le off), len, [b]) :: r), ls, .int x :: st, σ) = _ from if_neg (fun h => hq (of_decide_eq_true h)))
theorem wq_ic_le {z pc len : Nat} {r : List En} {ls : List Value} {st : List Value} {σ : St} {Q : Out → St → Prop} {b : Nat} {off : Int} {x y : Int32} : Wp z (((pc, (Instr.if_icmp .le off), len, [b]) :: r), ls, .int y :: .int x :: st, σ) Q = (if x ≤ y then Wp z (blk z b, ls, st, σ) Q else Wp z (r, ls, st, σ) Q) := by
  by_cases hq : x ≤ y
  · rw [if_pos hq]
    exact wp_next (show stp z (((pc, (Instr.if_icmp .le off), len, [b]) :: r), ls, .int y :: .int x :: st, σ) = _ from if_pos (decide_eq_true hq))
  · rw [if_neg hq]
    exact wp_next (show stp z (((pc, (Instr.if_icmp .le off), len, [b]) :: r), ls, .int y :: .int x :: st, σ) = _ from if_neg (fun h => hq (of_decide_eq_true h)))
theorem wq_goto {z pc len : Nat} {r : List En} {ls : List Value} {st : List Value} {σ : St} {Q : Out → St → Prop} {b : Nat} {off : Int} : Wp z (((pc, (Instr.goto off), len, [b]) :: r), ls, st, σ) Q = Wp z (blk z b, ls, st, σ) Q := wp_next rfl
theorem wq_nop {z pc len : Nat} {r : List En} {ls : List Value} {st : List Value} {σ : St} {Q : Out → St → Prop} {b : Nat} : Wp z (((pc, Instr.nop, len, [b]) :: r), ls, st, σ) Q = Wp z (blk z b, ls, st, σ) Q := wp_next rfl
theorem wq_tsw {z pc len : Nat} {r : List En} {ls : List Value} {st : List Value} {σ : St} {Q : Out → St → Prop} {b : Nat} {ts : List Nat} {d lo hi : Int} {offs : Array Int} {x : Int32} : Wp z (((pc, (Instr.tableswitch d lo hi offs), len, (b :: ts)) :: r), ls, .int x :: st, σ) Q = Wsw z b ts lo x ls st σ Q := (wp_next rfl).trans wsw_eq.symm
theorem wq_getfield {z pc len : Nat} {r : List En} {ls : List Value} {st : List Value} {σ : St} {Q : Out → St → Prop} {n c k t f p : Nat} : Wp z (((pc, (Instr.getfield n), len, [c, k, t, f]) :: r), ls, .ref p :: st, σ) Q = (gK σ p = c ∧ Wp z (r, ls, gf σ t p k :: st, σ) Q) := by
  by_cases hq : gK σ p = c
  · rw [wp_next (show stp z (((pc, (Instr.getfield n), len, [c, k, t, f]) :: r), ls, .ref p :: st, σ) = _ from if_pos hq)]
    exact propext ⟨fun h => ⟨hq, h⟩, fun h => h.2⟩
  · rw [wp_none (show stp z (((pc, (Instr.getfield n), len, [c, k, t, f]) :: r), ls, .ref p :: st, σ) = _ from if_neg hq)]
    exact propext ⟨False.elim, fun h => hq h.1⟩
theorem wq_pfi {z pc len : Nat} {r : List En} {ls : List Value} {st : List Value} {σ : St} {Q : Out → St → Prop} {n c k t f p : Nat} {x : Int32} : Wp z (((pc, (Instr.putfield n), len, [c, k, t, f]) :: r), ls, .int x :: .ref p :: st, σ) Q = ((gK σ p = c ∧ t = 1) ∧ Wp z (r, ls, st, setI σ p k x) Q) := by
  by_cases hq : (gK σ p = c ∧ t = 1)
  · rw [wp_next (show stp z (((pc, (Instr.putfield n), len, [c, k, t, f]) :: r), ls, .int x :: .ref p :: st, σ) = _ from if_pos hq)]
    exact propext ⟨fun h => ⟨hq, h⟩, fun h => h.2⟩
  · rw [wp_none (show stp z (((pc, (Instr.putfield n), len, [c, k, t, f]) :: r), ls, .int x :: .ref p :: st, σ) = _ from if_neg hq)]
    exact propext ⟨False.elim, fun h => hq h.1⟩
theorem wq_pfl {z pc len : Nat} {r : List En} {ls : List Value} {st : List Value} {σ : St} {Q : Out → St → Prop} {n c k t f p : Nat} {x : Int64} : Wp z (((pc, (Instr.putfield n), len, [c, k, t, f]) :: r), ls, .long x :: .ref p :: st, σ) Q = ((gK σ p = c ∧ t = 2) ∧ Wp z (r, ls, st, setL σ p k x) Q) := by
  by_cases hq : (gK σ p = c ∧ t = 2)
  · rw [wp_next (show stp z (((pc, (Instr.putfield n), len, [c, k, t, f]) :: r), ls, .long x :: .ref p :: st, σ) = _ from if_pos hq)]
    exact propext ⟨fun h => ⟨hq, h⟩, fun h => h.2⟩
  · rw [wp_none (show stp z (((pc, (Instr.putfield n), len, [c, k, t, f]) :: r), ls, .long x :: .ref p :: st, σ) = _ from if_neg hq)]
    exact propext ⟨False.elim, fun h => hq h.1⟩
theorem wq_pfr {z pc len : Nat} {r : List En} {ls : List Value} {st : List Value} {σ : St} {Q : Out → St → Prop} {n c k t f p : Nat} {x : Nat} : Wp z (((pc, (Instr.putfield n), len, [c, k, t, f]) :: r), ls, .ref x :: .ref p :: st, σ) Q = ((gK σ p = c ∧ t = 3) ∧ Wp z (r, ls, st, setR σ p k (some x)) Q) := by
  by_cases hq : (gK σ p = c ∧ t = 3)
  · rw [wp_next (show stp z (((pc, (Instr.putfield n), len, [c, k, t, f]) :: r), ls, .ref x :: .ref p :: st, σ) = _ from if_pos hq)]
    exact propext ⟨fun h => ⟨hq, h⟩, fun h => h.2⟩
  · rw [wp_none (show stp z (((pc, (Instr.putfield n), len, [c, k, t, f]) :: r), ls, .ref x :: .ref p :: st, σ) = _ from if_neg hq)]
    exact propext ⟨False.elim, fun h => hq h.1⟩
theorem wq_getstatic {z pc len : Nat} {ext : List Nat} {r : List En} {ls : List Value} {st : List Value} {σ : St} {Q : Out → St → Prop} {n : Nat} : Wp z (((pc, (Instr.getstatic n), len, ext) :: r), ls, st, σ) Q = Wp z (r, ls, .ref 1 :: st, σ) Q := wp_next rfl
theorem wq_iaload {z pc len : Nat} {ext : List Nat} {r : List En} {ls : List Value} {st : List Value} {σ : St} {Q : Out → St → Prop} {p : Nat} {i : Int32} : Wp z (((pc, Instr.iaload, len, ext) :: r), ls, .int i :: .ref p :: st, σ) Q = (((gK σ p = 10 ∨ p = 1 ∨ (p = 0 ∧ gK σ 0 = 20)) ∧ inb i (gN σ p)) ∧ Wp z (r, ls, .int (gI σ p i.toNatClampNeg) :: st, σ) Q) := by
  by_cases hq : ((gK σ p = 10 ∨ p = 1 ∨ (p = 0 ∧ gK σ 0 = 20)) ∧ inb i (gN σ p))
  · rw [wp_next (show stp z (((pc, Instr.iaload, len, ext) :: r), ls, .int i :: .ref p :: st, σ) = _ from if_pos hq)]
    exact propext ⟨fun h => ⟨hq, h⟩, fun h => h.2⟩
  · rw [wp_none (show stp z (((pc, Instr.iaload, len, ext) :: r), ls, .int i :: .ref p :: st, σ) = _ from if_neg hq)]
    exact propext ⟨False.elim, fun h => hq h.1⟩
theorem wq_baload {z pc len : Nat} {ext : List Nat} {r : List En} {ls : List Value} {st : List Value} {σ : St} {Q : Out → St → Prop} {p : Nat} {i : Int32} : Wp z (((pc, Instr.baload, len, ext) :: r), ls, .int i :: .ref p :: st, σ) Q = ((gK σ p = 11 ∧ inb i (gN σ p)) ∧ Wp z (r, ls, .int (gI σ p i.toNatClampNeg) :: st, σ) Q) := by
  by_cases hq : (gK σ p = 11 ∧ inb i (gN σ p))
  · rw [wp_next (show stp z (((pc, Instr.baload, len, ext) :: r), ls, .int i :: .ref p :: st, σ) = _ from if_pos hq)]
    exact propext ⟨fun h => ⟨hq, h⟩, fun h => h.2⟩
  · rw [wp_none (show stp z (((pc, Instr.baload, len, ext) :: r), ls, .int i :: .ref p :: st, σ) = _ from if_neg hq)]
    exact propext ⟨False.elim, fun h => hq h.1⟩
theorem wq_laload {z pc len : Nat} {ext : List Nat} {r : List En} {ls : List Value} {st : List Value} {σ : St} {Q : Out → St → Prop} {p : Nat} {i : Int32} : Wp z (((pc, Instr.laload, len, ext) :: r), ls, .int i :: .ref p :: st, σ) Q = ((gK σ p = 12 ∧ inb i (gN σ p)) ∧ Wp z (r, ls, .long (gL σ p i.toNatClampNeg) :: st, σ) Q) := by
  by_cases hq : (gK σ p = 12 ∧ inb i (gN σ p))
  · rw [wp_next (show stp z (((pc, Instr.laload, len, ext) :: r), ls, .int i :: .ref p :: st, σ) = _ from if_pos hq)]
    exact propext ⟨fun h => ⟨hq, h⟩, fun h => h.2⟩
  · rw [wp_none (show stp z (((pc, Instr.laload, len, ext) :: r), ls, .int i :: .ref p :: st, σ) = _ from if_neg hq)]
    exact propext ⟨False.elim, fun h => hq h.1⟩
theorem wq_daload {z pc len : Nat} {ext : List Nat} {r : List En} {ls : List Value} {st : List Value} {σ : St} {Q : Out → St → Prop} {p : Nat} {i : Int32} : Wp z (((pc, Instr.daload, len, ext) :: r), ls, .int i :: .ref p :: st, σ) Q = ((gK σ p = 13 ∧ inb i (gN σ p)) ∧ Wp z (r, ls, .double (gD σ p i.toNatClampNeg) :: st, σ) Q) := by
  by_cases hq : (gK σ p = 13 ∧ inb i (gN σ p))
  · rw [wp_next (show stp z (((pc, Instr.daload, len, ext) :: r), ls, .int i :: .ref p :: st, σ) = _ from if_pos hq)]
    exact propext ⟨fun h => ⟨hq, h⟩, fun h => h.2⟩
  · rw [wp_none (show stp z (((pc, Instr.daload, len, ext) :: r), ls, .int i :: .ref p :: st, σ) = _ from if_neg hq)]
    exact propext ⟨False.elim, fun h => hq h.1⟩
theorem wq_aaload {z pc len : Nat} {ext : List Nat} {r : List En} {ls : List Value} {st : List Value} {σ : St} {Q : Out → St → Prop} {p : Nat} {i : Int32} : Wp z (((pc, Instr.aaload, len, ext) :: r), ls, .int i :: .ref p :: st, σ) Q = ((isRA (gK σ p) = true ∧ inb i (gN σ p)) ∧ Wp z (r, ls, rv (gR σ p i.toNatClampNeg) :: st, σ) Q) := by
  by_cases hq : (isRA (gK σ p) = true ∧ inb i (gN σ p))
  · rw [wp_next (show stp z (((pc, Instr.aaload, len, ext) :: r), ls, .int i :: .ref p :: st, σ) = _ from if_pos hq)]
    exact propext ⟨fun h => ⟨hq, h⟩, fun h => h.2⟩
  · rw [wp_none (show stp z (((pc, Instr.aaload, len, ext) :: r), ls, .int i :: .ref p :: st, σ) = _ from if_neg hq)]
    exact propext ⟨False.elim, fun h => hq h.1⟩
theorem wq_iastore {z pc len : Nat} {ext : List Nat} {r : List En} {ls : List Value} {st : List Value} {σ : St} {Q : Out → St → Prop} {p : Nat} {i : Int32} {x : Int32} : Wp z (((pc, Instr.iastore, len, ext) :: r), ls, .int x :: .int i :: .ref p :: st, σ) Q = ((gK σ p = 10 ∧ inb i (gN σ p)) ∧ Wp z (r, ls, st, setI σ p i.toNatClampNeg x) Q) := by
  by_cases hq : (gK σ p = 10 ∧ inb i (gN σ p))
  · rw [wp_next (show stp z (((pc, Instr.iastore, len, ext) :: r), ls, .int x :: .int i :: .ref p :: st, σ) = _ from if_pos hq)]
    exact propext ⟨fun h => ⟨hq, h⟩, fun h => h.2⟩
  · rw [wp_none (show stp z (((pc, Instr.iastore, len, ext) :: r), ls, .int x :: .int i :: .ref p :: st, σ) = _ from if_neg hq)]
    exact propext ⟨False.elim, fun h => hq h.1⟩
theorem wq_bastore {z pc len : Nat} {ext : List Nat} {r : List En} {ls : List Value} {st : List Value} {σ : St} {Q : Out → St → Prop} {p : Nat} {i : Int32} {x : Int32} : Wp z (((pc, Instr.bastore, len, ext) :: r), ls, .int x :: .int i :: .ref p :: st, σ) Q = ((gK σ p = 11 ∧ inb i (gN σ p)) ∧ Wp z (r, ls, st, setI σ p i.toNatClampNeg (vp_nar .boolean x)) Q) := by
  by_cases hq : (gK σ p = 11 ∧ inb i (gN σ p))
  · rw [wp_next (show stp z (((pc, Instr.bastore, len, ext) :: r), ls, .int x :: .int i :: .ref p :: st, σ) = _ from if_pos hq)]
    exact propext ⟨fun h => ⟨hq, h⟩, fun h => h.2⟩
  · rw [wp_none (show stp z (((pc, Instr.bastore, len, ext) :: r), ls, .int x :: .int i :: .ref p :: st, σ) = _ from if_neg hq)]
    exact propext ⟨False.elim, fun h => hq h.1⟩
theorem wq_lastore {z pc len : Nat} {ext : List Nat} {r : List En} {ls : List Value} {st : List Value} {σ : St} {Q : Out → St → Prop} {p : Nat} {i : Int32} {x : Int64} : Wp z (((pc, Instr.lastore, len, ext) :: r), ls, .long x :: .int i :: .ref p :: st, σ) Q = ((gK σ p = 12 ∧ inb i (gN σ p)) ∧ Wp z (r, ls, st, setL σ p i.toNatClampNeg x) Q) := by
  by_cases hq : (gK σ p = 12 ∧ inb i (gN σ p))
  · rw [wp_next (show stp z (((pc, Instr.lastore, len, ext) :: r), ls, .long x :: .int i :: .ref p :: st, σ) = _ from if_pos hq)]
    exact propext ⟨fun h => ⟨hq, h⟩, fun h => h.2⟩
  · rw [wp_none (show stp z (((pc, Instr.lastore, len, ext) :: r), ls, .long x :: .int i :: .ref p :: st, σ) = _ from if_neg hq)]
    exact propext ⟨False.elim, fun h => hq h.1⟩
theorem wq_dastore {z pc len : Nat} {ext : List Nat} {r : List En} {ls : List Value} {st : List Value} {σ : St} {Q : Out → St → Prop} {p : Nat} {i : Int32} {x : UInt64} : Wp z (((pc, Instr.dastore, len, ext) :: r), ls, .double x :: .int i :: .ref p :: st, σ) Q = ((gK σ p = 13 ∧ inb i (gN σ p)) ∧ Wp z (r, ls, st, setD σ p i.toNatClampNeg x) Q) := by
  by_cases hq : (gK σ p = 13 ∧ inb i (gN σ p))
  · rw [wp_next (show stp z (((pc, Instr.dastore, len, ext) :: r), ls, .double x :: .int i :: .ref p :: st, σ) = _ from if_pos hq)]
    exact propext ⟨fun h => ⟨hq, h⟩, fun h => h.2⟩
  · rw [wp_none (show stp z (((pc, Instr.dastore, len, ext) :: r), ls, .double x :: .int i :: .ref p :: st, σ) = _ from if_neg hq)]
    exact propext ⟨False.elim, fun h => hq h.1⟩
theorem wq_aastore {z pc len : Nat} {ext : List Nat} {r : List En} {ls : List Value} {st : List Value} {σ : St} {Q : Out → St → Prop} {p x : Nat} {i : Int32} : Wp z (((pc, Instr.aastore, len, ext) :: r), ls, .ref x :: .int i :: .ref p :: st, σ) Q = ((isRA (gK σ p) = true ∧ gK σ x = ek (gK σ p) ∧ inb i (gN σ p)) ∧ Wp z (r, ls, st, setR σ p i.toNatClampNeg (some x)) Q) := by
  by_cases hq : (isRA (gK σ p) = true ∧ gK σ x = ek (gK σ p) ∧ inb i (gN σ p))
  · rw [wp_next (show stp z (((pc, Instr.aastore, len, ext) :: r), ls, .ref x :: .int i :: .ref p :: st, σ) = _ from if_pos hq)]
    exact propext ⟨fun h => ⟨hq, h⟩, fun h => h.2⟩
  · rw [wp_none (show stp z (((pc, Instr.aastore, len, ext) :: r), ls, .ref x :: .int i :: .ref p :: st, σ) = _ from if_neg hq)]
    exact propext ⟨False.elim, fun h => hq h.1⟩
theorem wq_arraylength {z pc len : Nat} {ext : List Nat} {r : List En} {ls : List Value} {st : List Value} {σ : St} {Q : Out → St → Prop} {p : Nat} : Wp z (((pc, Instr.arraylength, len, ext) :: r), ls, .ref p :: st, σ) Q = (((10 ≤ gK σ p ∧ gK σ p ≤ 18) ∨ p = 1 ∨ (p = 0 ∧ gK σ 0 = 20)) ∧ Wp z (r, ls, .int (Int32.ofNat (gN σ p)) :: st, σ) Q) := by
  by_cases hq : ((10 ≤ gK σ p ∧ gK σ p ≤ 18) ∨ p = 1 ∨ (p = 0 ∧ gK σ 0 = 20))
  · rw [wp_next (show stp z (((pc, Instr.arraylength, len, ext) :: r), ls, .ref p :: st, σ) = _ from if_pos hq)]
    exact propext ⟨fun h => ⟨hq, h⟩, fun h => h.2⟩
  · rw [wp_none (show stp z (((pc, Instr.arraylength, len, ext) :: r), ls, .ref p :: st, σ) = _ from if_neg hq)]
    exact propext ⟨False.elim, fun h => hq h.1⟩
theorem wq_new {z pc len : Nat} {r : List En} {ls : List Value} {st : List Value} {σ : St} {Q : Out → St → Prop} {n c f : Nat} : Wp z (((pc, (Instr.new n), len, [c, f]) :: r), ls, st, σ) Q = Wp z (r, ls, .ref (gx σ + 2) :: st, al σ c (nf c)) Q := wp_next rfl
theorem wq_newarray {z pc len : Nat} {r : List En} {ls : List Value} {st : List Value} {σ : St} {Q : Out → St → Prop} {a : ArrayType} {k : Nat} {n : Int32} : Wp z (((pc, (Instr.newarray a), len, [k]) :: r), ls, .int n :: st, σ) Q = ((¬ n < 0 ∧ n.toNatClampNeg ≤ 100000) ∧ Wp z (r, ls, .ref (gx σ + 2) :: st, al σ k n.toNatClampNeg) Q) := by
  by_cases hq : (¬ n < 0 ∧ n.toNatClampNeg ≤ 100000)
  · rw [wp_next (show stp z (((pc, (Instr.newarray a), len, [k]) :: r), ls, .int n :: st, σ) = _ from if_pos hq)]
    exact propext ⟨fun h => ⟨hq, h⟩, fun h => h.2⟩
  · rw [wp_none (show stp z (((pc, (Instr.newarray a), len, [k]) :: r), ls, .int n :: st, σ) = _ from if_neg hq)]
    exact propext ⟨False.elim, fun h => hq h.1⟩
theorem wq_anewarray {z pc len : Nat} {r : List En} {ls : List Value} {st : List Value} {σ : St} {Q : Out → St → Prop} {a k f : Nat} {n : Int32} : Wp z (((pc, (Instr.anewarray a), len, [k, f]) :: r), ls, .int n :: st, σ) Q = ((¬ n < 0 ∧ n.toNatClampNeg ≤ 100000) ∧ Wp z (r, ls, .ref (gx σ + 2) :: st, al σ k n.toNatClampNeg) Q) := by
  by_cases hq : (¬ n < 0 ∧ n.toNatClampNeg ≤ 100000)
  · rw [wp_next (show stp z (((pc, (Instr.anewarray a), len, [k, f]) :: r), ls, .int n :: st, σ) = _ from if_pos hq)]
    exact propext ⟨fun h => ⟨hq, h⟩, fun h => h.2⟩
  · rw [wp_none (show stp z (((pc, (Instr.anewarray a), len, [k, f]) :: r), ls, .int n :: st, σ) = _ from if_neg hq)]
    exact propext ⟨False.elim, fun h => hq h.1⟩
theorem wq_multi {z pc len : Nat} {ext : List Nat} {r : List En} {ls : List Value} {st : List Value} {σ : St} {Q : Out → St → Prop} {a b : Nat} {k n : Int32} : Wp z (((pc, (Instr.multianewarray a b), len, ext) :: r), ls, .int k :: .int n :: st, σ) Q = ((¬ n < 0 ∧ ¬ k < 0 ∧ n.toNatClampNeg ≤ 10000 ∧ k.toNatClampNeg ≤ 10000) ∧ Wp z (r, ls, .ref (gx σ + 2) :: st, alM σ n.toNatClampNeg k.toNatClampNeg) Q) := by
  by_cases hq : (¬ n < 0 ∧ ¬ k < 0 ∧ n.toNatClampNeg ≤ 10000 ∧ k.toNatClampNeg ≤ 10000)
  · rw [wp_next (show stp z (((pc, (Instr.multianewarray a b), len, ext) :: r), ls, .int k :: .int n :: st, σ) = _ from if_pos hq)]
    exact propext ⟨fun h => ⟨hq, h⟩, fun h => h.2⟩
  · rw [wp_none (show stp z (((pc, (Instr.multianewarray a b), len, ext) :: r), ls, .int k :: .int n :: st, σ) = _ from if_neg hq)]
    exact propext ⟨False.elim, fun h => hq h.1⟩
theorem wq_copy {z pc len : Nat} {r : List En} {ls : List Value} {st : List Value} {σ : St} {Q : Out → St → Prop} {i a a0 p1 : Nat} {n dp sp : Int32} : Wp z (((pc, (Instr.invokestatic i), len, [p1]) :: r), ls, .int n :: .int dp :: .ref a :: .int sp :: .ref a0 :: st, σ) Q = ((gK σ a0 = 10 ∧ gK σ a = 10 ∧ ¬ sp < 0 ∧ ¬ dp < 0 ∧ ¬ n < 0 ∧ sp.toNatClampNeg + n.toNatClampNeg ≤ gN σ a0 ∧ dp.toNatClampNeg + n.toNatClampNeg ≤ gN σ a ∧ st.length ≤ 4) ∧ Wp z (r, ls, st, rowI σ a (va_cpy (gI σ a0) (gI σ a) sp.toNatClampNeg dp.toNatClampNeg n.toNatClampNeg)) Q) := by
  by_cases hq : (gK σ a0 = 10 ∧ gK σ a = 10 ∧ ¬ sp < 0 ∧ ¬ dp < 0 ∧ ¬ n < 0 ∧ sp.toNatClampNeg + n.toNatClampNeg ≤ gN σ a0 ∧ dp.toNatClampNeg + n.toNatClampNeg ≤ gN σ a ∧ st.length ≤ 4)
  · rw [wp_next (show stp z (((pc, (Instr.invokestatic i), len, [p1]) :: r), ls, .int n :: .int dp :: .ref a :: .int sp :: .ref a0 :: st, σ) = _ from if_pos hq)]
    exact propext ⟨fun h => ⟨hq, h⟩, fun h => h.2⟩
  · rw [wp_none (show stp z (((pc, (Instr.invokestatic i), len, [p1]) :: r), ls, .int n :: .int dp :: .ref a :: .int sp :: .ref a0 :: st, σ) = _ from if_neg hq)]
    exact propext ⟨False.elim, fun h => hq h.1⟩
theorem wq_mmax {z pc len : Nat} {r : List En} {ls : List Value} {st : List Value} {σ : St} {Q : Out → St → Prop} {i p1 : Nat} {x y : Int32} : Wp z (((pc, (Instr.invokestatic i), len, [p1, 0]) :: r), ls, .int y :: .int x :: st, σ) Q = (st.length ≤ 4 ∧ Wp z (r, ls, .int (if x < y then y else x) :: st, σ) Q) := by
  by_cases hq : st.length ≤ 4
  · rw [wp_next (show stp z (((pc, (Instr.invokestatic i), len, [p1, 0]) :: r), ls, .int y :: .int x :: st, σ) = _ from if_pos hq)]
    exact propext ⟨fun h => ⟨hq, h⟩, fun h => h.2⟩
  · rw [wp_none (show stp z (((pc, (Instr.invokestatic i), len, [p1, 0]) :: r), ls, .int y :: .int x :: st, σ) = _ from if_neg hq)]
    exact propext ⟨False.elim, fun h => hq h.1⟩
theorem wq_mmin {z pc len : Nat} {r : List En} {ls : List Value} {st : List Value} {σ : St} {Q : Out → St → Prop} {i p1 : Nat} {x y : Int32} : Wp z (((pc, (Instr.invokestatic i), len, [p1, 1]) :: r), ls, .int y :: .int x :: st, σ) Q = (st.length ≤ 4 ∧ Wp z (r, ls, .int (if y < x then y else x) :: st, σ) Q) := by
  by_cases hq : st.length ≤ 4
  · rw [wp_next (show stp z (((pc, (Instr.invokestatic i), len, [p1, 1]) :: r), ls, .int y :: .int x :: st, σ) = _ from if_pos hq)]
    exact propext ⟨fun h => ⟨hq, h⟩, fun h => h.2⟩
  · rw [wp_none (show stp z (((pc, (Instr.invokestatic i), len, [p1, 1]) :: r), ls, .int y :: .int x :: st, σ) = _ from if_neg hq)]
    exact propext ⟨False.elim, fun h => hq h.1⟩
theorem wq_oi {z pc len : Nat} {r : List En} {ls : List Value} {st : List Value} {σ : St} {Q : Out → St → Prop} {i p1 x : Nat} : Wp z (((pc, (Instr.invokespecial i), len, [p1]) :: r), ls, .ref x :: st, σ) Q = (st.length ≤ 4 ∧ Wp z (r, ls, st, σ) Q) := by
  by_cases hq : st.length ≤ 4
  · rw [wp_next (show stp z (((pc, (Instr.invokespecial i), len, [p1]) :: r), ls, .ref x :: st, σ) = _ from if_pos hq)]
    exact propext ⟨fun h => ⟨hq, h⟩, fun h => h.2⟩
  · rw [wp_none (show stp z (((pc, (Instr.invokespecial i), len, [p1]) :: r), ls, .ref x :: st, σ) = _ from if_neg hq)]
    exact propext ⟨False.elim, fun h => hq h.1⟩
theorem wq_cs0 {z pc len : Nat} {r : List En} {ls : List Value} {st : List Value} {σ : St} {Q : Out → St → Prop} {i y f : Nat} : Wp z (((pc, (Instr.invokestatic i), len, [y, 0, 0, f]) :: r), ls, st, σ) Q = ((st.length ≤ 4 ∨ (st.map (fun v => v.category)).sum ≤ 8) ∧ Ex y [] σ (aft z r ls st Q)) := by
  by_cases hq : (st.length ≤ 4 ∨ (st.map (fun v => v.category)).sum ≤ 8)
  · rw [wp_call (show stp z (((pc, (Instr.invokestatic i), len, [y, 0, 0, f]) :: r), ls, st, σ) = _ from scs hq rfl rfl rfl)]
    exact propext ⟨fun h => ⟨hq, h⟩, fun h => h.2⟩
  · rw [wp_none (show stp z (((pc, (Instr.invokestatic i), len, [y, 0, 0, f]) :: r), ls, st, σ) = _ from scn (y := y) (n := 0) (c := 0) (r := r) (ls := ls) (st := st) (σ := σ) (fun h => hq h.2))]
    exact propext ⟨False.elim, fun h => hq h.1⟩
theorem wq_cs1 {z pc len : Nat} {r : List En} {ls : List Value} {st : List Value} {σ : St} {Q : Out → St → Prop} {i y f : Nat} {v0 : Value} : Wp z (((pc, (Instr.invokestatic i), len, [y, 1, 0, f]) :: r), ls, v0 :: st, σ) Q = ((st.length ≤ 4 ∨ (st.map (fun v => v.category)).sum ≤ 8) ∧ Ex y [v0] σ (aft z r ls st Q)) := by
  by_cases hq : (st.length ≤ 4 ∨ (st.map (fun v => v.category)).sum ≤ 8)
  · rw [wp_call (show stp z (((pc, (Instr.invokestatic i), len, [y, 1, 0, f]) :: r), ls, v0 :: st, σ) = _ from scs hq rfl rfl rfl)]
    exact propext ⟨fun h => ⟨hq, h⟩, fun h => h.2⟩
  · rw [wp_none (show stp z (((pc, (Instr.invokestatic i), len, [y, 1, 0, f]) :: r), ls, v0 :: st, σ) = _ from scn (y := y) (n := 1) (c := 0) (r := r) (ls := ls) (st := v0 :: st) (σ := σ) (fun h => hq h.2))]
    exact propext ⟨False.elim, fun h => hq h.1⟩
theorem wq_cs2 {z pc len : Nat} {r : List En} {ls : List Value} {st : List Value} {σ : St} {Q : Out → St → Prop} {i y f : Nat} {v0 v1 : Value} : Wp z (((pc, (Instr.invokestatic i), len, [y, 2, 0, f]) :: r), ls, v1 :: v0 :: st, σ) Q = ((st.length ≤ 4 ∨ (st.map (fun v => v.category)).sum ≤ 8) ∧ Ex y [v0, v1] σ (aft z r ls st Q)) := by
  by_cases hq : (st.length ≤ 4 ∨ (st.map (fun v => v.category)).sum ≤ 8)
  · rw [wp_call (show stp z (((pc, (Instr.invokestatic i), len, [y, 2, 0, f]) :: r), ls, v1 :: v0 :: st, σ) = _ from scs hq rfl rfl rfl)]
    exact propext ⟨fun h => ⟨hq, h⟩, fun h => h.2⟩
  · rw [wp_none (show stp z (((pc, (Instr.invokestatic i), len, [y, 2, 0, f]) :: r), ls, v1 :: v0 :: st, σ) = _ from scn (y := y) (n := 2) (c := 0) (r := r) (ls := ls) (st := v1 :: v0 :: st) (σ := σ) (fun h => hq h.2))]
    exact propext ⟨False.elim, fun h => hq h.1⟩
theorem wq_cs3 {z pc len : Nat} {r : List En} {ls : List Value} {st : List Value} {σ : St} {Q : Out → St → Prop} {i y f : Nat} {v0 v1 v2 : Value} : Wp z (((pc, (Instr.invokestatic i), len, [y, 3, 0, f]) :: r), ls, v2 :: v1 :: v0 :: st, σ) Q = ((st.length ≤ 4 ∨ (st.map (fun v => v.category)).sum ≤ 8) ∧ Ex y [v0, v1, v2] σ (aft z r ls st Q)) := by
  by_cases hq : (st.length ≤ 4 ∨ (st.map (fun v => v.category)).sum ≤ 8)
  · rw [wp_call (show stp z (((pc, (Instr.invokestatic i), len, [y, 3, 0, f]) :: r), ls, v2 :: v1 :: v0 :: st, σ) = _ from scs hq rfl rfl rfl)]
    exact propext ⟨fun h => ⟨hq, h⟩, fun h => h.2⟩
  · rw [wp_none (show stp z (((pc, (Instr.invokestatic i), len, [y, 3, 0, f]) :: r), ls, v2 :: v1 :: v0 :: st, σ) = _ from scn (y := y) (n := 3) (c := 0) (r := r) (ls := ls) (st := v2 :: v1 :: v0 :: st) (σ := σ) (fun h => hq h.2))]
    exact propext ⟨False.elim, fun h => hq h.1⟩
theorem wq_cs4 {z pc len : Nat} {r : List En} {ls : List Value} {st : List Value} {σ : St} {Q : Out → St → Prop} {i y f : Nat} {v0 v1 v2 v3 : Value} : Wp z (((pc, (Instr.invokestatic i), len, [y, 4, 0, f]) :: r), ls, v3 :: v2 :: v1 :: v0 :: st, σ) Q = ((st.length ≤ 4 ∨ (st.map (fun v => v.category)).sum ≤ 8) ∧ Ex y [v0, v1, v2, v3] σ (aft z r ls st Q)) := by
  by_cases hq : (st.length ≤ 4 ∨ (st.map (fun v => v.category)).sum ≤ 8)
  · rw [wp_call (show stp z (((pc, (Instr.invokestatic i), len, [y, 4, 0, f]) :: r), ls, v3 :: v2 :: v1 :: v0 :: st, σ) = _ from scs hq rfl rfl rfl)]
    exact propext ⟨fun h => ⟨hq, h⟩, fun h => h.2⟩
  · rw [wp_none (show stp z (((pc, (Instr.invokestatic i), len, [y, 4, 0, f]) :: r), ls, v3 :: v2 :: v1 :: v0 :: st, σ) = _ from scn (y := y) (n := 4) (c := 0) (r := r) (ls := ls) (st := v3 :: v2 :: v1 :: v0 :: st) (σ := σ) (fun h => hq h.2))]
    exact propext ⟨False.elim, fun h => hq h.1⟩
theorem wq_cs5 {z pc len : Nat} {r : List En} {ls : List Value} {st : List Value} {σ : St} {Q : Out → St → Prop} {i y f : Nat} {v0 v1 v2 v3 v4 : Value} : Wp z (((pc, (Instr.invokestatic i), len, [y, 5, 0, f]) :: r), ls, v4 :: v3 :: v2 :: v1 :: v0 :: st, σ) Q = ((st.length ≤ 4 ∨ (st.map (fun v => v.category)).sum ≤ 8) ∧ Ex y [v0, v1, v2, v3, v4] σ (aft z r ls st Q)) := by
  by_cases hq : (st.length ≤ 4 ∨ (st.map (fun v => v.category)).sum ≤ 8)
  · rw [wp_call (show stp z (((pc, (Instr.invokestatic i), len, [y, 5, 0, f]) :: r), ls, v4 :: v3 :: v2 :: v1 :: v0 :: st, σ) = _ from scs hq rfl rfl rfl)]
    exact propext ⟨fun h => ⟨hq, h⟩, fun h => h.2⟩
  · rw [wp_none (show stp z (((pc, (Instr.invokestatic i), len, [y, 5, 0, f]) :: r), ls, v4 :: v3 :: v2 :: v1 :: v0 :: st, σ) = _ from scn (y := y) (n := 5) (c := 0) (r := r) (ls := ls) (st := v4 :: v3 :: v2 :: v1 :: v0 :: st) (σ := σ) (fun h => hq h.2))]
    exact propext ⟨False.elim, fun h => hq h.1⟩
theorem wq_cs6 {z pc len : Nat} {r : List En} {ls : List Value} {st : List Value} {σ : St} {Q : Out → St → Prop} {i y f : Nat} {v0 v1 v2 v3 v4 v5 : Value} : Wp z (((pc, (Instr.invokestatic i), len, [y, 6, 0, f]) :: r), ls, v5 :: v4 :: v3 :: v2 :: v1 :: v0 :: st, σ) Q = ((st.length ≤ 4 ∨ (st.map (fun v => v.category)).sum ≤ 8) ∧ Ex y [v0, v1, v2, v3, v4, v5] σ (aft z r ls st Q)) := by
  by_cases hq : (st.length ≤ 4 ∨ (st.map (fun v => v.category)).sum ≤ 8)
  · rw [wp_call (show stp z (((pc, (Instr.invokestatic i), len, [y, 6, 0, f]) :: r), ls, v5 :: v4 :: v3 :: v2 :: v1 :: v0 :: st, σ) = _ from scs hq rfl rfl rfl)]
    exact propext ⟨fun h => ⟨hq, h⟩, fun h => h.2⟩
  · rw [wp_none (show stp z (((pc, (Instr.invokestatic i), len, [y, 6, 0, f]) :: r), ls, v5 :: v4 :: v3 :: v2 :: v1 :: v0 :: st, σ) = _ from scn (y := y) (n := 6) (c := 0) (r := r) (ls := ls) (st := v5 :: v4 :: v3 :: v2 :: v1 :: v0 :: st) (σ := σ) (fun h => hq h.2))]
    exact propext ⟨False.elim, fun h => hq h.1⟩
theorem wq_cs7 {z pc len : Nat} {r : List En} {ls : List Value} {st : List Value} {σ : St} {Q : Out → St → Prop} {i y f : Nat} {v0 v1 v2 v3 v4 v5 v6 : Value} : Wp z (((pc, (Instr.invokestatic i), len, [y, 7, 0, f]) :: r), ls, v6 :: v5 :: v4 :: v3 :: v2 :: v1 :: v0 :: st, σ) Q = ((st.length ≤ 4 ∨ (st.map (fun v => v.category)).sum ≤ 8) ∧ Ex y [v0, v1, v2, v3, v4, v5, v6] σ (aft z r ls st Q)) := by
  by_cases hq : (st.length ≤ 4 ∨ (st.map (fun v => v.category)).sum ≤ 8)
  · rw [wp_call (show stp z (((pc, (Instr.invokestatic i), len, [y, 7, 0, f]) :: r), ls, v6 :: v5 :: v4 :: v3 :: v2 :: v1 :: v0 :: st, σ) = _ from scs hq rfl rfl rfl)]
    exact propext ⟨fun h => ⟨hq, h⟩, fun h => h.2⟩
  · rw [wp_none (show stp z (((pc, (Instr.invokestatic i), len, [y, 7, 0, f]) :: r), ls, v6 :: v5 :: v4 :: v3 :: v2 :: v1 :: v0 :: st, σ) = _ from scn (y := y) (n := 7) (c := 0) (r := r) (ls := ls) (st := v6 :: v5 :: v4 :: v3 :: v2 :: v1 :: v0 :: st) (σ := σ) (fun h => hq h.2))]
    exact propext ⟨False.elim, fun h => hq h.1⟩
theorem wq_cv1 {z pc len : Nat} {r : List En} {ls : List Value} {st : List Value} {σ : St} {Q : Out → St → Prop} {i y c f p : Nat} : Wp z (((pc, (Instr.invokevirtual i), len, [y, 1, c + 1, f]) :: r), ls, .ref p :: st, σ) Q = (((st.length ≤ 4 ∨ (st.map (fun v => v.category)).sum ≤ 8) ∧ gK σ p = c) ∧ Ex y (.ref p :: []) σ (aft z r ls st Q)) := by
  by_cases hq : (st.length ≤ 4 ∨ (st.map (fun v => v.category)).sum ≤ 8)
  · by_cases hk : gK σ p = c
    · rw [wp_call (show stp z (((pc, (Instr.invokevirtual i), len, [y, 1, c + 1, f]) :: r), ls, .ref p :: st, σ) = _ from scv hq rfl rfl rfl hk)]
      exact propext ⟨fun h => ⟨⟨hq, hk⟩, h⟩, fun h => h.2⟩
    · rw [wp_none (show stp z (((pc, (Instr.invokevirtual i), len, [y, 1, c + 1, f]) :: r), ls, .ref p :: st, σ) = _ from scw rfl hk)]
      exact propext ⟨False.elim, fun h => hk h.1.2⟩
  · rw [wp_none (show stp z (((pc, (Instr.invokevirtual i), len, [y, 1, c + 1, f]) :: r), ls, .ref p :: st, σ) = _ from scn (y := y) (n := 1) (c := c + 1) (r := r) (ls := ls) (st := .ref p :: st) (σ := σ) (fun h => hq h.2))]
    exact propext ⟨False.elim, fun h => hq h.1.1⟩
theorem wq_cv2 {z pc len : Nat} {r : List En} {ls : List Value} {st : List Value} {σ : St} {Q : Out → St → Prop} {i y c f p : Nat} {v0 : Value} : Wp z (((pc, (Instr.invokevirtual i), len, [y, 2, c + 1, f]) :: r), ls, v0 :: .ref p :: st, σ) Q = (((st.length ≤ 4 ∨ (st.map (fun v => v.category)).sum ≤ 8) ∧ gK σ p = c) ∧ Ex y (.ref p :: [v0]) σ (aft z r ls st Q)) := by
  by_cases hq : (st.length ≤ 4 ∨ (st.map (fun v => v.category)).sum ≤ 8)
  · by_cases hk : gK σ p = c
    · rw [wp_call (show stp z (((pc, (Instr.invokevirtual i), len, [y, 2, c + 1, f]) :: r), ls, v0 :: .ref p :: st, σ) = _ from scv hq rfl rfl rfl hk)]
      exact propext ⟨fun h => ⟨⟨hq, hk⟩, h⟩, fun h => h.2⟩
    · rw [wp_none (show stp z (((pc, (Instr.invokevirtual i), len, [y, 2, c + 1, f]) :: r), ls, v0 :: .ref p :: st, σ) = _ from scw rfl hk)]
      exact propext ⟨False.elim, fun h => hk h.1.2⟩
  · rw [wp_none (show stp z (((pc, (Instr.invokevirtual i), len, [y, 2, c + 1, f]) :: r), ls, v0 :: .ref p :: st, σ) = _ from scn (y := y) (n := 2) (c := c + 1) (r := r) (ls := ls) (st := v0 :: .ref p :: st) (σ := σ) (fun h => hq h.2))]
    exact propext ⟨False.elim, fun h => hq h.1.1⟩
theorem wq_cv3 {z pc len : Nat} {r : List En} {ls : List Value} {st : List Value} {σ : St} {Q : Out → St → Prop} {i y c f p : Nat} {v0 v1 : Value} : Wp z (((pc, (Instr.invokevirtual i), len, [y, 3, c + 1, f]) :: r), ls, v1 :: v0 :: .ref p :: st, σ) Q = (((st.length ≤ 4 ∨ (st.map (fun v => v.category)).sum ≤ 8) ∧ gK σ p = c) ∧ Ex y (.ref p :: [v0, v1]) σ (aft z r ls st Q)) := by
  by_cases hq : (st.length ≤ 4 ∨ (st.map (fun v => v.category)).sum ≤ 8)
  · by_cases hk : gK σ p = c
    · rw [wp_call (show stp z (((pc, (Instr.invokevirtual i), len, [y, 3, c + 1, f]) :: r), ls, v1 :: v0 :: .ref p :: st, σ) = _ from scv hq rfl rfl rfl hk)]
      exact propext ⟨fun h => ⟨⟨hq, hk⟩, h⟩, fun h => h.2⟩
    · rw [wp_none (show stp z (((pc, (Instr.invokevirtual i), len, [y, 3, c + 1, f]) :: r), ls, v1 :: v0 :: .ref p :: st, σ) = _ from scw rfl hk)]
      exact propext ⟨False.elim, fun h => hk h.1.2⟩
  · rw [wp_none (show stp z (((pc, (Instr.invokevirtual i), len, [y, 3, c + 1, f]) :: r), ls, v1 :: v0 :: .ref p :: st, σ) = _ from scn (y := y) (n := 3) (c := c + 1) (r := r) (ls := ls) (st := v1 :: v0 :: .ref p :: st) (σ := σ) (fun h => hq h.2))]
    exact propext ⟨False.elim, fun h => hq h.1.1⟩
theorem wq_cv4 {z pc len : Nat} {r : List En} {ls : List Value} {st : List Value} {σ : St} {Q : Out → St → Prop} {i y c f p : Nat} {v0 v1 v2 : Value} : Wp z (((pc, (Instr.invokevirtual i), len, [y, 4, c + 1, f]) :: r), ls, v2 :: v1 :: v0 :: .ref p :: st, σ) Q = (((st.length ≤ 4 ∨ (st.map (fun v => v.category)).sum ≤ 8) ∧ gK σ p = c) ∧ Ex y (.ref p :: [v0, v1, v2]) σ (aft z r ls st Q)) := by
  by_cases hq : (st.length ≤ 4 ∨ (st.map (fun v => v.category)).sum ≤ 8)
  · by_cases hk : gK σ p = c
    · rw [wp_call (show stp z (((pc, (Instr.invokevirtual i), len, [y, 4, c + 1, f]) :: r), ls, v2 :: v1 :: v0 :: .ref p :: st, σ) = _ from scv hq rfl rfl rfl hk)]
      exact propext ⟨fun h => ⟨⟨hq, hk⟩, h⟩, fun h => h.2⟩
    · rw [wp_none (show stp z (((pc, (Instr.invokevirtual i), len, [y, 4, c + 1, f]) :: r), ls, v2 :: v1 :: v0 :: .ref p :: st, σ) = _ from scw rfl hk)]
      exact propext ⟨False.elim, fun h => hk h.1.2⟩
  · rw [wp_none (show stp z (((pc, (Instr.invokevirtual i), len, [y, 4, c + 1, f]) :: r), ls, v2 :: v1 :: v0 :: .ref p :: st, σ) = _ from scn (y := y) (n := 4) (c := c + 1) (r := r) (ls := ls) (st := v2 :: v1 :: v0 :: .ref p :: st) (σ := σ) (fun h => hq h.2))]
    exact propext ⟨False.elim, fun h => hq h.1.1⟩
theorem wq_cv5 {z pc len : Nat} {r : List En} {ls : List Value} {st : List Value} {σ : St} {Q : Out → St → Prop} {i y c f p : Nat} {v0 v1 v2 v3 : Value} : Wp z (((pc, (Instr.invokevirtual i), len, [y, 5, c + 1, f]) :: r), ls, v3 :: v2 :: v1 :: v0 :: .ref p :: st, σ) Q = (((st.length ≤ 4 ∨ (st.map (fun v => v.category)).sum ≤ 8) ∧ gK σ p = c) ∧ Ex y (.ref p :: [v0, v1, v2, v3]) σ (aft z r ls st Q)) := by
  by_cases hq : (st.length ≤ 4 ∨ (st.map (fun v => v.category)).sum ≤ 8)
  · by_cases hk : gK σ p = c
    · rw [wp_call (show stp z (((pc, (Instr.invokevirtual i), len, [y, 5, c + 1, f]) :: r), ls, v3 :: v2 :: v1 :: v0 :: .ref p :: st, σ) = _ from scv hq rfl rfl rfl hk)]
      exact propext ⟨fun h => ⟨⟨hq, hk⟩, h⟩, fun h => h.2⟩
    · rw [wp_none (show stp z (((pc, (Instr.invokevirtual i), len, [y, 5, c + 1, f]) :: r), ls, v3 :: v2 :: v1 :: v0 :: .ref p :: st, σ) = _ from scw rfl hk)]
      exact propext ⟨False.elim, fun h => hk h.1.2⟩
  · rw [wp_none (show stp z (((pc, (Instr.invokevirtual i), len, [y, 5, c + 1, f]) :: r), ls, v3 :: v2 :: v1 :: v0 :: .ref p :: st, σ) = _ from scn (y := y) (n := 5) (c := c + 1) (r := r) (ls := ls) (st := v3 :: v2 :: v1 :: v0 :: .ref p :: st) (σ := σ) (fun h => hq h.2))]
    exact propext ⟨False.elim, fun h => hq h.1.1⟩
theorem wq_cv6 {z pc len : Nat} {r : List En} {ls : List Value} {st : List Value} {σ : St} {Q : Out → St → Prop} {i y c f p : Nat} {v0 v1 v2 v3 v4 : Value} : Wp z (((pc, (Instr.invokevirtual i), len, [y, 6, c + 1, f]) :: r), ls, v4 :: v3 :: v2 :: v1 :: v0 :: .ref p :: st, σ) Q = (((st.length ≤ 4 ∨ (st.map (fun v => v.category)).sum ≤ 8) ∧ gK σ p = c) ∧ Ex y (.ref p :: [v0, v1, v2, v3, v4]) σ (aft z r ls st Q)) := by
  by_cases hq : (st.length ≤ 4 ∨ (st.map (fun v => v.category)).sum ≤ 8)
  · by_cases hk : gK σ p = c
    · rw [wp_call (show stp z (((pc, (Instr.invokevirtual i), len, [y, 6, c + 1, f]) :: r), ls, v4 :: v3 :: v2 :: v1 :: v0 :: .ref p :: st, σ) = _ from scv hq rfl rfl rfl hk)]
      exact propext ⟨fun h => ⟨⟨hq, hk⟩, h⟩, fun h => h.2⟩
    · rw [wp_none (show stp z (((pc, (Instr.invokevirtual i), len, [y, 6, c + 1, f]) :: r), ls, v4 :: v3 :: v2 :: v1 :: v0 :: .ref p :: st, σ) = _ from scw rfl hk)]
      exact propext ⟨False.elim, fun h => hk h.1.2⟩
  · rw [wp_none (show stp z (((pc, (Instr.invokevirtual i), len, [y, 6, c + 1, f]) :: r), ls, v4 :: v3 :: v2 :: v1 :: v0 :: .ref p :: st, σ) = _ from scn (y := y) (n := 6) (c := c + 1) (r := r) (ls := ls) (st := v4 :: v3 :: v2 :: v1 :: v0 :: .ref p :: st) (σ := σ) (fun h => hq h.2))]
    exact propext ⟨False.elim, fun h => hq h.1.1⟩
theorem wq_ci1 {z pc len : Nat} {r : List En} {ls : List Value} {st : List Value} {σ : St} {Q : Out → St → Prop} {i y c f p : Nat} : Wp z (((pc, (Instr.invokespecial i), len, [y, 1, c + 1, f]) :: r), ls, .ref p :: st, σ) Q = (((st.length ≤ 4 ∨ (st.map (fun v => v.category)).sum ≤ 8) ∧ gK σ p = c) ∧ Ex y (.ref p :: []) σ (aft z r ls st Q)) := by
  by_cases hq : (st.length ≤ 4 ∨ (st.map (fun v => v.category)).sum ≤ 8)
  · by_cases hk : gK σ p = c
    · rw [wp_call (show stp z (((pc, (Instr.invokespecial i), len, [y, 1, c + 1, f]) :: r), ls, .ref p :: st, σ) = _ from scv hq rfl rfl rfl hk)]
      exact propext ⟨fun h => ⟨⟨hq, hk⟩, h⟩, fun h => h.2⟩
    · rw [wp_none (show stp z (((pc, (Instr.invokespecial i), len, [y, 1, c + 1, f]) :: r), ls, .ref p :: st, σ) = _ from scw rfl hk)]
      exact propext ⟨False.elim, fun h => hk h.1.2⟩
  · rw [wp_none (show stp z (((pc, (Instr.invokespecial i), len, [y, 1, c + 1, f]) :: r), ls, .ref p :: st, σ) = _ from scn (y := y) (n := 1) (c := c + 1) (r := r) (ls := ls) (st := .ref p :: st) (σ := σ) (fun h => hq h.2))]
    exact propext ⟨False.elim, fun h => hq h.1.1⟩
theorem wq_ci2 {z pc len : Nat} {r : List En} {ls : List Value} {st : List Value} {σ : St} {Q : Out → St → Prop} {i y c f p : Nat} {v0 : Value} : Wp z (((pc, (Instr.invokespecial i), len, [y, 2, c + 1, f]) :: r), ls, v0 :: .ref p :: st, σ) Q = (((st.length ≤ 4 ∨ (st.map (fun v => v.category)).sum ≤ 8) ∧ gK σ p = c) ∧ Ex y (.ref p :: [v0]) σ (aft z r ls st Q)) := by
  by_cases hq : (st.length ≤ 4 ∨ (st.map (fun v => v.category)).sum ≤ 8)
  · by_cases hk : gK σ p = c
    · rw [wp_call (show stp z (((pc, (Instr.invokespecial i), len, [y, 2, c + 1, f]) :: r), ls, v0 :: .ref p :: st, σ) = _ from scv hq rfl rfl rfl hk)]
      exact propext ⟨fun h => ⟨⟨hq, hk⟩, h⟩, fun h => h.2⟩
    · rw [wp_none (show stp z (((pc, (Instr.invokespecial i), len, [y, 2, c + 1, f]) :: r), ls, v0 :: .ref p :: st, σ) = _ from scw rfl hk)]
      exact propext ⟨False.elim, fun h => hk h.1.2⟩
  · rw [wp_none (show stp z (((pc, (Instr.invokespecial i), len, [y, 2, c + 1, f]) :: r), ls, v0 :: .ref p :: st, σ) = _ from scn (y := y) (n := 2) (c := c + 1) (r := r) (ls := ls) (st := v0 :: .ref p :: st) (σ := σ) (fun h => hq h.2))]
    exact propext ⟨False.elim, fun h => hq h.1.1⟩
theorem wq_ci3 {z pc len : Nat} {r : List En} {ls : List Value} {st : List Value} {σ : St} {Q : Out → St → Prop} {i y c f p : Nat} {v0 v1 : Value} : Wp z (((pc, (Instr.invokespecial i), len, [y, 3, c + 1, f]) :: r), ls, v1 :: v0 :: .ref p :: st, σ) Q = (((st.length ≤ 4 ∨ (st.map (fun v => v.category)).sum ≤ 8) ∧ gK σ p = c) ∧ Ex y (.ref p :: [v0, v1]) σ (aft z r ls st Q)) := by
  by_cases hq : (st.length ≤ 4 ∨ (st.map (fun v => v.category)).sum ≤ 8)
  · by_cases hk : gK σ p = c
    · rw [wp_call (show stp z (((pc, (Instr.invokespecial i), len, [y, 3, c + 1, f]) :: r), ls, v1 :: v0 :: .ref p :: st, σ) = _ from scv hq rfl rfl rfl hk)]
      exact propext ⟨fun h => ⟨⟨hq, hk⟩, h⟩, fun h => h.2⟩
    · rw [wp_none (show stp z (((pc, (Instr.invokespecial i), len, [y, 3, c + 1, f]) :: r), ls, v1 :: v0 :: .ref p :: st, σ) = _ from scw rfl hk)]
      exact propext ⟨False.elim, fun h => hk h.1.2⟩
  · rw [wp_none (show stp z (((pc, (Instr.invokespecial i), len, [y, 3, c + 1, f]) :: r), ls, v1 :: v0 :: .ref p :: st, σ) = _ from scn (y := y) (n := 3) (c := c + 1) (r := r) (ls := ls) (st := v1 :: v0 :: .ref p :: st) (σ := σ) (fun h => hq h.2))]
    exact propext ⟨False.elim, fun h => hq h.1.1⟩
theorem wq_ci4 {z pc len : Nat} {r : List En} {ls : List Value} {st : List Value} {σ : St} {Q : Out → St → Prop} {i y c f p : Nat} {v0 v1 v2 : Value} : Wp z (((pc, (Instr.invokespecial i), len, [y, 4, c + 1, f]) :: r), ls, v2 :: v1 :: v0 :: .ref p :: st, σ) Q = (((st.length ≤ 4 ∨ (st.map (fun v => v.category)).sum ≤ 8) ∧ gK σ p = c) ∧ Ex y (.ref p :: [v0, v1, v2]) σ (aft z r ls st Q)) := by
  by_cases hq : (st.length ≤ 4 ∨ (st.map (fun v => v.category)).sum ≤ 8)
  · by_cases hk : gK σ p = c
    · rw [wp_call (show stp z (((pc, (Instr.invokespecial i), len, [y, 4, c + 1, f]) :: r), ls, v2 :: v1 :: v0 :: .ref p :: st, σ) = _ from scv hq rfl rfl rfl hk)]
      exact propext ⟨fun h => ⟨⟨hq, hk⟩, h⟩, fun h => h.2⟩
    · rw [wp_none (show stp z (((pc, (Instr.invokespecial i), len, [y, 4, c + 1, f]) :: r), ls, v2 :: v1 :: v0 :: .ref p :: st, σ) = _ from scw rfl hk)]
      exact propext ⟨False.elim, fun h => hk h.1.2⟩
  · rw [wp_none (show stp z (((pc, (Instr.invokespecial i), len, [y, 4, c + 1, f]) :: r), ls, v2 :: v1 :: v0 :: .ref p :: st, σ) = _ from scn (y := y) (n := 4) (c := c + 1) (r := r) (ls := ls) (st := v2 :: v1 :: v0 :: .ref p :: st) (σ := σ) (fun h => hq h.2))]
    exact propext ⟨False.elim, fun h => hq h.1.1⟩
theorem wq_ci5 {z pc len : Nat} {r : List En} {ls : List Value} {st : List Value} {σ : St} {Q : Out → St → Prop} {i y c f p : Nat} {v0 v1 v2 v3 : Value} : Wp z (((pc, (Instr.invokespecial i), len, [y, 5, c + 1, f]) :: r), ls, v3 :: v2 :: v1 :: v0 :: .ref p :: st, σ) Q = (((st.length ≤ 4 ∨ (st.map (fun v => v.category)).sum ≤ 8) ∧ gK σ p = c) ∧ Ex y (.ref p :: [v0, v1, v2, v3]) σ (aft z r ls st Q)) := by
  by_cases hq : (st.length ≤ 4 ∨ (st.map (fun v => v.category)).sum ≤ 8)
  · by_cases hk : gK σ p = c
    · rw [wp_call (show stp z (((pc, (Instr.invokespecial i), len, [y, 5, c + 1, f]) :: r), ls, v3 :: v2 :: v1 :: v0 :: .ref p :: st, σ) = _ from scv hq rfl rfl rfl hk)]
      exact propext ⟨fun h => ⟨⟨hq, hk⟩, h⟩, fun h => h.2⟩
    · rw [wp_none (show stp z (((pc, (Instr.invokespecial i), len, [y, 5, c + 1, f]) :: r), ls, v3 :: v2 :: v1 :: v0 :: .ref p :: st, σ) = _ from scw rfl hk)]
      exact propext ⟨False.elim, fun h => hk h.1.2⟩
  · rw [wp_none (show stp z (((pc, (Instr.invokespecial i), len, [y, 5, c + 1, f]) :: r), ls, v3 :: v2 :: v1 :: v0 :: .ref p :: st, σ) = _ from scn (y := y) (n := 5) (c := c + 1) (r := r) (ls := ls) (st := v3 :: v2 :: v1 :: v0 :: .ref p :: st) (σ := σ) (fun h => hq h.2))]
    exact propext ⟨False.elim, fun h => hq h.1.1⟩
theorem wq_ci6 {z pc len : Nat} {r : List En} {ls : List Value} {st : List Value} {σ : St} {Q : Out → St → Prop} {i y c f p : Nat} {v0 v1 v2 v3 v4 : Value} : Wp z (((pc, (Instr.invokespecial i), len, [y, 6, c + 1, f]) :: r), ls, v4 :: v3 :: v2 :: v1 :: v0 :: .ref p :: st, σ) Q = (((st.length ≤ 4 ∨ (st.map (fun v => v.category)).sum ≤ 8) ∧ gK σ p = c) ∧ Ex y (.ref p :: [v0, v1, v2, v3, v4]) σ (aft z r ls st Q)) := by
  by_cases hq : (st.length ≤ 4 ∨ (st.map (fun v => v.category)).sum ≤ 8)
  · by_cases hk : gK σ p = c
    · rw [wp_call (show stp z (((pc, (Instr.invokespecial i), len, [y, 6, c + 1, f]) :: r), ls, v4 :: v3 :: v2 :: v1 :: v0 :: .ref p :: st, σ) = _ from scv hq rfl rfl rfl hk)]
      exact propext ⟨fun h => ⟨⟨hq, hk⟩, h⟩, fun h => h.2⟩
    · rw [wp_none (show stp z (((pc, (Instr.invokespecial i), len, [y, 6, c + 1, f]) :: r), ls, v4 :: v3 :: v2 :: v1 :: v0 :: .ref p :: st, σ) = _ from scw rfl hk)]
      exact propext ⟨False.elim, fun h => hk h.1.2⟩
  · rw [wp_none (show stp z (((pc, (Instr.invokespecial i), len, [y, 6, c + 1, f]) :: r), ls, v4 :: v3 :: v2 :: v1 :: v0 :: .ref p :: st, σ) = _ from scn (y := y) (n := 6) (c := c + 1) (r := r) (ls := ls) (st := v4 :: v3 :: v2 :: v1 :: v0 :: .ref p :: st) (σ := σ) (fun h => hq h.2))]
    exact propext ⟨False.elim, fun h => hq h.1.1⟩
theorem wq_athrow {z pc len : Nat} {r : List En} {ls : List Value} {σ : St} {Q : Out → St → Prop} {e t : Nat} : Wp z (((pc, Instr.athrow, len, [e, t]) :: r), ls, [], σ) Q = Q (.inr e) (bmp σ) := wp_done rfl
theorem wq_ireturn {z pc len : Nat} {r : List En} {ls : List Value} {σ : St} {Q : Out → St → Prop} {b : Nat} {x : Int32} : Wp z (((pc, Instr.ireturn, len, [b]) :: r), ls, [.int x], σ) Q = ((b = 0 ∨ (x = 0 ∨ x = 1)) ∧ Q (.inl (some (.int x))) σ) := by
  by_cases hq : (b = 0 ∨ (x = 0 ∨ x = 1))
  · rw [wp_done (show stp z (((pc, Instr.ireturn, len, [b]) :: r), ls, [.int x], σ) = _ from if_pos hq)]
    exact propext ⟨fun h => ⟨hq, h⟩, fun h => h.2⟩
  · rw [wp_none (show stp z (((pc, Instr.ireturn, len, [b]) :: r), ls, [.int x], σ) = _ from if_neg hq)]
    exact propext ⟨False.elim, fun h => hq h.1⟩
theorem wq_freturn {z pc len : Nat} {ext : List Nat} {r : List En} {ls : List Value} {σ : St} {Q : Out → St → Prop} {x : UInt32} : Wp z (((pc, Instr.freturn, len, ext) :: r), ls, [.float x], σ) Q = Q (.inl (some (.float x))) σ := wp_done rfl
theorem wq_dreturn {z pc len : Nat} {ext : List Nat} {r : List En} {ls : List Value} {σ : St} {Q : Out → St → Prop} {x : UInt64} : Wp z (((pc, Instr.dreturn, len, ext) :: r), ls, [.double x], σ) Q = Q (.inl (some (.double x))) σ := wp_done rfl
theorem wq_areturn {z pc len : Nat} {ext : List Nat} {r : List En} {ls : List Value} {σ : St} {Q : Out → St → Prop} {x : Nat} : Wp z (((pc, Instr.areturn, len, ext) :: r), ls, [.ref x], σ) Q = Q (.inl (some (.ref x))) σ := wp_done rfl
theorem wq_return {z pc len : Nat} {ext : List Nat} {r : List En} {ls : List Value} {σ : St} {Q : Out → St → Prop}  : Wp z (((pc, Instr.return_, len, ext) :: r), ls, [], σ) Q = Q (.inl none) σ := wp_done rfl
theorem gL_setI (σ : St) (q j : Nat) (x : Int32) (p k : Nat) : gL (setI σ q j x) p k = gL σ p k := rfl
theorem gD_setI (σ : St) (q j : Nat) (x : Int32) (p k : Nat) : gD (setI σ q j x) p k = gD σ p k := rfl
theorem gR_setI (σ : St) (q j : Nat) (x : Int32) (p k : Nat) : gR (setI σ q j x) p k = gR σ p k := rfl
theorem gN_setI (σ : St) (q j : Nat) (x : Int32) (p : Nat) : gN (setI σ q j x) p = gN σ p := rfl
theorem gK_setI (σ : St) (q j : Nat) (x : Int32) (p : Nat) : gK (setI σ q j x) p = gK σ p := rfl
theorem gx_setI (σ : St) (q j : Nat) (x : Int32) : gx (setI σ q j x) = gx σ := rfl
theorem gc_setI (σ : St) (q j : Nat) (x : Int32) : gc (setI σ q j x) = gc σ := rfl
theorem gs_setI (σ : St) (q j : Nat) (x : Int32) : gs (setI σ q j x) = gs σ := rfl
theorem gI_setL (σ : St) (q j : Nat) (x : Int64) (p k : Nat) : gI (setL σ q j x) p k = gI σ p k := rfl
theorem gD_setL (σ : St) (q j : Nat) (x : Int64) (p k : Nat) : gD (setL σ q j x) p k = gD σ p k := rfl
theorem gR_setL (σ : St) (q j : Nat) (x : Int64) (p k : Nat) : gR (setL σ q j x) p k = gR σ p k := rfl
theorem gN_setL (σ : St) (q j : Nat) (x : Int64) (p : Nat) : gN (setL σ q j x) p = gN σ p := rfl
theorem gK_setL (σ : St) (q j : Nat) (x : Int64) (p : Nat) : gK (setL σ q j x) p = gK σ p := rfl
theorem gx_setL (σ : St) (q j : Nat) (x : Int64) : gx (setL σ q j x) = gx σ := rfl
theorem gc_setL (σ : St) (q j : Nat) (x : Int64) : gc (setL σ q j x) = gc σ := rfl
theorem gs_setL (σ : St) (q j : Nat) (x : Int64) : gs (setL σ q j x) = gs σ := rfl
theorem gI_setD (σ : St) (q j : Nat) (x : UInt64) (p k : Nat) : gI (setD σ q j x) p k = gI σ p k := rfl
theorem gL_setD (σ : St) (q j : Nat) (x : UInt64) (p k : Nat) : gL (setD σ q j x) p k = gL σ p k := rfl
theorem gR_setD (σ : St) (q j : Nat) (x : UInt64) (p k : Nat) : gR (setD σ q j x) p k = gR σ p k := rfl
theorem gN_setD (σ : St) (q j : Nat) (x : UInt64) (p : Nat) : gN (setD σ q j x) p = gN σ p := rfl
theorem gK_setD (σ : St) (q j : Nat) (x : UInt64) (p : Nat) : gK (setD σ q j x) p = gK σ p := rfl
theorem gx_setD (σ : St) (q j : Nat) (x : UInt64) : gx (setD σ q j x) = gx σ := rfl
theorem gc_setD (σ : St) (q j : Nat) (x : UInt64) : gc (setD σ q j x) = gc σ := rfl
theorem gs_setD (σ : St) (q j : Nat) (x : UInt64) : gs (setD σ q j x) = gs σ := rfl
theorem gI_setR (σ : St) (q j : Nat) (x : Option Nat) (p k : Nat) : gI (setR σ q j x) p k = gI σ p k := rfl
theorem gL_setR (σ : St) (q j : Nat) (x : Option Nat) (p k : Nat) : gL (setR σ q j x) p k = gL σ p k := rfl
theorem gD_setR (σ : St) (q j : Nat) (x : Option Nat) (p k : Nat) : gD (setR σ q j x) p k = gD σ p k := rfl
theorem gN_setR (σ : St) (q j : Nat) (x : Option Nat) (p : Nat) : gN (setR σ q j x) p = gN σ p := rfl
theorem gK_setR (σ : St) (q j : Nat) (x : Option Nat) (p : Nat) : gK (setR σ q j x) p = gK σ p := rfl
theorem gx_setR (σ : St) (q j : Nat) (x : Option Nat) : gx (setR σ q j x) = gx σ := rfl
theorem gc_setR (σ : St) (q j : Nat) (x : Option Nat) : gc (setR σ q j x) = gc σ := rfl
theorem gs_setR (σ : St) (q j : Nat) (x : Option Nat) : gs (setR σ q j x) = gs σ := rfl
theorem gL_rowI (σ : St) (q : Nat) (g : Nat → Int32) (p k : Nat) : gL (rowI σ q g) p k = gL σ p k := rfl
theorem gD_rowI (σ : St) (q : Nat) (g : Nat → Int32) (p k : Nat) : gD (rowI σ q g) p k = gD σ p k := rfl
theorem gR_rowI (σ : St) (q : Nat) (g : Nat → Int32) (p k : Nat) : gR (rowI σ q g) p k = gR σ p k := rfl
theorem gN_rowI (σ : St) (q : Nat) (g : Nat → Int32) (p : Nat) : gN (rowI σ q g) p = gN σ p := rfl
theorem gK_rowI (σ : St) (q : Nat) (g : Nat → Int32) (p : Nat) : gK (rowI σ q g) p = gK σ p := rfl
theorem gx_rowI (σ : St) (q : Nat) (g : Nat → Int32) : gx (rowI σ q g) = gx σ := rfl
theorem gc_rowI (σ : St) (q : Nat) (g : Nat → Int32) : gc (rowI σ q g) = gc σ := rfl
theorem gs_rowI (σ : St) (q : Nat) (g : Nat → Int32) : gs (rowI σ q g) = gs σ := rfl
theorem gI_bmp (σ : St) (p k : Nat) : gI (bmp σ) p k = gI σ p k := rfl
theorem gL_bmp (σ : St) (p k : Nat) : gL (bmp σ) p k = gL σ p k := rfl
theorem gD_bmp (σ : St) (p k : Nat) : gD (bmp σ) p k = gD σ p k := rfl
theorem gR_bmp (σ : St) (p k : Nat) : gR (bmp σ) p k = gR σ p k := rfl
theorem gN_bmp (σ : St) (p : Nat) : gN (bmp σ) p = gN σ p := rfl
theorem gK_bmp (σ : St) (p : Nat) : gK (bmp σ) p = gK σ p := rfl
theorem gx_bmp (σ : St) : gx (bmp σ) = gx σ := rfl
theorem gc_bmp (σ : St) : gc (bmp σ) = gc σ + 1 := rfl
theorem gs_bmp (σ : St) : gs (bmp σ) = gs σ + 6 := rfl
theorem gf_1 (σ : St) (p k : Nat) : gf σ 1 p k = .int (gI σ p k) := rfl
theorem gf_2 (σ : St) (p k : Nat) : gf σ 2 p k = .long (gL σ p k) := rfl
theorem gf_3 (σ : St) (p k : Nat) : gf σ 3 p k = rv (gR σ p k) := rfl
theorem rv_s (q : Nat) : rv (some q) = .ref q := rfl
theorem okst_0 (ls : List Value) : okst ls 0 = true := rfl
theorem okst_s (ls : List Value) (k : Nat) : okst ls (k + 1) = (match ls[k]? with | some v => !is2 v | none => true) := rfl
theorem is2_int (x : Int32) : is2 (.int x) = false := rfl
theorem is2_float (x : UInt32) : is2 (.float x) = false := rfl
theorem is2_ref (x : Nat) : is2 (.ref x) = false := rfl
theorem is2_retAddr (x : Nat) : is2 (.retAddr x) = false := rfl
