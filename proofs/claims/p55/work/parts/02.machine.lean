/-! MY ABSTRACT MACHINE: a table of entries instead of bytes, places (in the order of making) instead of addresses, typed rows instead of cells.
 An entry: where it stands, what is done, how long it is, numbers that were looked up for it. -/
abbrev En : Type := Nat × Instr × Nat × List Nat
/-- ints (booleans too), longs, doubles, references by place and number; lengths; kinds; how many places, objects, elements were made -/
abbrev St : Type := (Nat → Nat → Int32) × (Nat → Nat → Int64) × (Nat → Nat → UInt64) × (Nat → Nat → Option Nat) × (Nat → Nat) × (Nat → Nat) × Nat × Nat × Nat
def gI (σ : St) (p k : Nat) : Int32 := σ.1 p k
def gL (σ : St) (p k : Nat) : Int64 := σ.2.1 p k
def gD (σ : St) (p k : Nat) : UInt64 := σ.2.2.1 p k
def gR (σ : St) (p k : Nat) : Option Nat := σ.2.2.2.1 p k
def gN (σ : St) (p : Nat) : Nat := σ.2.2.2.2.1 p
def gK (σ : St) (p : Nat) : Nat := σ.2.2.2.2.2.1 p
def gx (σ : St) : Nat := σ.2.2.2.2.2.2.1
def gc (σ : St) : Nat := σ.2.2.2.2.2.2.2.1
def gs (σ : St) : Nat := σ.2.2.2.2.2.2.2.2
def u2 {α : Type} (f : Nat → Nat → α) (p k : Nat) (x : α) : Nat → Nat → α := fun q j => if q = p ∧ j = k then x else f q j
def z2 {α : Type} (f : Nat → Nat → α) (p : Nat) (g : Nat → α) : Nat → Nat → α := fun q j => if q = p then g j else f q j
def u1 {α : Type} (f : Nat → α) (p : Nat) (x : α) : Nat → α := fun q => if q = p then x else f q
def setI (σ : St) (p k : Nat) (x : Int32) : St := (u2 σ.1 p k x, σ.2)
def setL (σ : St) (p k : Nat) (x : Int64) : St := (σ.1, u2 σ.2.1 p k x, σ.2.2)
def setD (σ : St) (p k : Nat) (x : UInt64) : St := (σ.1, σ.2.1, u2 σ.2.2.1 p k x, σ.2.2.2)
def setR (σ : St) (p k : Nat) (x : Option Nat) : St := (σ.1, σ.2.1, σ.2.2.1, u2 σ.2.2.2.1 p k x, σ.2.2.2.2)
/-- a whole row of ints laid anew -/
def rowI (σ : St) (p : Nat) (g : Nat → Int32) : St := (z2 σ.1 p g, σ.2)
/-- a new object or row of kind k with n slots, all zero, at the next place -/
def al (σ : St) (k n : Nat) : St := (z2 σ.1 (gx σ + 2) (fun _ => 0), z2 σ.2.1 (gx σ + 2) (fun _ => 0), z2 σ.2.2.1 (gx σ + 2) (fun _ => 0), z2 σ.2.2.2.1 (gx σ + 2) (fun _ => none), u1 σ.2.2.2.2.1 (gx σ + 2) n, u1 σ.2.2.2.2.2.1 (gx σ + 2) k, gx σ + 1, gc σ + 1, gs σ + n)
/-- n rows of m ints in a row -/
def alM (σ : St) (n m : Nat) : St :=
  (fun q j => if gx σ + 2 ≤ q ∧ q ≤ gx σ + 2 + n then 0 else σ.1 q j, σ.2.1, σ.2.2.1,
   fun q j => if q = gx σ + 2 then (if j < n then some (gx σ + 3 + j) else none) else σ.2.2.2.1 q j,
   fun q => if q = gx σ + 2 then n else if gx σ + 2 < q ∧ q ≤ gx σ + 2 + n then m else σ.2.2.2.2.1 q,
   fun q => if q = gx σ + 2 then 18 else if gx σ + 2 < q ∧ q ≤ gx σ + 2 + n then 10 else σ.2.2.2.2.2.1 q,
   gx σ + 1 + n, gc σ + 1 + n, gs σ + n + n * m)
/-- an exception was made: it takes an object of six slots, no place -/
def bmp (σ : St) : St := (σ.1, σ.2.1, σ.2.2.1, σ.2.2.2.1, σ.2.2.2.2.1, σ.2.2.2.2.2.1, gx σ, gc σ + 1, gs σ + 6)
abbrev inb (i : Int32) (n : Nat) : Prop := ¬ i < 0 ∧ i.toNatClampNeg < n
def rv : Option Nat → Value
  | none => .null
  | some q => .ref q
/-- a field by its type: 1 int, 2 long, else a reference -/
def gf (σ : St) (t p k : Nat) : Value := if t = 1 then .int (gI σ p k) else if t = 2 then .long (gL σ p k) else rv (gR σ p k)
/-- what the rows of a kind hold -/
def ek (k : Nat) : Nat := if k = 14 then 5 else if k = 15 then 0 else if k = 16 then 1 else if k = 17 then 6 else if k = 19 then 11 else 10
abbrev Fr : Type := List En × List Value × List Value × St
/-- an answer, or the number of an exception -/
abbrev Out : Type := Option Value ⊕ Nat
abbrev Rs : Type := Fr ⊕ (Out × St) ⊕ (Nat × List Value × Fr)
def nxt (f : Fr) : Option Rs := some (.inl f)
def don (o : Out) (σ : St) : Option Rs := some (.inr (.inl (o, σ)))
/-- no value stands here -/
abbrev mk0 : Value := .retAddr 0
def isM : Value → Bool
  | .retAddr _ => true
  | _ => false
def is2 : Value → Bool
  | .long _ => true
  | .double _ => true
  | _ => false
/-- no long or double stands just ahead -/
def okst (ls : List Value) : Nat → Bool
  | 0 => true
  | k + 1 => match ls[k]? with
    | some v => !is2 v
    | none => true
def sto1 (r : List En) (ls : List Value) (k : Nat) (v : Value) (st : List Value) (σ : St) : Option Rs := if k < ls.length ∧ okst ls k = true then nxt (r, ls.set k v, st, σ) else none
def sto2 (r : List En) (ls : List Value) (k : Nat) (v : Value) (st : List Value) (σ : St) : Option Rs := if k + 1 < ls.length ∧ okst ls k = true then nxt (r, (ls.set k v).set (k + 1) mk0, st, σ) else none
def bI (f : Int32 → Int32 → Int32) (r : List En) (ls st : List Value) (σ : St) : Option Rs := match st with
  | .int y :: .int x :: st => nxt (r, ls, .int (f x y) :: st, σ)
  | _ => none
def bL (f : Int64 → Int64 → Int64) (r : List En) (ls st : List Value) (σ : St) : Option Rs := match st with
  | .long y :: .long x :: st => nxt (r, ls, .long (f x y) :: st, σ)
  | _ => none
def sL (f : Int64 → Int32 → Int64) (r : List En) (ls st : List Value) (σ : St) : Option Rs := match st with
  | .int y :: .long x :: st => nxt (r, ls, .long (f x y) :: st, σ)
  | _ => none
def brc (c : ClassFile.Cond) (x y : Int32) : Bool := match c with
  | .eq => decide (x = y)
  | .ne => !decide (x = y)
  | .lt => decide (x < y)
  | .ge => decide (y ≤ x)
  | .gt => decide (y < x)
  | .le => decide (x ≤ y)
/-- a table of jumps, from a number on -/
def swt (d : Nat) : List Nat → Int → Int32 → Nat
  | [], _, _ => d
  | b :: bs, lo, x => if x = Int32.ofInt lo then b else swt d bs (lo + 1) x
def isIA (k : Nat) : Bool := k == 10 || k == 20 || k == 21
def isRA (k : Nat) : Bool := k == 14 || k == 15 || k == 16 || k == 17 || k == 18 || k == 19
def sCall (z n : Nat) (c : Nat) (r : List En) (ls st : List Value) (σ : St) : Option Rs :=
  if n ≤ st.length ∧ ((st.drop n).length ≤ 4 ∨ ((st.drop n).map (fun v => v.category)).sum ≤ 8) then
    match c with
    | 0 => some (.inr (.inr (z, (st.take n).reverse, (r, ls, st.drop n, σ))))
    | c + 1 => match (st.take n).reverse with
      | .ref p :: as => if gK σ p = c then some (.inr (.inr (z, .ref p :: as, (r, ls, st.drop n, σ)))) else none
      | _ => none
  else none
