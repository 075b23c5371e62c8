/-! WHAT THE TABLES MUST KEEP, as a look at each entry beside what is decoded; and that they keep it -/
/-- the tables' words by list and place -/
def tbS (k : Nat) : List Cond := match k with
  | 0 => k2_sels lw_privs
  | 1 => tables_1_1
  | 2 => tables_1_2
  | 3 => tables_1_3
  | 4 => tables_1_4
  | _ => tables_1_5
def wat (p : Nat) : Option Cond := (tbS (p / 1000))[p % 1000]?
theorem wat_in {p : Nat} {w : Cond} (h : wat p = some w) : w ∈ lw_tbl := by
  have h1 : w ∈ tbS (p / 1000) := List.mem_of_getElem? h
  have h2 : ∀ k, ∀ w ∈ tbS k, w ∈ lw_tbl := by
    intro k w hw
    show w ∈ k2_sels lw_privs ++ (tables_1_1 ++ (tables_1_2 ++ (tables_1_3 ++ (tables_1_4 ++ tables_1_5))))
    simp only [List.mem_append]
    unfold tbS at hw
    split at hw <;> simp [hw]
  exact h2 _ _ h1
def hpc (bs : List (List En)) (b : Nat) : Nat := match bs.getD b [] with
  | e :: _ => e.1
  | [] => 0
def okB (bs : List (List En)) (pc : Nat) (o : Int) (b : Nat) : Bool := decide ((pc : Int) + o = (hpc bs b : Int))
/-- whose nest -/
def hso (n : Nat) : String := if n = 2 then "BitmapstoreLaw" else "Bitmapstore"
/-- the word of a field's row -/
def frC (e : Nat × Nat × Nat × Nat × Nat × Nat × Nat × Nat) : Cond :=
  let r : vw_C := vwCl.getD e.2.2.1 ("", fun _ => ("", "", "", false), 0)
  let t := r.2.1 e.2.2.2.1
  if e.2.2.2.2.2.1 = 0 then .fieldLink (cn e.1) e.2.1 t.1 t.2.1 t.2.2.1 else .fieldLinkNest (cn e.1) e.2.1 t.1 t.2.1 t.2.2.1 (hso e.2.2.2.2.2.1)
noncomputable def mrC (e : Nat × Nat × Nat × Nat × Nat) : Cond := if e.2.2.2.1 = 0 then .methodLink (cn e.1) e.2.1 (mY e.2.2.1) else .methodLinkNest (cn e.1) e.2.1 (mY e.2.2.1) (hso e.2.2.2.1)
def clC (e : Nat × Nat × Nat × Nat) : Cond := .classLink (cn e.1) e.2.1 (if e.2.2.1 = 20 then "[Z" else cn e.2.2.1)
def ciC (e : Nat × Nat × Int × Nat) : Cond := .constant (cn e.1) e.2.1 (Int32.ofInt e.2.2.1)
def cgC (e : Nat × Nat × Int × Nat) : Cond := .constantLong (cn e.1) e.2.1 (Int64.ofInt e.2.2.1)
set_option maxRecDepth 100000 in
theorem fr_ok : ∀ e ∈ frT, wat (e.2.2.2.2.2.2.2) = some (frC e) := by decide +kernel
set_option maxRecDepth 100000 in
theorem cl_ok : ∀ e ∈ clT, wat (e.2.2.2) = some (clC e) := by decide +kernel
set_option maxRecDepth 100000 in
theorem ci_ok : ∀ e ∈ ciT, wat (e.2.2.2) = some (ciC e) := by decide +kernel
set_option maxRecDepth 100000 in
theorem cg_ok : ∀ e ∈ cgT, wat (e.2.2.2) = some (cgC e) := by decide +kernel
set_option maxRecDepth 100000 in
theorem mr_ok : ∀ e ∈ mrT, wat (e.2.2.2.2) = some (mrC e) := by decide +kernel
noncomputable def codR (r : Mt) : Cond := if r.2.2.2.2.2.2.2.2.2.1 = [] then .code r.2.1 r.1 r.2.2.1 r.2.2.2.1 else .codeWith r.2.1 r.1 r.2.2.1 r.2.2.2.1 r.2.2.2.2.2.2.2.2.2.1
def kinR (r : Mt) : Cond := if r.2.2.2.2.2.2.1 = 0 then .static r.2.1 else .instanceMethod r.2.1
/-- a method's own words stand among the tables', and its name and numbers fit (the law's own body, kind 9, is looked at elsewhere) -/
def MOk (r : Mt) : Prop := r.2.2.2.2.2.2.1 = 9 ∨
  (wat r.2.2.2.2.2.2.2.2.2.2.1 = some (codR r) ∧ wat r.2.2.2.2.2.2.2.2.2.2.2.1 = some (kinR r) ∧ wat r.2.2.2.2.2.2.2.2.2.2.2.2.1 = some (.initialized r.2.1.cls) ∧
   (r.2.2.2.2.2.2.1 = 1 → wat r.2.2.2.2.2.2.2.2.2.2.2.2.2 = some (.selects r.2.1.cls r.2.1 r.2.1) ∧ r.2.2.2.2.1 < 10) ∧
   (r.2.2.2.2.2.2.1 = 2 → r.2.1.name = "<init>" ∧ r.2.2.2.1 = none) ∧ r.2.1.cls = cn r.2.2.2.2.1 ∧ r.2.1.cls ≠ "java/lang/invoke/MethodHandle" ∧ r.2.1.cls ≠ "java/lang/invoke/VarHandle" ∧ plainName r.2.1.cls = true ∧
   (parseMethodDescriptor r.2.1.desc).map (fun d => d.parameters.length) = some r.2.2.2.2.2.2.2.1 ∧ r.2.2.1 ≤ 40 ∧ 10 ≤ r.2.2.2.2.2.1 ∧ r.2.2.2.2.2.1 ≤ 40)
def isOld (i : Instr) : Bool := match i with
  | .iinc .. | .iadd | .isub | .imul | .idiv | .irem | .iand | .ior | .ixor | .ishl | .ishr | .iushr => true
  | .ladd | .lsub | .lmul | .lrem | .aconst_null | .land | .lor | .lxor | .lshl | .lushr | .i2l | .l2i | .i2f | .i2d | .f2d | .fdiv | .ddiv | .lcmp | .fcmp _ | .dcmp _ => true
  | .fconst _ | .dconst _ | .fload _ | .dload _ | .fstore _ | .dstore _ | .dup | .dup2 | .pop => true
  | .iaload | .iastore | .baload | .bastore | .aaload | .aastore | .arraylength => true
  | _ => false
/-- how long it is -/
def lnOk (j : Instr) (l : Nat) : Bool := match j with
  | .tableswitch .. => true
  | .bipush _ | .iload _ | .lload _ | .fload _ | .dload _ | .aload _ | .istore _ | .lstore _ | .fstore _ | .dstore _ | .astore _ | .ldc _ | .newarray _ => decide (l = 2)
  | .sipush _ | .ldc_w _ | .ldc2_w _ | .iinc .. | .ifCond .. | .if_icmp .. | .ifnull _ | .goto _ | .getfield _ | .putfield _ | .getstatic _ | .new _ | .anewarray _ | .invokevirtual _ | .invokestatic _ | .invokespecial _ => decide (l = 3)
  | .multianewarray .. => decide (l = 4)
  | _ => decide (l = 1)
/-- an entry beside what is decoded there -/
noncomputable def okJ (z : Nat) (bs : List (List En)) (pc : Nat) (j i : Instr) (ext : List Nat) : Bool := match i with
  | .iconst v => (match j with
    | .iconst u => decide (u = v)
    | .bipush u => decide ((Int8.ofInt u).toInt32 = Int32.ofInt v)
    | .sipush u => decide ((Int16.ofInt u).toInt32 = Int32.ofInt v)
    | .ldc k => (match ext with | [t] => (match ciT[t]? with | some e => decide (e.1 = mC z ∧ e.2.1 = k ∧ e.2.2.1 = v) | none => false) | _ => false)
    | .ldc_w k => (match ext with | [t] => (match ciT[t]? with | some e => decide (e.1 = mC z ∧ e.2.1 = k ∧ e.2.2.1 = v) | none => false) | _ => false)
    | _ => false)
  | .bipush v => (match j with
    | .lconst n => decide (Int64.ofNat n.val = Int64.ofInt v)
    | .ldc2_w k => (match ext with | [t] => (match cgT[t]? with | some e => decide (e.1 = mC z ∧ e.2.1 = k ∧ e.2.2.1 = v) | none => false) | _ => false)
    | _ => false)
  | .iload k => (match j with | .iload a => decide (a = k) | .iload_n n => decide (n.val = k) | _ => false)
  | .lload k => (match j with | .lload a => decide (a = k) | .lload_n n => decide (n.val = k) | _ => false)
  | .aload k => (match j with | .aload a => decide (a = k) | .aload_n n => decide (n.val = k) | _ => false)
  | .istore k => (match j with | .istore a => decide (a = k) | .istore_n n => decide (n.val = k) | _ => false)
  | .lstore k => (match j with | .lstore a => decide (a = k) | .lstore_n n => decide (n.val = k) | _ => false)
  | .astore k => (match j with | .astore a => decide (a = k) | .astore_n n => decide (n.val = k) | _ => false)
  | .ifCond _ o => decide (j = i) && (match ext with | [b] => okB bs pc o b | _ => false)
  | .if_icmp _ o => decide (j = i) && (match ext with | [b] => okB bs pc o b | _ => false)
  | .ifnull o => decide (j = i) && (match ext with | [b] => okB bs pc o b | _ => false)
  | .goto o => decide (j = i) && (match ext with | [b] => okB bs pc o b | _ => false)
  | .tableswitch d lo hi offs => decide (j = i) && (match ext with
    | b :: ts => okB bs pc d b && decide (ts.length = offs.size) && decide (hi = lo + (ts.length : Int) - 1) && decide (-1000 ≤ lo) && decide (hi ≤ 1000) && (List.range ts.length).all (fun q => okB bs pc (offs.getD q 0) (ts.getD q 0))
    | [] => false)
  | .getfield n => decide (j = i) && (match ext with
    | [c, k, t, f] => (match frT[f]? with | some e => decide (e.1 = mC z ∧ e.2.1 = n ∧ e.2.2.1 = c ∧ e.2.2.2.1 = k ∧ e.2.2.2.2.1 = t ∧ t = fty c k ∧ k < nf c ∧ c < 10) | none => false)
    | _ => false)
  | .putfield n => decide (j = i) && (match ext with
    | [c, k, t, f] => (match frT[f]? with | some e => decide (e.1 = mC z ∧ e.2.1 = n ∧ e.2.2.1 = c ∧ e.2.2.2.1 = k ∧ e.2.2.2.2.1 = t ∧ t = fty c k ∧ k < nf c ∧ c < 10) && (if e.2.2.2.2.2.2.1 = 0 then decide ((vwCl.getD c ("", fun _ => ("", "", "", false), 0)).2.1 k).2.2.2 = false else decide (mK z = 2 ∧ mC z = c ∧ e.2.2.2.2.2.1 = 0 ∧ ((vwCl.getD c ("", fun _ => ("", "", "", false), 0)).2.1 k).2.2.2 = true)) | none => false)
    | _ => false)
  | .getstatic n => decide (j = i) && decide (n = 339) && decide (mC z = 7)
  | .new n => decide (j = i) && (match ext with
    | [c, f] => (match clT[f]? with | some e => decide (e.1 = mC z ∧ e.2.1 = n ∧ e.2.2.1 = c ∧ c < 10) | none => false)
    | _ => false)
  | .newarray a => decide (j = i) && (match ext with
    | [k] => decide ((k = 10 ∧ a = .int) ∨ (k = 11 ∧ a = .boolean))
    | _ => false)
  | .anewarray n => decide (j = i) && (match ext with
    | [k, f] => (match clT[f]? with | some e => decide (e.1 = mC z ∧ e.2.1 = n ∧ ((e.2.2.1 = ek k ∧ (k = 14 ∨ k = 15 ∨ k = 16 ∨ k = 17)) ∨ (e.2.2.1 = 20 ∧ k = 19))) | none => false)
    | _ => false)
  | .multianewarray n d => decide (j = i) && decide (d = 2) && (match ext with
    | [p] => decide (wat (p) = some (.classLink (cn (mC z)) n "[[I"))
    | _ => false)
  | .invokevirtual n => decide (j = i) && (match ext with
    | [y, m, c, f] => (match mrT[f]? with | some e => decide (e.1 = mC z ∧ e.2.1 = n ∧ e.2.2.1 = y ∧ mK y = 1 ∧ m = mA y + 1 ∧ c = mC y + 1 ∧ rk y < rk z) | none => false)
    | _ => false)
  | .invokestatic n => decide (j = i) && (match ext with
    | [p] => decide (wat (p) = some (.methodLink (cn (mC z)) n arraycopyName))
    | [p, 0] => decide (wat p = some (.methodLink (cn (mC z)) n Lib.Math.max.name))
    | [p, 1] => decide (wat p = some (.methodLink (cn (mC z)) n Lib.Math.min.name))
    | [y, m, c, f] => (match mrT[f]? with | some e => decide (e.1 = mC z ∧ e.2.1 = n ∧ e.2.2.1 = y ∧ mK y = 0 ∧ m = mA y ∧ c = 0 ∧ rk y < rk z) | none => false)
    | _ => false)
  | .invokespecial n => decide (j = i) && (match ext with
    | [p] => decide (wat (p) = some (.methodLink (cn (mC z)) n objectInit))
    | [y, m, c, f] => (match mrT[f]? with | some e => decide (e.1 = mC z ∧ e.2.1 = n ∧ e.2.2.1 = y ∧ mK y = 2 ∧ m = mA y + 1 ∧ c = mC y + 1 ∧ mC y < 10 ∧ rk y < rk z) | none => false)
    | _ => false)
  | .ireturn => decide (j = i) && (match ext with
    | [b] => decide ((b = 0 ∧ mR z = some .int) ∨ (b = 1 ∧ mR z = some .boolean))
    | _ => false)
  | .freturn => decide (j = i) && decide (mR z = some .float)
  | .dreturn => decide (j = i) && decide (mR z = some .double)
  | .areturn => decide (j = i) && (match mR z with | some (.object _) => true | some (.array _) => true | _ => false)
  | .return_ => decide (j = i) && decide (mR z = none)
  | _ => decide (j = i) && isOld i
/-- 'throw new E("text")' stands here: new; dup; ldc; invokespecial; athrow -/
noncomputable def okT (z pc : Nat) (ext : List Nat) : Bool := match ext with
  | [x, t] => (match thT[t]? with
    | some (c, ik, is, ic, xe, w, _) => decide (c = mC z ∧ xe = x ∧ c = 7 ∧ hndW z = []) && decide (decode (mB z) pc = .ok (.new ik, 3)) && decide (decode (mB z) (pc + 3) = .ok (.dup, 1)) &&
      (if w = 0 then decide (decode (mB z) (pc + 4) = .ok (.ldc is, 2)) && decide (decode (mB z) (pc + 6) = .ok (.invokespecial ic, 3)) && decide (decode (mB z) (pc + 9) = .ok (.athrow, 1))
       else decide (decode (mB z) (pc + 4) = .ok (.ldc_w is, 3)) && decide (decode (mB z) (pc + 7) = .ok (.invokespecial ic, 3)) && decide (decode (mB z) (pc + 10) = .ok (.athrow, 1)))
    | none => false)
  | _ => false
noncomputable def okE (z : Nat) (bs : List (List En)) (e : En) : Bool := match e.2.1 with
  | .nop => (match e.2.2.2 with | [b] => decide (e.2.2.1 = 0) && decide (hpc bs b = e.1) | _ => false)
  | .monitorenter => true
  | .athrow => okT z e.1 e.2.2.2
  | i => match decode (mB z) e.1 with
    | .ok (j, l) => decide (l = e.2.2.1) && lnOk j l && okJ z bs e.1 j i e.2.2.2
    | .error _ => false
def chn : Nat → List En → Bool
  | _, [] => true
  | pc, e :: r => decide (e.1 = pc) && chn (pc + e.2.2.1) r
noncomputable def okK (z : Nat) (bs : List (List En)) (cs : List En) : Bool := chn (match cs with | e :: _ => e.1 | [] => 0) cs && cs.all (okE z bs)
noncomputable def okM (z : Nat) (bs : List (List En)) : Bool := bs.all (okK z bs) && decide (hpc bs 0 = 0)
