/-! THE START: what stands still, at the entry of the law on the real machine -/
theorem tw_any {w : Cond} {s : State} {A0 : Array Value} (ht : tw w = true) (h : w.before A0 s = true) : ∀ A, w.before A s = true := by
  intro A
  unfold tw at ht
  rcases Bool.or_eq_true_iff.mp ht with g | g
  · exact word_at (State.WarmedH.refl s) (good_of_word g) h
  · cases w with
    | fieldLinkNest a i b n d x => exact va_Nw.use rfl (va_Nw.of rfl h)
    | methodLinkNest a i x y => exact va_Nw.use rfl (va_Nw.of rfl h)
    | declares x => exact va_Nw.use rfl (va_Nw.of rfl h)
    | castable C T => exact va_Nw.use rfl (va_Nw.of rfl h)
    | arrayOver t =>
      cases t with
      | object C => exact (va_AO.of h).use
      | array t => exact h
      | _ => exact absurd (show false = true from g) Bool.false_ne_true
    | _ => exact absurd (show false = true from g) Bool.false_ne_true
theorem arr_1 {s : State} {t : FieldType} {A : Array Value} (hno : ∀ C, t ≠ .object C) (h : (Cond.arrayClass t).before A s = true) : ∃ cA, ArrOfT s cA t ∧ va_RA s cA t := by
  obtain ⟨cA, kA, comp, h1, h2, h3⟩ := Cond.arrayClass_spec h
  refine ⟨cA, fun n z => ⟨fun k h => (by cases h), kA, h2, comp, h3⟩, ?_⟩
  cases t with
  | object C => exact absurd rfl (hno C)
  | _ => exact h1
theorem arr_2 {s : State} {C : String} {A : Array Value} (h : (Cond.arrayOver (.object C)).before A s = true) : ∃ cA, ArrOfT s cA (.object C) ∧ va_RA s cA (.object C) := by
  obtain ⟨comp, cA, kA, h1, -, h2, h3, h4⟩ := Cond.arrayOver_spec h
  exact ⟨cA, fun n z => ⟨fun k h => (by cases h), kA, h2, comp, h3⟩, kA, comp, h2, h3, h1, h4⟩
theorem arr_3 {s : State} {t : FieldType} {A : Array Value} (h : (Cond.arrayOver (.array t)).before A s = true) : ∃ cA, ArrOfT s cA (.array t) ∧ va_RA s cA (.array t) := by
  obtain ⟨comp, cA, kA, h1, h2, h3, h4⟩ := Cond.arrayOver_specA h
  exact ⟨cA, fun n z => ⟨fun k h => (by cases h), kA, h2, comp, h3⟩, h4⟩
theorem arr_all {s : State} (hw : ∀ w ∈ lw_tbl, tw w = true → ∀ A, w.before A s = true) : ∃ ty : Nat → ClassId, ∀ (k : Nat) (q : ClassId × FieldType), (tyL ty)[k]? = some q → ArrOfT s q.1 q.2 ∧ va_RA s q.1 q.2 := by
  obtain ⟨c0, h0⟩ := arr_1 (t := .int) (fun _ h => by cases h) (hw _ (wat_in arr_int) rfl #[])
  obtain ⟨c1, h1⟩ := arr_1 (t := .boolean) (fun _ h => by cases h) (hw _ (wat_in arr_boolean) rfl #[])
  obtain ⟨c4, h4⟩ := arr_2 (C := "Bitmapstore$RowSet") (hw _ (wat_in (arr_over (k := 14) (Or.inl rfl))) rfl #[])
  obtain ⟨c5, h5⟩ := arr_2 (C := "Bitmapstore$Column") (hw _ (wat_in (arr_over (k := 15) (Or.inr (Or.inl rfl)))) rfl #[])
  obtain ⟨c6, h6⟩ := arr_2 (C := "Bitmapstore$Condition") (hw _ (wat_in (arr_over (k := 16) (Or.inr (Or.inr (Or.inl rfl))))) rfl #[])
  obtain ⟨c7, h7⟩ := arr_2 (C := "Bitmapstore$State") (hw _ (wat_in (arr_over (k := 17) (Or.inr (Or.inr (Or.inr rfl))))) rfl #[])
  obtain ⟨c8, h8⟩ := arr_3 (t := .int) (hw _ (wat_in arr_ints) rfl #[])
  obtain ⟨c9, h9⟩ := arr_3 (t := .boolean) (hw _ (wat_in arr_bools) rfl #[])
  refine ⟨fun k => if k = 1 then c1 else if k = 4 then c4 else if k = 5 then c5 else if k = 6 then c6 else if k = 7 then c7 else if k = 8 then c8 else if k = 9 then c9 else c0, fun k q hq => ?_⟩
  unfold tyL at hq
  match k, hq with
  | 0, hq => cases hq; exact h0
  | 1, hq => cases hq; exact h1
  | 2, hq => cases hq; exact h0
  | 3, hq => cases hq; exact h0
  | 4, hq => cases hq; exact h4
  | 5, hq => cases hq; exact h5
  | 6, hq => cases hq; exact h6
  | 7, hq => cases hq; exact h7
  | 8, hq => cases hq; exact h8
  | 9, hq => cases hq; exact h9
  | n + 10, hq => cases hq
theorem cls_all {s : State} (hw : ∀ w ∈ lw_tbl, tw w = true → ∀ A, w.before A s = true) : ∃ D : va_G, ∀ (c : Nat) (q : vw_C), vwCl[c]? = some q → u_Kn s q.1 q.2.1 q.2.2 (D.1 c) (D.2 c) := by
  have h1 : ∀ c, ∃ (cC : ClassId) (iS : Nat → Nat), c < 10 → u_Kn s (vc c).1 (vc c).2.1 (vc c).2.2 cC iS := fun c => by
    by_cases h : c < 10
    · obtain ⟨cC, iS, hk⟩ := u_known (ws := u_ws (vc c).1 (vc c).2.1 (vc c).2.2) (args := #[]) (s := s) (fun w hw9 => hw w (us_ok h w hw9).1 (us_ok h w hw9).2 #[]) (fun w h => h) (hw _ (wat_in (ins_at h).1) rfl #[])
      exact ⟨cC, iS, fun _ => hk⟩
    · exact ⟨0, fun _ => 0, fun h9 => absurd h9 h⟩
  refine ⟨(fun c => Classical.choose (h1 c), fun c => Classical.choose (Classical.choose_spec (h1 c))), fun c q hq => ?_⟩
  by_cases hc : c < 10
  · rw [vc_at hc] at hq
    cases hq
    exact Classical.choose_spec (Classical.choose_spec (h1 c)) hc
  · rw [List.getElem?_eq_none (show vwCl.length ≤ c from Nat.not_lt.mp hc)] at hq
    cases hq
def lkA (k : Nat) : Int32 := iv (if k = 0 then -64 else if k = 1 then -33 else if k = 2 then -1 else if k = 3 then 0 else if k = 4 then 17 else 63)
def lkT : Term := Jvm.Term.static "Bitmapstore" "LOOKED_AT" "[I"
theorem len_at {t : Term} {args : Array Value} {s : State} {a : Nat} {cell : Cell} {n : Int32} (ht : t.eval args s none [] s = some (.ref a)) (ha : s.arrayAt? a = some cell) (h : (Term.length t).eval args s none [] s = some (.int n)) : cell.slots.size < 2147483648 ∧ cell.slots.size.toInt32 = n := by
  simp only [Term.eval, ht, ha, Option.bind_eq_bind, Option.bind_some] at h
  by_cases hlt : cell.slots.size < 2147483648
  · refine ⟨hlt, ?_⟩
    simp only [hlt, if_true, ite_true] at h
    cases h
    rfl
  · simp [hlt] at h
theorem el_at {t : Term} {args : Array Value} {s : State} {a n : Nat} {cell : Cell} {k v : Int32} (ht : t.eval args s none [] s = some (.ref a)) (ha : s.arrayAt? a = some cell) (hn : k.toNatClampNeg = n) (h : (Cond.eq (.elem t (.int k)) (.int v)).before args s = true) : cell.slots[n]? = some (.int v) := by
  obtain ⟨a2, j, cell2, e1, e2, e3, -, e5⟩ := Term.elem_spec (Cond.eq_int h rfl)
  rw [ht] at e1
  cases e1
  rw [ha] at e3
  cases e3
  have e2 : some (Value.int k) = some (Value.int j) := e2
  cases e2
  rw [← hn]
  exact e5
theorem lk_at {b : Nat} {s : State} (hg : (Jvm.Cond.and given_1 narrow_1).before #[Value.ref b] s = true) : ∃ a, lkT.eval #[Value.ref b] s none [] s = some (.ref a) ∧ va_X a 6 lkA s s.heap ∧ a < s.heap.size := by
  have hs := flat_of_before _ hg
  have h1 : (Cond.arrayOf lkT .int).before #[Value.ref b] s = true := hs _ (by decide +kernel)
  have h2 : (Cond.eq (.length lkT) (.int 6)).before #[Value.ref b] s = true := hs _ (by decide +kernel)
  have e0 : (Cond.eq (.elem lkT (.int 0)) (.int (-64))).before #[Value.ref b] s = true := hs _ (by decide +kernel)
  have e1 : (Cond.eq (.elem lkT (.int 1)) (.int (-33))).before #[Value.ref b] s = true := hs _ (by decide +kernel)
  have e2 : (Cond.eq (.elem lkT (.int 2)) (.int (-1))).before #[Value.ref b] s = true := hs _ (by decide +kernel)
  have e3 : (Cond.eq (.elem lkT (.int 3)) (.int 0)).before #[Value.ref b] s = true := hs _ (by decide +kernel)
  have e4 : (Cond.eq (.elem lkT (.int 4)) (.int 17)).before #[Value.ref b] s = true := hs _ (by decide +kernel)
  have e5 : (Cond.eq (.elem lkT (.int 5)) (.int 63)).before #[Value.ref b] s = true := hs _ (by decide +kernel)
  generalize lkT = t at h1 h2 e0 e1 e2 e3 e4 e5 ⊢
  have hv := Cond.eq_int h2 rfl
  obtain ⟨a, cell, ht, ha, -⟩ := Term.length_spec hv
  obtain ⟨hc, hn, -, -⟩ := State.arrayAt?_spec ha
  have hof := (Cond.arrayOf_spec h1 ht hc).1
  obtain ⟨z1, z2⟩ := len_at ht ha hv
  have hsz : cell.slots.size = 6 := by
    have z3 : (Int32.ofNat cell.slots.size).toInt = (6 : Int32).toInt := congrArg Int32.toInt z2
    rw [Int32.toInt_ofNat_small z1] at z3
    have z4 : (6 : Int32).toInt = 6 := by decide
    omega
  refine ⟨a, ht, ⟨cell, hc, hof, hn, hsz, fun j hj => ?_⟩, (Array.getElem?_eq_some_iff.mp hc).1⟩
  rcases (show j = 0 ∨ j = 1 ∨ j = 2 ∨ j = 3 ∨ j = 4 ∨ j = 5 by omega) with rfl | rfl | rfl | rfl | rfl | rfl
  · exact el_at ht ha rfl e0
  · exact el_at ht ha rfl e1
  · exact el_at ht ha rfl e2
  · exact el_at ht ha rfl e3
  · exact el_at ht ha rfl e4
  · exact el_at ht ha rfl e5
theorem str_at {b : Nat} {s : State} (hts : ∀ w ∈ lw_tbl, w.before #[Value.ref b] s = true) (hg : (Jvm.Cond.and given_1 narrow_1).before #[Value.ref b] s = true) : ∀ t ∈ thT, ∃ a, vk_R (cn t.1) t.2.2.1 t.2.2.2.2.2.2 a s := by
  have hs := flat_of_before _ hg
  have key : ∀ (p k : Nat) (tx : String), wat p = some (.stringRef "Bitmapstore" k tx) → (Cond.exactly (.string "Bitmapstore" k) "java/lang/String") ∈ flatC (Jvm.Cond.and given_1 narrow_1) → ∃ a, vk_R "Bitmapstore" k tx a s := fun p k tx h1 h2 => by
    obtain ⟨a, c, cell, k9, e1, -⟩ := Cond.exactly_spec (hs _ h2)
    exact ⟨a, vk_R.of (A := #[Value.ref b]) (hts _ (wat_in h1)) e1⟩
  intro t ht
  simp only [thT, List.mem_cons, List.not_mem_nil, or_false] at ht
  rcases ht with rfl | rfl | rfl | rfl | rfl | rfl | rfl
  · exact key 2084 349 "there is nothing of this number" (by decide +kernel) (by decide +kernel)
  · exact key 2051 351 "there is no such row" (by decide +kernel) (by decide +kernel)
  · exact key 3169 353 "the number is below 0" (by decide +kernel) (by decide +kernel)
  · exact key 2103 357 "the number is out of range" (by decide +kernel) (by decide +kernel)
  · exact key 3094 362 "there is no room for the rows" (by decide +kernel) (by decide +kernel)
  · exact key 4088 365 "there are four conditions" (by decide +kernel) (by decide +kernel)
  · exact key 5024 367 "there is no change to undo" (by decide +kernel) (by decide +kernel)
def st0 (L : Nat) (xs : Nat → Int32) : St := (fun p k => if p = 0 then xs k else if p = 1 then lkA k else 0, fun _ _ => 0, fun _ _ => 0, fun _ _ => none, fun p => if p = 0 then L else if p = 1 then 6 else 0, fun p => if p = 0 then 20 else if p = 1 then 21 else 99, 0, 0, 0)
theorem st0_ok (L : Nat) (xs : Nat → Int32) : okS (st0 L xs) := ⟨Or.inl rfl, rfl, fun q hq => by
  have hq : 0 + 2 ≤ q := hq
  show (if q = 0 then 20 else if q = 1 then 21 else 99) = 99
  rw [if_neg (by omega), if_neg (by omega)], fun p k q h => by cases h⟩
theorem sx_start {b L : Nat} {xs : Nat → Int32} {s : State} (hts : ∀ w ∈ lw_tbl, w.before #[Value.ref b] s = true) (hX : va_X b L xs s s.heap) (hbl : b < s.heap.size) (hg : (Jvm.Cond.and given_1 narrow_1).before #[Value.ref b] s = true) : ∃ (D : va_G) (ty : Nat → ClassId) (a1 : Nat), Sx D ty s.heap.size (fun k => if k = 0 then b else a1) (st0 L xs) s := by
  have hW : ∀ w ∈ lw_tbl, tw w = true → ∀ A, w.before A s = true := fun w hw ht => tw_any ht (hts w hw)
  have hs := flat_of_before _ hg
  obtain ⟨a1, e1, hX1, hl1⟩ := lk_at hg
  obtain ⟨ty, hty⟩ := arr_all hW
  obtain ⟨D, hD⟩ := cls_all hW
  have hA : ∀ a : Nat, a < s.heap.size → ¬ Ab s.heap.size a := fun a h h2 => absurd h (Nat.not_lt.mpr h2)
  refine ⟨D, ty, a1, ⟨hD, hty⟩, hW, fun _ => hX, hX1, ?_, ?_, ?_, ⟨str_at hts hg, fun a h1 h2 => absurd h2 (by omega)⟩, fun _ => hbl, hl1, Nat.le_refl _⟩
  · exact va_Zref (hts _ (wat_in (p := 2201) (by decide +kernel))) (hts _ (wat_in (ins_at (c := 7) (by omega)).2.1)) e1 hA
  · exact vx_Zqof (hts _ (wat_in (p := 2037) (by decide +kernel))) (hts _ (wat_in (p := 1012) (by decide +kernel))) (hs _ (by decide +kernel)) hA
  · exact vx_Zqof (hts _ (wat_in (p := 2039) (by decide +kernel))) (hts _ (wat_in (p := 1012) (by decide +kernel))) (hs _ (by decide +kernel)) hA
