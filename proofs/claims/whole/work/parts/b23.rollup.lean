/-! THE MODEL: rollup -/
/-- the groups of the pairs of rows and levels that are done -/
def SGD (bt : Nat → Bool) (V : Nat → Nat → Int) (D : Nat → Nat → Bool) (k : Nat) (g : Nat → Nat → Int) : Prop := (∀ i, i < k → ∃ r l, r < 120 ∧ l ≤ lvm bt ∧ D r l = true ∧ keq (gky bt V l r) (g i) = true ∧ g i 4 = (fb_ct (fun r => D r l && keq (gky bt V l r) (g i)) 120 : Nat)) ∧ (∀ r l, r < 120 → l ≤ lvm bt → D r l = true → ∃ i, i < k ∧ keq (gky bt V l r) (g i) = true) ∧ (∀ i j, i < j → j < k → lx (g i) (g j))
def dAdd (D : Nat → Nat → Bool) (r0 l0 r l : Nat) : Bool := if r = r0 ∧ l = l0 then true else D r l
theorem SGD_lt {bt : Nat → Bool} {V : Nat → Nat → Int} {D : Nat → Nat → Bool} {k r0 l0 : Nat} {g : Nat → Nat → Int} (h : SGD bt V D k g) (hr0 : r0 < 120) (hl0 : l0 ≤ lvm bt) (hno : ∀ i, i < k → keq (gky bt V l0 r0) (g i) = false) : k ≤ 480 := by
  have hm : lvm bt ≤ 4 := fb_ct_le bt 4
  have hc : ∀ i, ∃ p : Nat × Nat, i < k → (p.1 < 120 ∧ p.2 ≤ lvm bt ∧ keq (gky bt V p.2 p.1) (g i) = true) := fun i => by
    by_cases hi : i < k
    · obtain ⟨r, l, h1, h2, -, h4, -⟩ := h.1 i hi
      exact ⟨(r, l), fun _ => ⟨h1, h2, h4⟩⟩
    · exact ⟨(0, 0), fun h => absurd h hi⟩
  have hC := fun i => Classical.choose_spec (hc i)
  generalize hP : (fun i => Classical.choose (hc i)) = P
  have hC : ∀ i, i < k → ((P i).1 < 120 ∧ (P i).2 ≤ lvm bt ∧ keq (gky bt V (P i).2 (P i).1) (g i) = true) := fun i hi => by
    rw [← hP]
    exact hC i hi
  have key0 : ∀ r r' c, gky bt V 0 r c = gky bt V 0 r' c := fun r r' c => by
    unfold gky lv
    simp only [Nat.not_lt_zero, decide_false, Bool.and_false]
    rfl
  have hf := fb_holes 481 (k + 1) (fun i => if i = k then (if l0 = 0 then 0 else 1 + (l0 - 1) * 120 + r0) else (if (P i).2 = 0 then 0 else 1 + ((P i).2 - 1) * 120 + (P i).1)) (fun i hi => ?_) (fun i j hij hj => ?_)
  · omega
  · show (if i = k then (if l0 = 0 then 0 else 1 + (l0 - 1) * 120 + r0) else (if (P i).2 = 0 then 0 else 1 + ((P i).2 - 1) * 120 + (P i).1)) < 481
    by_cases e : i = k
    · rw [if_pos e]
      split <;> omega
    · rw [if_neg e]
      have := hC i (by omega)
      split <;> omega
  · intro he
    have hi : i < k := by omega
    have hci := hC i hi
    have he : (if i = k then (if l0 = 0 then 0 else 1 + (l0 - 1) * 120 + r0) else (if (P i).2 = 0 then 0 else 1 + ((P i).2 - 1) * 120 + (P i).1)) = (if j = k then (if l0 = 0 then 0 else 1 + (l0 - 1) * 120 + r0) else (if (P j).2 = 0 then 0 else 1 + ((P j).2 - 1) * 120 + (P j).1)) := he
    rw [if_neg (show ¬ i = k by omega)] at he
    by_cases e : j = k
    · rw [if_pos e] at he
      have hn := hno i hi
      by_cases z1 : (P i).2 = 0
      · rw [if_pos z1] at he
        have z2 : l0 = 0 := by
          split at he
          · assumption
          · omega
        rw [z1] at hci
        rw [z2] at hn
        have : keq (gky bt V 0 r0) (g i) = true := keq_tr (keq_iff.mpr (fun c _ => key0 r0 _ c)) hci.2.2
        rw [this] at hn
        cases hn
      · rw [if_neg z1] at he
        have z2 : ¬ l0 = 0 := fun z => by rw [if_pos z] at he; omega
        rw [if_neg z2] at he
        have y1 : (P i).2 = l0 := by omega
        have y2 : (P i).1 = r0 := by omega
        rw [y1, y2] at hci
        rw [hci.2.2] at hn
        cases hn
    · rw [if_neg e] at he
      have hcj := hC j (by omega)
      have hlt := h.2.2 i j hij (by omega)
      by_cases z1 : (P i).2 = 0
      · rw [if_pos z1] at he
        have z2 : (P j).2 = 0 := by
          split at he
          · assumption
          · omega
        rw [z1] at hci
        rw [z2] at hcj
        exact lx_irr hlt (keq_iff.mp (keq_tr (keq_sym hci.2.2) (keq_tr (keq_iff.mpr (fun c _ => key0 _ _ c)) hcj.2.2)))
      · rw [if_neg z1] at he
        have z2 : ¬ (P j).2 = 0 := fun z => by rw [if_pos z] at he; omega
        rw [if_neg z2] at he
        have y1 : (P i).2 = (P j).2 := by omega
        have y2 : (P i).1 = (P j).1 := by omega
        rw [y1, y2] at hci
        exact lx_irr hlt (keq_iff.mp (keq_tr (keq_sym hci.2.2) hcj.2.2))
theorem SGD.addA {bt : Nat → Bool} {V : Nat → Nat → Int} {D : Nat → Nat → Bool} {k r0 l0 i0 : Nat} {g : Nat → Nat → Int} (hV : ∀ r c, V r c ≤ 100) (h : SGD bt V D k g) (hr0 : r0 < 120) (hl0 : l0 ≤ lvm bt) (hD : D r0 l0 = false) (hi0 : i0 < k) (hk : keq (g i0) (gky bt V l0 r0) = true) : SGD bt V (dAdd D r0 l0) k (gAdd g i0) := by
  obtain ⟨h1, h2, h3⟩ := h
  have ge : ∀ i c, c < 4 → gAdd g i0 i c = g i c := fun i c hc => if_neg (by omega)
  have gq : ∀ i, keq (g i) (gAdd g i0 i) = true := fun i => keq_iff.mpr (fun c hc => (ge i c hc).symm)
  refine ⟨fun i hi => ?_, fun r l hr hl hd => ?_, fun i j hij hj => lx_cong (h3 i j hij hj) (fun c hc => (ge i c hc).symm) (fun c hc => (ge j c hc).symm)⟩
  · obtain ⟨r, l, a1, a2, a3, a4, a5⟩ := h1 i hi
    refine ⟨r, l, a1, a2, ?_, keq_tr a4 (gq i), ?_⟩
    · unfold dAdd
      split
      · rfl
      · exact a3
    · by_cases e : i = i0
      · subst e
        have hl : l = l0 := lv_one hV hV a2 hl0 (keq_tr a4 hk)
        subst hl
        have hg4 : gAdd g i i 4 = g i 4 + 1 := if_pos ⟨rfl, rfl⟩
        rw [hg4, a5]
        have hu := fb_ct_upd (fun r => D r l && keq (gky bt V l r) (g i)) true (i := r0) (n := 120) hr0
        have e1 : fb_ct (fun r => dAdd D r0 l r l && keq (gky bt V l r) (gAdd g i i)) 120 = fb_ct (fun r => if r = r0 then true else (D r l && keq (gky bt V l r) (g i))) 120 := fb_ct_cong (fun r _ => by
          rw [← keq_cong (gq i)]
          unfold dAdd
          by_cases e : r = r0
          · rw [if_pos ⟨e, rfl⟩, if_pos e, e, keq_sym hk]
            rfl
          · rw [if_neg (fun h => e h.1), if_neg e])
        have hu2 : fb_ct (fun r => if r = r0 then true else (D r l && keq (gky bt V l r) (g i))) 120 + (if (D r0 l && keq (gky bt V l r0) (g i)) = true then 1 else 0) = fb_ct (fun r => D r l && keq (gky bt V l r) (g i)) 120 + (if true = true then 1 else 0) := hu
        rw [hD, Bool.false_and, if_neg (by decide), if_pos rfl] at hu2
        rw [e1]
        omega
      · have hg4 : gAdd g i0 i 4 = g i 4 := if_neg (fun h => e h.1)
        rw [hg4, a5]
        refine congrArg (fun (n : Nat) => (n : Int)) (fb_ct_cong (fun r _ => ?_))
        rw [← keq_cong (gq i)]
        unfold dAdd
        by_cases e2 : r = r0 ∧ l = l0
        · rw [if_pos e2, e2.1, e2.2, hD, Bool.false_and]
          cases h9 : keq (gky bt V l0 r0) (g i)
          · rfl
          · have h8 := keq_iff.mp (keq_tr hk h9)
            rcases Nat.lt_trichotomy i i0 with q | q | q
            · exact (lx_irr (h3 i i0 q hi0) (fun c hc => (h8 c hc).symm)).elim
            · exact absurd q e
            · exact (lx_irr (h3 i0 i q hi) h8).elim
        · rw [if_neg e2]
  · unfold dAdd at hd
    by_cases e : r = r0 ∧ l = l0
    · rw [e.1, e.2]
      exact ⟨i0, hi0, keq_tr (keq_sym hk) (gq i0)⟩
    · rw [if_neg e] at hd
      obtain ⟨i, b1, b2⟩ := h2 r l hr hl hd
      exact ⟨i, b1, keq_tr b2 (gq i)⟩
theorem SGD.addB {bt : Nat → Bool} {V : Nat → Nat → Int} {D : Nat → Nat → Bool} {k r0 l0 a0 : Nat} {g : Nat → Nat → Int} (h : SGD bt V D k g) (hr0 : r0 < 120) (hl0 : l0 ≤ lvm bt) (ha : a0 ≤ k) (hlo : ∀ j, j < a0 → lx (g j) (gky bt V l0 r0)) (hup : ∀ j, a0 ≤ j → j < k → lx (gky bt V l0 r0) (g j)) : SGD bt V (dAdd D r0 l0) (k + 1) (gIns g (gky bt V l0 r0) a0) := by
  obtain ⟨h1, h2, h3⟩ := h
  have hno : ∀ i, i < k → keq (gky bt V l0 r0) (g i) = false := fun i hi => by
    cases h9 : keq (gky bt V l0 r0) (g i)
    · rfl
    · by_cases e : i < a0
      · exact (lx_irr (hlo i e) (fun c hc => (keq_iff.mp h9 c hc).symm)).elim
      · exact (lx_irr (hup i (by omega) hi) (keq_iff.mp h9)).elim
  have g1 : ∀ i, i < a0 → gIns g (gky bt V l0 r0) a0 i = g i := fun i hi => funext (fun c => if_pos hi)
  have g2 : ∀ i, a0 ≤ i → gIns g (gky bt V l0 r0) a0 (i + 1) = g i := fun i hi => funext (fun c => by
    show (if i + 1 < a0 then g (i + 1) c else if i + 1 = a0 then (if c = 4 then 1 else gky bt V l0 r0 c) else g (i + 1 - 1) c) = g i c
    rw [if_neg (by omega), if_neg (by omega), Nat.add_sub_cancel])
  have g3 : ∀ c, c < 4 → gIns g (gky bt V l0 r0) a0 a0 c = gky bt V l0 r0 c := fun c hc => by
    show (if a0 < a0 then g a0 c else if a0 = a0 then (if c = 4 then 1 else gky bt V l0 r0 c) else g (a0 - 1) c) = _
    rw [if_neg (by omega), if_pos rfl, if_neg (by omega)]
  have g4 : gIns g (gky bt V l0 r0) a0 a0 4 = 1 := by
    show (if a0 < a0 then g a0 4 else if a0 = a0 then (if 4 = 4 then 1 else gky bt V l0 r0 4) else g (a0 - 1) 4) = 1
    rw [if_neg (by omega), if_pos rfl, if_pos rfl]
  have old : ∀ i, i < k → ∃ r l, r < 120 ∧ l ≤ lvm bt ∧ dAdd D r0 l0 r l = true ∧ keq (gky bt V l r) (g i) = true ∧ g i 4 = (fb_ct (fun r => dAdd D r0 l0 r l && keq (gky bt V l r) (g i)) 120 : Nat) := fun i hi => by
    obtain ⟨r, l, a1, a2, a3, a4, a5⟩ := h1 i hi
    refine ⟨r, l, a1, a2, ?_, a4, ?_⟩
    · unfold dAdd
      split
      · rfl
      · exact a3
    · rw [a5]
      refine congrArg (fun (n : Nat) => (n : Int)) (fb_ct_cong (fun r _ => ?_))
      unfold dAdd
      by_cases e2 : r = r0 ∧ l = l0
      · rw [if_pos e2, e2.1, e2.2, hno i hi, Bool.and_false, Bool.and_false]
      · rw [if_neg e2]
  refine ⟨fun i hi => ?_, fun r l hr hl hd => ?_, fun i j hij hj => ?_⟩
  · by_cases e1 : i < a0
    · rw [g1 i e1]; exact old i (by omega)
    · by_cases e2 : i = a0
      · subst e2
        refine ⟨r0, l0, hr0, hl0, if_pos ⟨rfl, rfl⟩, keq_iff.mpr (fun c hc => (g3 c hc).symm), ?_⟩
        rw [g4]
        have e1 : fb_ct (fun r => dAdd D r0 l0 r l0 && keq (gky bt V l0 r) (gIns g (gky bt V l0 r0) i i)) 120 = fb_ct (fun r => if r = r0 then true else (fun _ => false) r) 120 := fb_ct_cong (fun r hr => by
          have hq : keq (gky bt V l0 r) (gIns g (gky bt V l0 r0) i i) = keq (gky bt V l0 r) (gky bt V l0 r0) := keq_cong (keq_iff.mpr g3)
          rw [hq]
          unfold dAdd
          by_cases e : r = r0
          · rw [if_pos ⟨e, rfl⟩, if_pos e, e, keq_iff.mpr (fun _ _ => rfl)]
            rfl
          · rw [if_neg (fun h => e h.1), if_neg e]
            cases h9 : D r l0
            · rfl
            · obtain ⟨j, b1, b2⟩ := h2 r l0 hr hl0 h9
              cases h8 : keq (gky bt V l0 r) (gky bt V l0 r0)
              · rfl
              · have := keq_tr (keq_sym h8) b2
                rw [hno j b1] at this
                cases this)
        have hu := fb_ct_upd (fun _ => false) true (i := r0) (n := 120) hr0
        have hz : fb_ct (fun _ => false) 120 = 0 := fb_ct_zero.mpr (fun _ _ => rfl)
        rw [hz] at hu
        have hu2 : fb_ct (fun r => if r = r0 then true else (fun _ => false) r) 120 + (if false = true then 1 else 0) = 0 + (if true = true then 1 else 0) := hu
        rw [if_neg (by decide), if_pos rfl] at hu2
        rw [e1]
        omega
      · obtain ⟨i', rfl⟩ : ∃ i', i = i' + 1 := ⟨i - 1, by omega⟩
        rw [g2 i' (by omega)]
        exact old i' (by omega)
  · have hx : ∀ i, i < k → keq (gky bt V l r) (g i) = true → ∃ i, i < k + 1 ∧ keq (gky bt V l r) (gIns g (gky bt V l0 r0) a0 i) = true := fun i hi hq => by
      by_cases e1 : i < a0
      · exact ⟨i, by omega, by rw [g1 i e1]; exact hq⟩
      · exact ⟨i + 1, by omega, by rw [g2 i (by omega)]; exact hq⟩
    unfold dAdd at hd
    by_cases e : r = r0 ∧ l = l0
    · rw [e.1, e.2]
      exact ⟨a0, by omega, keq_iff.mpr (fun c hc => (g3 c hc).symm)⟩
    · rw [if_neg e] at hd
      obtain ⟨i, b1, b2⟩ := h2 r l hr hl hd
      exact hx i b1 b2
  · by_cases e1 : j < a0
    · rw [g1 i (by omega), g1 j e1]; exact h3 i j hij (by omega)
    · by_cases e2 : j = a0
      · subst e2
        rw [g1 i hij]
        exact lx_cong (hlo i hij) (fun _ _ => rfl) (fun c hc => (g3 c hc).symm)
      · obtain ⟨j', rfl⟩ : ∃ j', j = j' + 1 := ⟨j - 1, by omega⟩
        rw [g2 j' (by omega)]
        by_cases e3 : i < a0
        · rw [g1 i e3]; exact h3 i j' (by omega) (by omega)
        · by_cases e4 : i = a0
          · subst e4
            exact lx_cong (hup j' (by omega) (by omega)) (fun c hc => (g3 c hc).symm) (fun _ _ => rfl)
          · obtain ⟨i', rfl⟩ : ∃ i', i = i' + 1 := ⟨i - 1, by omega⟩
            rw [g2 i' (by omega)]
            exact h3 i' j' (by omega) (by omega)
def msk (w l : Nat) : Nat := (if lv (fun c => dig (w : Int) c) l 0 = true then 1 else 0) + (if lv (fun c => dig (w : Int) c) l 1 = true then 2 else 0) + (if lv (fun c => dig (w : Int) c) l 2 = true then 4 else 0) + (if lv (fun c => dig (w : Int) c) l 3 = true then 8 else 0)
theorem msk_dig : ∀ w : Nat, w < 16 → ∀ l : Nat, l < 5 → ∀ c : Nat, c < 4 → dig ((msk w l : Nat) : Int) c = lv (fun c => dig (w : Int) c) l c := by decide +kernel
theorem msk_top : ∀ w : Nat, w < 16 → msk w (lvm (fun c => dig (w : Int) c)) = w := by decide +kernel
theorem msk_nx : ∀ w : Nat, w < 16 → ∀ l : Nat, l < 4 → l < lvm (fun c => dig (w : Int) c) → (msk w (l + 1)) ^^^ hob (msk w (l + 1)) = msk w l ∧ 0 < msk w (l + 1) := by decide +kernel
theorem msk_0 (w : Nat) : msk w 0 = 0 := by
  unfold msk lv
  simp only [Nat.not_lt_zero, decide_false, Bool.and_false]
  rfl
theorem msk_lt : ∀ w : Nat, w < 16 → ∀ l : Nat, l < 5 → msk w l < 16 := by decide +kernel
theorem iv_xor : ∀ a : Nat, a < 16 → ∀ b : Nat, b < 16 → iv (a : Nat) ^^^ iv (b : Nat) = iv ((a ^^^ b : Nat) : Int) := by decide +kernel
theorem hob_lt : ∀ a : Nat, a < 16 → hob a < 16 := by decide
