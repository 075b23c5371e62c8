/-! GROUPS: one level out of the next -/
def isCol (bt : Nat → Bool) (L c : Nat) : Prop := c < 4 ∧ bt c = true ∧ fb_ct bt c = L
theorem isCol_ex {bt : Nat → Bool} {L : Nat} (h : L < lvm bt) : ∃ c, isCol bt L c := by
  obtain ⟨c, hc, hb, hct⟩ := fb_ct_kth (p := bt) (k := L) (n := 4) h
  exact ⟨c, hc, hb, hct⟩
theorem isCol.at {bt : Nat → Bool} {L c l : Nat} (h : isCol bt L c) : lv bt l c = decide (L < l) := by
  unfold lv
  rw [h.2.1, h.2.2, Bool.true_and]
theorem isCol.be {bt : Nat → Bool} {L c d l : Nat} (h : isCol bt L c) (hd : d < c) (hl : L ≤ l) : lv bt l d = lv bt L d := by
  unfold lv
  cases hb : bt d
  · rfl
  · have h1 := fb_ct_mono bt (show d + 1 ≤ c by omega)
    rw [fb_ct_succ, hb, if_pos rfl, h.2.2] at h1
    rw [decide_eq_true (by omega), decide_eq_true (by omega)]
theorem isCol.nx {bt : Nat → Bool} {L c d : Nat} (h : isCol bt L c) (hne : d ≠ c) : lv bt (L + 1) d = lv bt L d := by
  unfold lv
  cases hb : bt d
  · rfl
  · by_cases e : d < c
    · have h1 := fb_ct_mono bt (show d + 1 ≤ c by omega)
      rw [fb_ct_succ, hb, if_pos rfl, h.2.2] at h1
      rw [decide_eq_true (by omega), decide_eq_true (by omega)]
    · have h1 := fb_ct_mono bt (show c + 1 ≤ d by omega)
      rw [fb_ct_succ, h.2.1, if_pos rfl, h.2.2] at h1
      rw [decide_eq_false (by omega), decide_eq_false (by omega)]
/-- rows that agree in the columns of a level -/
def agr (bt : Nat → Bool) (V : Nat → Nat → Int) (L : Nat) (P : Nat → Bool) : Prop := ∀ r r', P r = true → P r' = true → ∀ c, c < 4 → lv bt L c = true → V r c = V r' c
theorem agr.key {bt : Nat → Bool} {V : Nat → Nat → Int} {L : Nat} {P : Nat → Bool} (h : agr bt V L P) {r r' : Nat} (hr : P r = true) (hr' : P r' = true) : ∀ c, c < 4 → gky bt V L r c = gky bt V L r' c := fun c hc => by
  unfold gky
  cases e : lv bt L c
  · rfl
  · rw [if_pos rfl, if_pos rfl]
    exact h r r' hr hr' c hc e
theorem SEG.add {bt : Nat → Bool} {V : Nat → Nat → Int} {L c : Nat} {A B : Nat → Bool} {n0 n1 n2 : Nat} {g : Nat → Nat → Int} (hc : isCol bt L c) (ha : agr bt V L (fun r => A r || B r)) (hlt : ∀ r r', A r = true → B r' = true → V r c < V r' c) (h1 : SEG bt V (L + 1) A n0 n1 g) (h2 : SEG bt V (L + 1) B n1 n2 g) : SEG bt V (L + 1) (fun r => A r || B r) n0 n2 g := by
  obtain ⟨a0, a1, a2, a3⟩ := h1
  obtain ⟨b0, b1, b2, b3⟩ := h2
  have kc : ∀ l r, L + 1 ≤ l → gky bt V l r c = V r c := fun l r hl => by
    unfold gky
    rw [hc.at, decide_eq_true (by omega), if_pos rfl]
  have hA : ∀ r, A r = true → (A r || B r) = true := fun r h => by rw [h, Bool.true_or]
  have hB : ∀ r, B r = true → (A r || B r) = true := fun r h => by rw [h, Bool.or_true]
  refine ⟨by omega, fun i hi hi2 => ?_, fun r l hr hP hl hl2 => ?_, fun i j hi hij hj => ?_⟩
  · by_cases e : i < n1
    · obtain ⟨r, l, c1, c2, c3, c4, c5, c6⟩ := a1 i hi e
      refine ⟨r, l, c1, hA r c2, c3, c4, c5, ?_⟩
      rw [c6]
      refine congrArg (fun (n : Nat) => (n : Int)) (fb_ct_cong (fun r' _ => ?_))
      show (A r' && keq (gky bt V l r') (g i)) = ((A r' || B r') && keq (gky bt V l r') (g i))
      cases h9 : B r'
      · rw [Bool.or_false]
      · have hne : keq (gky bt V l r') (g i) = false := by
          cases h8 : keq (gky bt V l r') (g i)
          · rfl
          · have := keq_iff.mp (keq_tr h8 (keq_sym c5)) c hc.1
            rw [kc l r' c3, kc l r c3] at this
            have := hlt r r' c2 h9
            omega
        rw [hne, Bool.and_false, Bool.and_false]
    · obtain ⟨r, l, c1, c2, c3, c4, c5, c6⟩ := b1 i (by omega) hi2
      refine ⟨r, l, c1, hB r c2, c3, c4, c5, ?_⟩
      rw [c6]
      refine congrArg (fun (n : Nat) => (n : Int)) (fb_ct_cong (fun r' _ => ?_))
      show (B r' && keq (gky bt V l r') (g i)) = ((A r' || B r') && keq (gky bt V l r') (g i))
      cases h9 : A r'
      · rw [Bool.false_or]
      · have hne : keq (gky bt V l r') (g i) = false := by
          cases h8 : keq (gky bt V l r') (g i)
          · rfl
          · have := keq_iff.mp (keq_tr h8 (keq_sym c5)) c hc.1
            rw [kc l r' c3, kc l r c3] at this
            have := hlt r' r h9 c2
            omega
        rw [hne, Bool.and_false, Bool.and_false]
  · cases h9 : A r
    · obtain ⟨i, d1, d2, d3⟩ := b2 r l hr (by have hP : (A r || B r) = true := hP; rw [h9, Bool.false_or] at hP; exact hP) hl hl2
      exact ⟨i, by omega, d2, d3⟩
    · obtain ⟨i, d1, d2, d3⟩ := a2 r l hr h9 hl hl2
      exact ⟨i, d1, by omega, d3⟩
  · by_cases e : j < n1
    · exact a3 i j hi hij e
    · by_cases e2 : n1 ≤ i
      · exact b3 i j e2 hij hj
      · obtain ⟨r, l, c1, c2, c3, c4, c5, -⟩ := a1 i hi (by omega)
        obtain ⟨r', l', d1, d2, d3, d4, d5, -⟩ := b1 j (by omega) hj
        refine lx_cong (k := gky bt V l r) (k' := gky bt V l' r') ⟨c, hc.1, fun d hd => ?_, ?_⟩ (keq_iff.mp c5) (keq_iff.mp d5)
        · have hag := agr.key ha (hA r c2) (hB r' d2) d (by have := hc.1; omega)
          unfold gky at hag ⊢
          rw [hc.be (l := l) hd (by omega), hc.be (l := l') hd (by omega)]
          exact hag
        · rw [kc l r c3, kc l' r' d3]
          exact hlt r r' c2 d2
theorem SEG.last {bt : Nat → Bool} {V : Nat → Nat → Int} {L : Nat} {P : Nat → Bool} {n0 n1 r0 : Nat} {g : Nat → Nat → Int} (hV : ∀ r c, V r c ≤ 100) (hL : L ≤ lvm bt) (ha : agr bt V L P) (hr0 : r0 < 120) (hP0 : P r0 = true) (h1 : SEG bt V (L + 1) P n0 n1 g) (hk : keq (gky bt V L r0) (g n1) = true) (hc : g n1 4 = (fb_ct P 120 : Nat)) : SEG bt V L P n0 (n1 + 1) g := by
  obtain ⟨a0, a1, a2, a3⟩ := h1
  have hkP : ∀ r, P r = true → keq (gky bt V L r) (g n1) = true := fun r hr => keq_tr (keq_iff.mpr (ha.key hr hP0)) hk
  refine ⟨by omega, fun i hi hi2 => ?_, fun r l hr hP hl hl2 => ?_, fun i j hi hij hj => ?_⟩
  · by_cases e : i < n1
    · obtain ⟨r, l, c1, c2, c3, c4, c5, c6⟩ := a1 i hi e
      exact ⟨r, l, c1, c2, by omega, c4, c5, c6⟩
    · have e2 : i = n1 := by omega
      subst e2
      refine ⟨r0, L, hr0, hP0, Nat.le_refl L, hL, hk, ?_⟩
      rw [hc]
      refine congrArg (fun (n : Nat) => (n : Int)) (fb_ct_cong (fun r _ => ?_))
      cases h9 : P r
      · rw [Bool.false_and]
      · rw [hkP r h9, Bool.and_true]
  · by_cases e : l = L
    · subst e
      exact ⟨n1, by omega, by omega, hkP r hP⟩
    · obtain ⟨i, d1, d2, d3⟩ := a2 r l hr hP (by omega) hl2
      exact ⟨i, d1, by omega, d3⟩
  · by_cases e : j < n1
    · exact a3 i j hi hij e
    · have e2 : j = n1 := by omega
      subst e2
      obtain ⟨r, l, c1, c2, c3, c4, c5, -⟩ := a1 i hi hij
      obtain ⟨c, hcc⟩ := isCol_ex (bt := bt) (L := L) (by omega)
      refine lx_cong (k := gky bt V l r) (k' := gky bt V L r0) ⟨c, hcc.1, fun d hd => ?_, ?_⟩ (keq_iff.mp c5) (keq_iff.mp hk)
      · have hag := ha.key c2 hP0 d (by have := hcc.1; omega)
        unfold gky at hag ⊢
        rw [hcc.be (l := l) hd (by omega)]
        exact hag
      · have b1 := hV r c
        unfold gky
        rw [hcc.at, hcc.at, decide_eq_true (by omega), decide_eq_false (by omega), if_pos rfl, if_neg (by decide)]
        omega
