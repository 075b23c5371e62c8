/-! GROUPS: what they are -/
/-- the columns that count at a level: the first of those whose bits are set -/
def lv (bt : Nat → Bool) (l c : Nat) : Bool := bt c && decide (fb_ct bt c < l)
def lvm (bt : Nat → Bool) : Nat := fb_ct bt 4
/-- the key of a row at a level -/
def gky (bt : Nat → Bool) (V : Nat → Nat → Int) (l r c : Nat) : Int := if lv bt l c = true then V r c else 101
def keq (k k' : Nat → Int) : Bool := decide (k 0 = k' 0 ∧ k 1 = k' 1 ∧ k 2 = k' 2 ∧ k 3 = k' 3)
theorem keq_iff {k k' : Nat → Int} : keq k k' = true ↔ ∀ c, c < 4 → k c = k' c := by
  unfold keq
  rw [decide_eq_true_iff]
  constructor
  · intro ⟨h0, h1, h2, h3⟩ c hc
    have h4 : c = 0 ∨ c = 1 ∨ c = 2 ∨ c = 3 := by omega
    rcases h4 with h | h | h | h
    · rw [h]; exact h0
    · rw [h]; exact h1
    · rw [h]; exact h2
    · rw [h]; exact h3
  · intro h
    exact ⟨h 0 (by omega), h 1 (by omega), h 2 (by omega), h 3 (by omega)⟩
def lx (k k' : Nat → Int) : Prop := ∃ c, c < 4 ∧ (∀ d, d < c → k d = k' d) ∧ k c < k' c
theorem lx_irr {k k' : Nat → Int} (h : lx k k') (he : ∀ c, c < 4 → k c = k' c) : False := by
  obtain ⟨c, hc, -, h2⟩ := h
  rw [he c hc] at h2
  omega
theorem lx_tr {k k' k'' : Nat → Int} (h : lx k k') (h2 : lx k' k'') : lx k k'' := by
  obtain ⟨c, hc, h3, h4⟩ := h
  obtain ⟨d, hd, h5, h6⟩ := h2
  by_cases e : c < d
  · exact ⟨c, hc, fun x hx => (h3 x hx).trans (h5 x (by omega)), by rw [← h5 c e]; exact h4⟩
  · by_cases e2 : d < c
    · exact ⟨d, hd, fun x hx => (h3 x (by omega)).trans (h5 x hx), by rw [h3 d e2]; exact h6⟩
    · have e3 : c = d := by omega
      subst e3
      exact ⟨c, hc, fun x hx => (h3 x hx).trans (h5 x hx), by omega⟩
theorem lx_cong {k k' q q' : Nat → Int} (h : lx k k') (h1 : ∀ c, c < 4 → k c = q c) (h2 : ∀ c, c < 4 → k' c = q' c) : lx q q' := by
  obtain ⟨c, hc, h3, h4⟩ := h
  refine ⟨c, hc, fun d hd => ?_, ?_⟩
  · rw [← h1 d (by omega), ← h2 d (by omega)]; exact h3 d hd
  · rw [← h1 c hc, ← h2 c hc]; exact h4
theorem lx_tri (k k' : Nat → Int) : lx k k' ∨ (∀ c, c < 4 → k c = k' c) ∨ lx k' k := by
  by_cases h : ∀ c, c < 4 → k c = k' c
  · exact Or.inr (Or.inl h)
  · have h1 : ∃ c, c < 4 ∧ k c ≠ k' c := by
      refine Classical.byContradiction (fun h2 => h (fun c hc => ?_))
      exact Classical.byContradiction (fun h3 => h2 ⟨c, hc, h3⟩)
    obtain ⟨c, hc, h2, h3⟩ := fb_first (p := fun c => k c ≠ k' c) h1
    have h4 : ∀ d, d < c → k d = k' d := fun d hd => Classical.byContradiction (fun h5 => h3 d hd h5)
    rcases Int.lt_trichotomy (k c) (k' c) with h5 | h5 | h5
    · exact Or.inl ⟨c, hc, h4, h5⟩
    · exact absurd h5 h2
    · exact Or.inr (Or.inr ⟨c, hc, fun d hd => (h4 d hd).symm, h5⟩)
/-- the groups from one place on to another: those of some rows, from a level on -/
def SEG (bt : Nat → Bool) (V : Nat → Nat → Int) (L : Nat) (P : Nat → Bool) (n0 n1 : Nat) (g : Nat → Nat → Int) : Prop := n0 ≤ n1 ∧ (∀ i, n0 ≤ i → i < n1 → ∃ r l, r < 120 ∧ P r = true ∧ L ≤ l ∧ l ≤ lvm bt ∧ keq (gky bt V l r) (g i) = true ∧ g i 4 = (fb_ct (fun r => P r && keq (gky bt V l r) (g i)) 120 : Nat)) ∧ (∀ r l, r < 120 → P r = true → L ≤ l → l ≤ lvm bt → ∃ i, n0 ≤ i ∧ i < n1 ∧ keq (gky bt V l r) (g i) = true) ∧ (∀ i j, n0 ≤ i → i < j → j < n1 → lx (g i) (g j))
theorem keq_sym {k k' : Nat → Int} (h : keq k k' = true) : keq k' k = true := keq_iff.mpr (fun c hc => (keq_iff.mp h c hc).symm)
theorem keq_tr {k k' k'' : Nat → Int} (h : keq k k' = true) (h2 : keq k' k'' = true) : keq k k'' = true := keq_iff.mpr (fun c hc => (keq_iff.mp h c hc).trans (keq_iff.mp h2 c hc))
theorem keq_cong {k k' q : Nat → Int} (h : keq k k' = true) : keq q k = keq q k' := by
  rw [Bool.eq_iff_iff]
  exact ⟨fun h2 => keq_tr h2 h, fun h2 => keq_tr h2 (keq_sym h)⟩
theorem SEG.cong {bt : Nat → Bool} {V : Nat → Nat → Int} {L : Nat} {P P' : Nat → Bool} {n0 n1 : Nat} {g g' : Nat → Nat → Int} (h : SEG bt V L P n0 n1 g) (hP : ∀ r, r < 120 → P' r = P r) (hg : ∀ i, n0 ≤ i → i < n1 → ∀ k, k < 5 → g' i k = g i k) : SEG bt V L P' n0 n1 g' := by
  obtain ⟨h0, h1, h2, h3⟩ := h
  have hk : ∀ i, n0 ≤ i → i < n1 → keq (g i) (g' i) = true := fun i hi hi2 => keq_iff.mpr (fun c hc => (hg i hi hi2 c (by omega)).symm)
  refine ⟨h0, fun i hi hi2 => ?_, fun r l hr hPr hl hl2 => ?_, fun i j hi hij hj => ?_⟩
  · obtain ⟨r, l, a1, a2, a3, a4, a5, a6⟩ := h1 i hi hi2
    refine ⟨r, l, a1, by rw [hP r a1]; exact a2, a3, a4, keq_tr a5 (hk i hi hi2), ?_⟩
    rw [hg i hi hi2 4 (by omega), a6]
    exact congrArg (fun (n : Nat) => (n : Int)) (fb_ct_cong (fun r hr => by rw [hP r hr, keq_cong (hk i hi hi2)]))
  · obtain ⟨i, b1, b2, b3⟩ := h2 r l hr (by rw [← hP r hr]; exact hPr) hl hl2
    exact ⟨i, b1, b2, keq_tr b3 (hk i b1 b2)⟩
  · exact lx_cong (h3 i j hi hij hj) (fun c hc => (hg i hi (by omega) c (by omega)).symm) (fun c hc => (hg j (by omega) hj c (by omega)).symm)
theorem lv_le {bt : Nat → Bool} {l c : Nat} (hc : c < 4) (hb : bt c = true) : fb_ct bt c < lvm bt := by
  unfold lvm
  have h1 := fb_ct_mono bt (show c + 1 ≤ 4 by omega)
  rw [fb_ct_succ, hb, if_pos rfl] at h1
  omega
/-- the levels of one key are one -/
theorem lv_one {bt : Nat → Bool} {V V' : Nat → Nat → Int} {l l' r r' : Nat} (hV : ∀ r c, V r c ≤ 100) (hV' : ∀ r c, V' r c ≤ 100) (hl : l ≤ lvm bt) (hl' : l' ≤ lvm bt) (h : keq (gky bt V l r) (gky bt V' l' r') = true) : l = l' := by
  have h1 := keq_iff.mp h
  have h2 : ∀ c, c < 4 → lv bt l c = lv bt l' c := fun c hc => by
    have := h1 c hc
    have b1 := hV r c
    have b2 := hV' r' c
    unfold gky at this
    cases e1 : lv bt l c <;> cases e2 : lv bt l' c
    · rfl
    · rw [e1, e2, if_neg (by decide), if_pos rfl] at this; omega
    · rw [e1, e2, if_pos rfl, if_neg (by decide)] at this; omega
    · rfl
  have h3 : ∀ l l' : Nat, l < l' → l' ≤ lvm bt → ∃ c, c < 4 ∧ lv bt l c ≠ lv bt l' c := fun l l' hlt hle => by
    obtain ⟨c, hc, hb, hct⟩ := fb_ct_kth (p := bt) (k := l) (n := 4) (by unfold lvm at hle; omega)
    refine ⟨c, hc, ?_⟩
    unfold lv
    rw [hb, hct, decide_eq_false (by omega), decide_eq_true hlt]
    decide
  rcases Nat.lt_trichotomy l l' with e | e | e
  · obtain ⟨c, hc, hne⟩ := h3 l l' e hl'
    exact absurd (h2 c hc) hne
  · exact e
  · obtain ⟨c, hc, hne⟩ := h3 l' l e hl
    exact absurd (h2 c hc).symm hne
/-- the groups are one -/
theorem SEG.one {bt : Nat → Bool} {V : Nat → Nat → Int} {P : Nat → Bool} {n n' : Nat} {g g' : Nat → Nat → Int} (hV : ∀ r c, V r c ≤ 100) (h : SEG bt V 0 P 0 n g) (h' : SEG bt V 0 P 0 n' g') : n = n' ∧ ∀ i, i < n → ∀ k, k < 5 → g i k = g' i k := by
  have key : ∀ (n n' : Nat) (g g' : Nat → Nat → Int), SEG bt V 0 P 0 n g → SEG bt V 0 P 0 n' g' → ∀ i, i < n → ∃ j, j < n' ∧ keq (g i) (g' j) = true := fun n n' g g' h h' i hi => by
    obtain ⟨r, l, a1, a2, a3, a4, a5, -⟩ := h.2.1 i (by omega) hi
    obtain ⟨j, -, b2, b3⟩ := h'.2.2.1 r l a1 a2 a3 a4
    exact ⟨j, b2, keq_tr (keq_sym a5) b3⟩
  have st : ∀ (n n' : Nat) (g g' : Nat → Nat → Int), SEG bt V 0 P 0 n g → SEG bt V 0 P 0 n' g' → ∀ i, (∀ k, k < i → k < n → k < n' ∧ keq (g k) (g' k) = true) → (∀ k, k < i → k < n' → k < n) → i < n → i < n' ∧ ¬ lx (g' i) (g i) := fun n n' g g' h h' i ih ih2 hi => by
    obtain ⟨j, hj, hk⟩ := key n n' g g' h h' i hi
    have hji : ¬ j < i := fun hlt => by
      have h1 := (ih j hlt (by omega)).2
      exact lx_irr (h.2.2.2 j i (by omega) hlt hi) (keq_iff.mp (keq_tr h1 (keq_sym hk)))
    refine ⟨by omega, fun hl => ?_⟩
    obtain ⟨m, hm, hkm⟩ := key n' n g' g h' h i (by omega)
    by_cases e1 : m < i
    · have h1 := (ih m e1 hm).2
      exact lx_irr (h'.2.2.2 m i (by omega) e1 (by omega)) (keq_iff.mp (keq_sym (keq_tr hkm h1)))
    · by_cases e2 : m = i
      · subst e2
        exact lx_irr hl (keq_iff.mp hkm)
      · have h1 := h.2.2.2 i m (by omega) (by omega) hm
        exact lx_irr (lx_tr hl h1) (keq_iff.mp hkm)
  have al : ∀ i, (∀ k, k < i → k < n → k < n' ∧ keq (g k) (g' k) = true) ∧ (∀ k, k < i → k < n' → k < n) := by
    intro i
    induction i with
    | zero => exact ⟨fun k hk => absurd hk (by omega), fun k hk => absurd hk (by omega)⟩
    | succ i ih =>
      obtain ⟨i1, i2⟩ := ih
      have i3 : ∀ k, k < i → k < n' → k < n ∧ keq (g' k) (g k) = true := fun k hk hk2 => ⟨i2 k hk hk2, keq_sym (i1 k hk (i2 k hk hk2)).2⟩
      have i4 : ∀ k, k < i → k < n → k < n' := fun k hk hk2 => (i1 k hk hk2).1
      refine ⟨fun k hk hk2 => ?_, fun k hk hk2 => ?_⟩
      · by_cases e : k < i
        · exact i1 k e hk2
        · have e2 : k = i := by omega
          subst e2
          have s1 := st n n' g g' h h' k i1 i2 hk2
          have s2 := st n' n g' g h' h k i3 i4 s1.1
          refine ⟨s1.1, keq_iff.mpr ?_⟩
          rcases lx_tri (g k) (g' k) with h5 | h5 | h5
          · exact absurd h5 s2.2
          · exact h5
          · exact absurd h5 s1.2
      · by_cases e : k < i
        · exact i2 k e hk2
        · have e2 : k = i := by omega
          subst e2
          exact (st n' n g' g h' h k i3 i4 hk2).1
  have hn : n = n' := by
    have a1 := (al (n + n' + 1)).1
    have a2 := (al (n + n' + 1)).2
    by_cases e : n < n'
    · have := a2 n (by omega) e
      omega
    · by_cases e2 : n' < n
      · have := (a1 n' (by omega) e2).1
        omega
      · omega
  refine ⟨hn, fun i hi k hk => ?_⟩
  have hq := ((al (i + 1)).1 i (by omega) hi).2
  by_cases e : k < 4
  · exact keq_iff.mp hq k e
  · have e4 : k = 4 := by omega
    subst e4
    obtain ⟨r, l, a1, a2, a3, a4, a5, a6⟩ := h.2.1 i (by omega) hi
    obtain ⟨r', l', b1, b2, b3, b4, b5, b6⟩ := h'.2.1 i (by omega) (by omega)
    have hl : l = l' := lv_one hV hV a4 b4 (keq_tr a5 (keq_tr hq (keq_sym b5)))
    subst hl
    rw [a6, b6]
    exact congrArg (fun (n : Nat) => (n : Int)) (fb_ct_cong (fun r _ => by rw [keq_cong hq]))
theorem SEG.nil {bt : Nat → Bool} {V : Nat → Nat → Int} {L : Nat} {P : Nat → Bool} {n : Nat} {g : Nat → Nat → Int} (hP : ∀ r, r < 120 → P r = false) : SEG bt V L P n n g := by
  refine ⟨Nat.le_refl n, fun i h1 h2 => absurd h1 (by omega), fun r l hr hp => ?_, fun i j h1 h2 h3 => absurd h1 (by omega)⟩
  rw [hP r hr] at hp
  cases hp
