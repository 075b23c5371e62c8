/-! GROUPS: the pure part -/
theorem ct_swap (A : Nat → Nat → Bool) (m : Nat) : ∀ n, fb_sm (fun i => fb_ct (A i) m) n = fb_sm (fun r => fb_ct (fun i => A i r) n) m := by
  intro n
  induction n with
  | zero =>
    have : ∀ m, fb_sm (fun r => fb_ct (fun i => A i r) 0) m = 0 := by
      intro m
      induction m with
      | zero => rfl
      | succ m ih => rw [fb_sm_succ, ih]; rfl
    rw [this]; rfl
  | succ n ih =>
    rw [fb_sm_succ, ih]
    have h : fb_sm (fun r => fb_ct (fun i => A i r) (n + 1)) m = fb_sm (fun r => fb_ct (fun i => A i r) n + (if A n r = true then 1 else 0)) m := fb_sm_cong (fun r _ => fb_ct_succ _ n)
    rw [h, fb_sm_add]
    congr 1
    have : ∀ m, fb_ct (A n) m = fb_sm (fun r => if A n r = true then 1 else 0) m := by
      intro m
      induction m with
      | zero => rfl
      | succ m ih => rw [fb_ct_succ, fb_sm_succ, ih]
    exact this m
theorem ct_sm (p : Nat → Bool) : ∀ m, fb_ct p m = fb_sm (fun r => if p r = true then 1 else 0) m := by
  intro m
  induction m with
  | zero => rfl
  | succ m ih => rw [fb_ct_succ, fb_sm_succ, ih]
/-- a row is of a group, so far -/
def rIn (g : Nat → Int) (v : Nat → Int) : Nat → Bool
  | 0 => true
  | c + 1 => rIn g v c && (decide (g c = 101) || decide (g c = v c))
theorem rIn_iff {g v : Nat → Int} : ∀ {n : Nat}, rIn g v n = true ↔ ∀ c, c < n → g c = 101 ∨ g c = v c := by
  intro n
  induction n with
  | zero => exact ⟨fun _ c h => absurd h (Nat.not_lt_zero c), fun _ => rfl⟩
  | succ n ih =>
    show (rIn g v n && (decide (g n = 101) || decide (g n = v n))) = true ↔ _
    rw [Bool.and_eq_true, ih, Bool.or_eq_true, decide_eq_true_iff, decide_eq_true_iff]
    constructor
    · intro ⟨h1, h2⟩ c hc
      by_cases e : c = n
      · rw [e]; exact h2
      · exact h1 c (by omega)
    · intro h
      exact ⟨fun c hc => h c (by omega), h n (by omega)⟩
/-- how many columns of a group don't count -/
def nA (g : Nat → Int) (c : Nat) : Nat := fb_ct (fun d => decide (g d = 101)) c
theorem lv_ct (bt : Nat → Bool) (l : Nat) : ∀ n, fb_ct (fun c => lv bt l c) n = min l (fb_ct bt n) := by
  intro n
  induction n with
  | zero => rw [show fb_ct (fun c => lv bt l c) 0 = 0 from rfl, show fb_ct bt 0 = 0 from rfl]; omega
  | succ n ih =>
    have e := fb_ct_succ (fun c => lv bt l c) n
    have e : fb_ct (fun c => lv bt l c) (n + 1) = fb_ct (fun c => lv bt l c) n + (if lv bt l n = true then 1 else 0) := e
    rw [e, fb_ct_succ, ih]
    unfold lv
    cases h : bt n
    · rw [Bool.false_and]
      rfl
    · rw [Bool.true_and, if_pos rfl]
      by_cases h2 : fb_ct bt n < l
      · rw [if_pos (decide_eq_true h2)]; omega
      · rw [if_neg (by rw [decide_eq_false h2]; exact Bool.false_ne_true)]; omega
/-- what is known of one group -/
def GRP (bt : Nat → Bool) (V : Nat → Nat → Int) (P : Nat → Bool) (l : Nat) (g : Nat → Int) : Prop := l ≤ lvm bt ∧ nA g 4 = 4 - l ∧ l ≤ 4 ∧ (∀ c, c < 4 → g c ≠ 101 → bt c = true) ∧ (∀ r, keq (gky bt V l r) g = rIn g (V r) 4) ∧ g 4 = (fb_ct (fun r => P r && rIn g (V r) 4) 120 : Nat) ∧ 0 < fb_ct (fun r => P r && rIn g (V r) 4) 120 ∧ (∀ c, c < 4 → -64 ≤ g c ∧ g c ≤ 101)
theorem SEG.grp {bt : Nat → Bool} {V : Nat → Nat → Int} {P : Nat → Bool} {n : Nat} {g : Nat → Nat → Int} (hV : ∀ r c, -64 ≤ V r c ∧ V r c ≤ 100) (h : SEG bt V 0 P 0 n g) {i : Nat} (hi : i < n) : ∃ l, GRP bt V P l (g i) := by
  obtain ⟨-, h1, -, -⟩ := h
  obtain ⟨r, l, hr, hP, -, hl, hk, h4⟩ := h1 i (Nat.zero_le i) hi
  have hk2 := keq_iff.mp hk
  have hl4 : lvm bt ≤ 4 := fb_ct_le bt 4
  have hg : ∀ c, c < 4 → (lv bt l c = true ∧ g i c = V r c) ∨ (lv bt l c = false ∧ g i c = 101) := fun c hc => by
    have := hk2 c hc
    unfold gky at this
    cases h9 : lv bt l c
    · rw [h9, if_neg Bool.false_ne_true] at this; exact Or.inr ⟨rfl, this.symm⟩
    · rw [h9, if_pos rfl] at this; exact Or.inl ⟨rfl, this.symm⟩
  have hn : nA (g i) 4 = 4 - l := by
    have e1 : nA (g i) 4 = fb_ct (fun c => !lv bt l c) 4 := fb_ct_cong (fun c hc => by
      rcases hg c hc with ⟨a1, a2⟩ | ⟨a1, a2⟩
      · rw [a1, a2, decide_eq_false (by have := hV r c; omega)]; rfl
      · rw [a1, a2, decide_eq_true rfl]; rfl)
    have e2 := fb_ct_not (fun c => lv bt l c) 4
    rw [lv_ct] at e2
    have e3 : min l (fb_ct bt 4) = l := by unfold lvm at hl; omega
    omega
  have hm : ∀ r', keq (gky bt V l r') (g i) = rIn (g i) (V r') 4 := fun r' => by
    rw [Bool.eq_iff_iff, keq_iff, rIn_iff]
    constructor
    · intro h9 c hc
      have := h9 c hc
      unfold gky at this
      rcases hg c hc with ⟨a1, a2⟩ | ⟨a1, a2⟩
      · rw [a1, if_pos rfl] at this; exact Or.inr this.symm
      · exact Or.inl a2
    · intro h9 c hc
      unfold gky
      rcases hg c hc with ⟨a1, a2⟩ | ⟨a1, a2⟩
      · rw [a1, if_pos rfl]
        rcases h9 c hc with h8 | h8
        · have := hV r c; omega
        · exact h8.symm
      · rw [a1, if_neg Bool.false_ne_true, a2]
  have e4 : fb_ct (fun r => P r && keq (gky bt V l r) (g i)) 120 = fb_ct (fun r => P r && rIn (g i) (V r) 4) 120 := fb_ct_cong (fun r' _ => by rw [hm r'])
  refine ⟨l, hl, hn, by omega, fun c hc h9 => ?_, hm, by rw [h4, e4], ?_, fun c hc => ?_⟩
  · rcases hg c hc with ⟨a1, a2⟩ | ⟨a1, a2⟩
    · unfold lv at a1
      exact (Bool.and_eq_true_iff.mp a1).1
    · exact absurd a2 h9
  · exact fb_ct_pos.mpr ⟨r, hr, by rw [hP, ← hm r, hk]; rfl⟩
  · rcases hg c hc with ⟨a1, a2⟩ | ⟨a1, a2⟩
    · have := hV r c; omega
    · omega
/-- the rows of the groups in which k columns don't count -/
def nK (P : Nat → Bool) (V : Nat → Nat → Int) (g : Nat → Nat → Int) (k n : Nat) : Nat := fb_sm (fun i => if nA (g i) 4 = k then fb_ct (fun r => P r && rIn (g i) (V r) 4) 120 else 0) n
theorem nK_s (P : Nat → Bool) (V : Nat → Nat → Int) (g : Nat → Nat → Int) (k n : Nat) : nK P V g k (n + 1) = nK P V g k n + (if nA (g n) 4 = k then fb_ct (fun r => P r && rIn (g n) (V r) 4) 120 else 0) := fb_sm_succ _ n
theorem nK_le (P : Nat → Bool) (V : Nat → Nat → Int) (g : Nat → Nat → Int) (k n : Nat) : nK P V g k n ≤ n * 120 := fb_sm_bound (fun i _ => by
  split
  · exact fb_ct_le _ 120
  · omega)
theorem SEG.few {bt : Nat → Bool} {V : Nat → Nat → Int} {P : Nat → Bool} {n k : Nat} {g : Nat → Nat → Int} (hV : ∀ r c, -64 ≤ V r c ∧ V r c ≤ 100) (h : SEG bt V 0 P 0 n g) (hk : k < 4 - lvm bt) : nK P V g k n = 0 := by
  have h1 : nK P V g k n ≤ n * 0 := fb_sm_bound (fun i hi => by
    obtain ⟨l, a1, a2, a3, -⟩ := h.grp hV hi
    rw [if_neg (by omega)]
    exact Nat.le_refl _)
  omega
theorem SEG.many {bt : Nat → Bool} {V : Nat → Nat → Int} {P : Nat → Bool} {n k : Nat} {g : Nat → Nat → Int} (hV : ∀ r c, -64 ≤ V r c ∧ V r c ≤ 100) (h : SEG bt V 0 P 0 n g) (hk : 4 - lvm bt ≤ k) (hk4 : k ≤ 4) : nK P V g k n = fb_ct P 120 := by
  have hl4 : lvm bt ≤ 4 := fb_ct_le bt 4
  have e1 : nK P V g k n = fb_sm (fun i => fb_ct (fun r => decide (nA (g i) 4 = k) && (P r && rIn (g i) (V r) 4)) 120) n := fb_sm_cong (fun i _ => by
    by_cases e : nA (g i) 4 = k
    · rw [if_pos e]
      exact fb_ct_cong (fun r _ => by rw [decide_eq_true e, Bool.true_and])
    · rw [if_neg e]
      exact (fb_ct_zero.mpr (fun r _ => by rw [decide_eq_false e, Bool.false_and])).symm)
  rw [e1, ct_swap (fun i r => decide (nA (g i) 4 = k) && (P r && rIn (g i) (V r) 4)) 120 n, ct_sm P 120]
  refine fb_sm_cong (fun r hr => ?_)
  cases hP : P r
  · rw [if_neg Bool.false_ne_true]
    exact fb_ct_zero.mpr (fun i _ => by rw [Bool.false_and, Bool.and_false])
  · rw [if_pos rfl]
    obtain ⟨-, -, h2, h3⟩ := id h
    obtain ⟨i, -, hi, hki⟩ := h2 r (4 - k) hr hP (Nat.zero_le _) (by omega)
    have lev : ∀ j, j < n → nA (g j) 4 = k → keq (gky bt V (4 - k) r) (g j) = rIn (g j) (V r) 4 := fun j hj hjk => by
      obtain ⟨l, a1, a2, a3, a4, a5, -⟩ := h.grp hV hj
      have : l = 4 - k := by omega
      rw [← this]
      exact a5 r
    have nAi : nA (g i) 4 = k := by
      have hk2 := keq_iff.mp hki
      have e3 : nA (g i) 4 = fb_ct (fun c => !lv bt (4 - k) c) 4 := fb_ct_cong (fun c hc => by
        have := hk2 c hc
        unfold gky at this
        cases h9 : lv bt (4 - k) c
        · rw [h9, if_neg Bool.false_ne_true] at this
          rw [← this]; rfl
        · rw [h9, if_pos rfl] at this
          rw [← this, decide_eq_false (by have := hV r c; omega)]; rfl)
      have e4 := fb_ct_not (fun c => lv bt (4 - k) c) 4
      rw [lv_ct] at e4
      have e5 : min (4 - k) (fb_ct bt 4) = 4 - k := by unfold lvm at hk; omega
      omega
    have one : ∀ j, j < n → nA (g j) 4 = k → rIn (g j) (V r) 4 = true → j = i := fun j hj hjk hm => by
      rw [← lev j hj hjk] at hm
      have e := keq_tr (keq_sym hm) hki
      have e := keq_iff.mp e
      by_cases h5 : j < i
      · exact (lx_irr (h3 j i (Nat.zero_le j) h5 hi) e).elim
      · by_cases h6 : i < j
        · exact (lx_irr (h3 i j (Nat.zero_le i) h6 hj) (fun c hc => (e c hc).symm)).elim
        · omega
    have e6 : fb_ct (fun j => decide (nA (g j) 4 = k) && (true && rIn (g j) (V r) 4)) n = fb_ct (fun j => decide (j = i)) n := fb_ct_cong (fun j hj => by
      rw [Bool.true_and, Bool.eq_iff_iff, Bool.and_eq_true, decide_eq_true_iff, decide_eq_true_iff]
      constructor
      · intro ⟨a1, a2⟩
        exact one j hj a1 a2
      · intro e
        rw [e]
        exact ⟨nAi, by rw [← lev i hi nAi]; exact hki⟩)
    rw [e6]
    have u := fb_ct_upd (fun _ => false) true hi
    have e7 : fb_ct (fun k => if k = i then true else false) n = fb_ct (fun j => decide (j = i)) n := fb_ct_cong (fun j _ => by
      by_cases e : j = i
      · rw [if_pos e, decide_eq_true e]
      · rw [if_neg e, decide_eq_false e])
    have e8 : fb_ct (fun _ => false) n = 0 := fb_ct_zero.mpr (fun _ _ => rfl)
    rw [e7, e8] at u
    simpa using u
theorem bits4 : ∀ w : Nat, w < 16 → ∀ c : Nat, c < 4 → (iv (w : Int) >>> (iv (c : Int) &&& 31)) &&& iv 1 = iv (bz (dig (w : Int) c)) := by decide +kernel
