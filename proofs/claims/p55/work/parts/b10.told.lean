/-! SUM, K-TH LEAST VALUES, ORDER, MIDDLE: the pure part -/
/-- in the filter, with a value -/
abbrev Tt (a : PS) (f c : Nat) : Nat → Bool := fun r => pF a f r && isv (pV a r c)
theorem ct_ins {p : Nat → Bool} {b : Bool} {t : Nat} : ∀ d, fb_ct (fun i => if i < t then p i else if i = t then b else p (i - 1)) (t + d + 1) = fb_ct p (t + d) + (if b = true then 1 else 0) := by
  intro d
  induction d with
  | zero =>
    have h1 : fb_ct (fun i => if i < t then p i else if i = t then b else p (i - 1)) (t + 0 + 1) = fb_ct (fun i => if i < t then p i else if i = t then b else p (i - 1)) t + (if (if t < t then p t else if t = t then b else p (t - 1)) = true then 1 else 0) := fb_ct_succ _ t
    have h3 : (if t < t then p t else if t = t then b else p (t - 1)) = b := by rw [if_neg (Nat.lt_irrefl t), if_pos rfl]
    rw [h1, h3, Nat.add_zero]
    congr 1
    exact fb_ct_cong (fun k hk => if_pos hk)
  | succ d ih =>
    have h1 := fb_ct_succ (fun i => if i < t then p i else if i = t then b else p (i - 1)) (t + d + 1)
    have h2 := fb_ct_succ p (t + d)
    have h3 : (if t + d + 1 < t then p (t + d + 1) else if t + d + 1 = t then b else p (t + d + 1 - 1)) = p (t + d) := by
      rw [if_neg (by omega), if_neg (by omega)]
      rfl
    have h1 : fb_ct (fun i => if i < t then p i else if i = t then b else p (i - 1)) (t + (d + 1) + 1) = fb_ct (fun i => if i < t then p i else if i = t then b else p (i - 1)) (t + d + 1) + (if (if t + d + 1 < t then p (t + d + 1) else if t + d + 1 = t then b else p (t + d + 1 - 1)) = true then 1 else 0) := h1
    have h2 : fb_ct p (t + (d + 1)) = fb_ct p (t + d) + (if p (t + d) = true then 1 else 0) := h2
    rw [h1, h2, h3, ih]
    omega
/-- the first m numbers, in order, are the values of the rows below j -/
def SR (a : PS) (f c j m : Nat) (s : Nat → Int) : Prop := m = fb_ct (Tt a f c) j ∧ (∀ i k, i < k → k < m → s i ≤ s k) ∧ (∀ k, k < m → -64 ≤ s k ∧ s k ≤ 63) ∧ ∀ x, fb_ct (fun i => decide (s i ≤ x)) m = fb_ct (fun r => Tt a f c r && decide (pV a r c ≤ x)) j
theorem SR.zero {a : PS} {f c : Nat} {s : Nat → Int} : SR a f c 0 0 s := ⟨rfl, fun _ _ _ h => absurd h (Nat.not_lt_zero _), fun _ h => absurd h (Nat.not_lt_zero _), fun _ => rfl⟩
theorem SR.skip {a : PS} {f c j m : Nat} {s : Nat → Int} (h : SR a f c j m s) (hj : Tt a f c j = false) : SR a f c (j + 1) m s := by
  obtain ⟨h1, h2, h3, h4⟩ := h
  refine ⟨?_, h2, h3, fun x => ?_⟩
  · rw [fb_ct_succ, hj]; exact h1
  · have e := fb_ct_succ (fun r => Tt a f c r && decide (pV a r c ≤ x)) j
    have hj2 : (Tt a f c j && decide (pV a j c ≤ x)) = false := by rw [hj, Bool.false_and]
    have e : fb_ct (fun r => Tt a f c r && decide (pV a r c ≤ x)) (j + 1) = fb_ct (fun r => Tt a f c r && decide (pV a r c ≤ x)) j + (if (Tt a f c j && decide (pV a j c ≤ x)) = true then 1 else 0) := e
    rw [e, hj2, h4 x]
    rfl
theorem SR.ins {a : PS} {f c j m t : Nat} {s : Nat → Int} (h : SR a f c j m s) (hj : Tt a f c j = true) (ht : t ≤ m) (h5 : ∀ k, k < t → s k ≤ pV a j c) (h6 : ∀ k, t ≤ k → k < m → pV a j c < s k) : SR a f c (j + 1) (m + 1) (fun k => if k < t then s k else if k = t then pV a j c else s (k - 1)) := by
  obtain ⟨h1, h2, h3, h4⟩ := h
  have hv := isv_iff.mp (Bool.and_eq_true_iff.mp hj).2
  refine ⟨?_, fun i k hik hk => ?_, fun k hk => ?_, fun x => ?_⟩
  · rw [fb_ct_succ, hj, ← h1]; rfl
  · show (if i < t then s i else if i = t then pV a j c else s (i - 1)) ≤ (if k < t then s k else if k = t then pV a j c else s (k - 1))
    by_cases a1 : i < t
    · rw [if_pos a1]
      by_cases b1 : k < t
      · rw [if_pos b1]; exact h2 i k hik (by omega)
      · rw [if_neg b1]
        by_cases b2 : k = t
        · rw [if_pos b2]; exact h5 i a1
        · rw [if_neg b2]
          have g1 := h5 i a1
          have g2 := h6 (k - 1) (by omega) (by omega)
          omega
    · rw [if_neg a1, if_neg (show ¬ k < t by omega), if_neg (show ¬ k = t by omega)]
      by_cases a2 : i = t
      · rw [if_pos a2]
        have g2 := h6 (k - 1) (by omega) (by omega)
        omega
      · rw [if_neg a2]; exact h2 (i - 1) (k - 1) (by omega) (by omega)
  · show -64 ≤ (if k < t then s k else if k = t then pV a j c else s (k - 1)) ∧ (if k < t then s k else if k = t then pV a j c else s (k - 1)) ≤ 63
    by_cases a1 : k < t
    · rw [if_pos a1]; exact h3 k (by omega)
    · rw [if_neg a1]
      by_cases a2 : k = t
      · rw [if_pos a2]; exact hv
      · rw [if_neg a2]; exact h3 (k - 1) (by omega)
  · have e := fb_ct_succ (fun r => Tt a f c r && decide (pV a r c ≤ x)) j
    have hj2 : (Tt a f c j && decide (pV a j c ≤ x)) = decide (pV a j c ≤ x) := by rw [hj, Bool.true_and]
    have e : fb_ct (fun r => Tt a f c r && decide (pV a r c ≤ x)) (j + 1) = fb_ct (fun r => Tt a f c r && decide (pV a r c ≤ x)) j + (if (Tt a f c j && decide (pV a j c ≤ x)) = true then 1 else 0) := e
    rw [e, hj2, ← h4 x]
    have g := ct_ins (p := fun i => decide (s i ≤ x)) (b := decide (pV a j c ≤ x)) (t := t) (m - t)
    rw [show t + (m - t) = m by omega] at g
    rw [← g]
    refine fb_ct_cong (fun k _ => ?_)
    show decide ((if k < t then s k else if k = t then pV a j c else s (k - 1)) ≤ x) = (if k < t then decide (s k ≤ x) else if k = t then decide (pV a j c ≤ x) else decide (s (k - 1) ≤ x))
    split
    · rfl
    · split <;> rfl
theorem SR.kl {a : PS} {f c m k : Nat} {s : Nat → Int} (h : SR a f c 120 m s) (hk : k < m) : KL (fun r => pV a r c) (Tt a f c) (k : Int) (s k) := by
  obtain ⟨h1, h2, h3, h4⟩ := h
  refine ⟨isv_iff.mpr (h3 k hk), ?_, ?_⟩
  · have e : fb_ct (fun r => Tt a f c r && decide (pV a r c < s k)) 120 = fb_ct (fun r => Tt a f c r && decide (pV a r c ≤ s k - 1)) 120 := fb_ct_cong (fun r _ => by
      congr 1
      rw [Bool.eq_iff_iff, decide_eq_true_iff, decide_eq_true_iff]
      omega)
    show ((fb_ct (fun r => Tt a f c r && decide (pV a r c < s k)) 120 : Nat) : Int) ≤ k
    rw [e, ← h4]
    have g := fb_ct_split (fun i => decide (s i ≤ s k - 1)) k (m - k)
    rw [show k + (m - k) = m by omega, (fb_ct_zero (p := fun d => decide (s (k + d) ≤ s k - 1)) (n := m - k)).mpr (fun d hd => decide_eq_false (by
      by_cases e : d = 0
      · rw [e]
        show ¬ s k ≤ s k - 1
        omega
      · have := h2 k (k + d) (by omega) (by omega)
        omega))] at g
    have := fb_ct_le (fun i => decide (s i ≤ s k - 1)) k
    omega
  · show (k : Int) < ((fb_ct (fun r => Tt a f c r && decide (pV a r c ≤ s k)) 120 : Nat) : Int)
    rw [← h4]
    have g := fb_ct_mono (fun i => decide (s i ≤ s k)) (show k + 1 ≤ m by omega)
    have g2 : fb_ct (fun i => decide (s i ≤ s k)) (k + 1) = k + 1 := fb_ct_all.mpr (fun i hi => decide_eq_true (by
      by_cases e : i = k
      · rw [e]; exact Int.le_refl _
      · exact h2 i k (by omega) hk))
    omega
/-- the unlike values of the rows below j -/
def seen (a : PS) (f c j k : Nat) : Bool := decide (0 < fb_ct (fun r => Tt a f c r && decide (pV a r c = -64 + (k : Int))) j)
def nU (a : PS) (f c j : Nat) : Nat := fb_ct (seen a f c j) 128
def nw (a : PS) (f c r : Nat) (v : Int) (j : Nat) : Bool := decide (fb_ct (fun k => Tt a f c k && (decide (pV a k c = v) && decide (k < r))) j = 0)
theorem seen_s {a : PS} {f c j : Nat} (k : Nat) : seen a f c (j + 1) k = (seen a f c j k || (Tt a f c j && decide (pV a j c = -64 + (k : Int)))) := by
  unfold seen
  have e := fb_ct_succ (fun r => Tt a f c r && decide (pV a r c = -64 + (k : Int))) j
  have e : fb_ct (fun r => Tt a f c r && decide (pV a r c = -64 + (k : Int))) (j + 1) = fb_ct (fun r => Tt a f c r && decide (pV a r c = -64 + (k : Int))) j + (if (Tt a f c j && decide (pV a j c = -64 + (k : Int))) = true then 1 else 0) := e
  rw [e]
  cases h : (Tt a f c j && decide (pV a j c = -64 + (k : Int)))
  · rw [Bool.or_false]
    rfl
  · rw [Bool.or_true]
    exact decide_eq_true (by rw [if_pos rfl]; omega)
theorem nU_skip {a : PS} {f c j : Nat} (hj : Tt a f c j = false) : nU a f c (j + 1) = nU a f c j := fb_ct_cong (fun k _ => by rw [seen_s, hj, Bool.false_and, Bool.or_false])
theorem nU_s {a : PS} {f c j : Nat} (hj : Tt a f c j = true) (h120 : j < 120) : nU a f c (j + 1) = nU a f c j + (if nw a f c j (pV a j c) 120 = true then 1 else 0) := by
  have hv := isv_iff.mp (Bool.and_eq_true_iff.mp hj).2
  have hk : (pV a j c + 64).toNat < 128 := by omega
  have u := fb_ct_upd (seen a f c j) true hk
  have e : fb_ct (fun k => if k = (pV a j c + 64).toNat then true else seen a f c j k) 128 = nU a f c (j + 1) := fb_ct_cong (fun k _ => by
    rw [seen_s, hj, Bool.true_and]
    by_cases e : k = (pV a j c + 64).toNat
    · rw [if_pos e, decide_eq_true (by omega), Bool.or_true]
    · rw [if_neg e, decide_eq_false (by omega), Bool.or_false])
  rw [e] at u
  have hn : nw a f c j (pV a j c) 120 = !seen a f c j (pV a j c + 64).toNat := by
    unfold nw seen
    have e1 : fb_ct (fun k => Tt a f c k && (decide (pV a k c = pV a j c) && decide (k < j))) 120 = fb_ct (fun r => Tt a f c r && decide (pV a r c = -64 + (((pV a j c + 64).toNat : Nat) : Int))) j := by
      have g := fb_ct_split (fun k => Tt a f c k && (decide (pV a k c = pV a j c) && decide (k < j))) j (120 - j)
      rw [show j + (120 - j) = 120 by omega, (fb_ct_zero (p := fun d => Tt a f c (j + d) && (decide (pV a (j + d) c = pV a j c) && decide (j + d < j))) (n := 120 - j)).mpr (fun d _ => by rw [decide_eq_false (show ¬ j + d < j by omega), Bool.and_false, Bool.and_false]), Nat.add_zero] at g
      rw [g]
      refine fb_ct_cong (fun k hk => ?_)
      rw [decide_eq_true hk, Bool.and_true, show -64 + (((pV a j c + 64).toNat : Nat) : Int) = pV a j c by omega]
    rw [e1, Bool.eq_iff_iff]
    simp only [Bool.not_eq_true', decide_eq_false_iff_not, decide_eq_true_eq]
    omega
  rw [hn]
  unfold nU at u ⊢
  cases h : seen a f c j (pV a j c + 64).toNat
  · rw [h] at u
    simp only [Bool.false_eq_true, if_false, if_true, Bool.not_false, Nat.add_zero] at u ⊢
    exact u
  · rw [h] at u
    simp only [Bool.false_eq_true, if_false, if_true, Bool.not_true] at u ⊢
    omega
theorem nU_all (a : PS) (f c : Nat) : nU a f c 120 = fb_ct (fun k => nvi (fun r => pV a r c) (pF a f) (-64 + (k : Int))) 128 := fb_ct_cong (fun k hk => by
  have hi : isv (-64 + (k : Int)) = true := isv_iff.mpr (by omega)
  unfold seen nvi em
  have e : fb_ct (fun r => Tt a f c r && decide (pV a r c = -64 + (k : Int))) 120 = fb_ct (fun r => (isv (-64 + (k : Int)) && decide (pV a r c = -64 + (k : Int))) && pF a f r) 120 := fb_ct_cong (fun r _ => by
    by_cases h : pV a r c = -64 + (k : Int)
    · show ((pF a f r && isv (pV a r c)) && _) = _
      rw [h, hi, decide_eq_true rfl]
      cases pF a f r <;> rfl
    · rw [decide_eq_false h, Bool.and_false, Bool.and_false, Bool.false_and])
  rw [e, Bool.eq_iff_iff]
  simp only [Bool.not_eq_true', decide_eq_false_iff_not, decide_eq_true_eq]
  omega)
/-- the row at its place of the order -/
theorem top_at {a : PS} {f c r : Nat} (hwf : WF a) (hr : r < 120) (hT : Tt a f c r = true) : TOPR a f c (itsF a f c r (pV a r c) : Nat) (r : Int) := by
  have h1 := (Bool.and_eq_true_iff.mp hT).1
  have h2 := (Bool.and_eq_true_iff.mp hT).2
  have s1 := top_sum hwf f c h2
  have s2 := its_sum (a := a) (f := f) (c := c) (j0 := r) h2 (by omega)
  have s3 := KL_L hwf f c h2
  have s5 := KL_E hwf f c h2
  have hS : (fun k => decide (pV a k c = pV a r c) && pF a f k) r = true := by
    show (decide (pV a r c = pV a r c) && pF a f r) = true
    rw [h1, decide_eq_true rfl]
    rfl
  have s4 := fb_ct_mono (fun k => decide (pV a k c = pV a r c) && pF a f k) (show r + 1 ≤ 120 by omega)
  rw [fb_ct_succ] at s4
  simp only [h1, decide_true, Bool.and_self, if_true] at s4
  refine Or.inr ⟨by omega, by omega, pV a r c, ⟨h2, ?_, ?_⟩, ?_⟩
  · show ((fb_ct (fun q => (pF a f q && isv (pV a q c)) && decide (pV a q c < pV a r c)) 120 : Nat) : Int) ≤ _
    omega
  · show _ < ((fb_ct (fun q => (pF a f q && isv (pV a q c)) && decide (pV a q c ≤ pV a r c)) 120 : Nat) : Int)
    omega
  · exact (kth_eq hr hS (by omega)).symm
def nT (a : PS) (f c j : Nat) : Int := fb_si (fun r => if Tt a f c r = true then pV a r c else 0) j
theorem nT_rg (a : PS) (f c j : Nat) (hj : j ≤ 120) : -7680 ≤ nT a f c j ∧ nT a f c j ≤ 7680 := by
  have h := fb_si_bound (f := fun r => if Tt a f c r = true then pV a r c else 0) (c := 64) (by omega) (n := j) (fun r _ => by
    split
    · rename_i h
      have := isv_iff.mp (Bool.and_eq_true_iff.mp h).2
      omega
    · omega)
  have h2 : ((j * 64 : Nat) : Int) ≤ 7680 := by omega
  unfold nT
  omega
theorem nT_all (a : PS) (f c : Nat) : nT a f c 120 = dsum (fun r => pV a r c) (pF a f) 7 := sum_eq f c
