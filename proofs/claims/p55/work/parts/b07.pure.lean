/-! PURE LAWS (they stood among the rows of whole's reference): counts, sums, orders, joins, runs -/
def rwF (a : PS) (f c : Nat) (v : Int) : Nat := fb_ct (fun r => pF a f r && decide (pV a r c = v)) 120
theorem KL_uq {val : Nat → Int} {M : Nat → Bool} {k v v' : Int} (h : KL val M k v) (h' : KL val M k v') : v = v' := by
  have key : ∀ v v' : Int, KL val M k v → KL val M k v' → ¬ v < v' := fun v v' h h' hlt => by
    have h1 : fb_ct (fun r => M r && decide (val r ≤ v)) 120 ≤ fb_ct (fun r => M r && decide (val r < v')) 120 := fb_ct_sub (fun r _ hr => by
      simp only [Bool.and_eq_true, decide_eq_true_eq] at hr ⊢
      exact ⟨hr.1, by omega⟩)
    have h2 := h.2.2
    have h3 := h'.2.1
    omega
  have h1 := key v v' h h'
  have h2 := key v' v h' h
  omega
theorem sum_eq {a : PS} (f c : Nat) : fb_si (fun r => if (pF a f r && isv (pV a r c)) = true then pV a r c else 0) 120 = dsum (fun r => pV a r c) (pF a f) 7 := by
  have hv0 : ∀ n : Nat, n < 128 → fb_si (fun d => (if dig (-64 + (n : Int)) d = true then 1 else 0) * wt d) 7 = -64 + (n : Int) := by decide +kernel
  have hv : ∀ v : Int, isv v = true → fb_si (fun d => (if dig v d = true then 1 else 0) * wt d) 7 = v := fun v h => by
    have h1 := isv_iff.mp h
    have h2 := hv0 (v + 64).toNat (by omega)
    rw [show -64 + (((v + 64).toNat : Nat) : Int) = v by omega] at h2
    exact h2
  have key : ∀ n, fb_si (fun r => if (pF a f r && isv (pV a r c)) = true then pV a r c else 0) n = fb_si (fun d => (fb_ct (fun r => (isv (pV a r c) && dig (pV a r c) d) && pF a f r) n : Nat) * wt d) 7 := by
    intro n
    induction n with
    | zero =>
      show (0 : Int) = _
      have : ∀ m, fb_si (fun d => ((fb_ct (fun r => (isv (pV a r c) && dig (pV a r c) d) && pF a f r) 0 : Nat) : Int) * wt d) m = 0 := by
        intro m
        induction m with
        | zero => rfl
        | succ m ih => rw [fb_si_succ, ih]; show 0 + (0 : Int) * wt m = 0; omega
      rw [this]
    | succ n ih =>
      rw [fb_si_succ, ih]
      have h2 : fb_si (fun d => ((fb_ct (fun r => (isv (pV a r c) && dig (pV a r c) d) && pF a f r) (n + 1) : Nat) : Int) * wt d) 7 = fb_si (fun d => ((fb_ct (fun r => (isv (pV a r c) && dig (pV a r c) d) && pF a f r) n : Nat) : Int) * wt d + (if ((isv (pV a n c) && dig (pV a n c) d) && pF a f n) = true then 1 else 0) * wt d) 7 := fb_si_cong (fun d _ => by
        rw [fb_ct_succ]
        split
        · rw [Int.natCast_add, Int.add_mul]; rfl
        · rw [Nat.add_zero, Int.zero_mul, Int.add_zero])
      rw [h2, fb_si_add]
      congr 1
      cases h3 : isv (pV a n c)
      · simp only [Bool.and_false, Bool.false_and, Bool.false_eq_true, if_false, Int.zero_mul]
        rfl
      · cases h4 : pF a f n
        · simp only [Bool.and_false, Bool.false_and, Bool.false_eq_true, if_false, Int.zero_mul]
          rfl
        · simp only [Bool.and_true, Bool.true_and, if_true]
          exact (hv _ h3).symm
  exact key 120
theorem kth_eq {S : Nat → Bool} {r : Nat} {k : Int} (hr : r < 120) (hS : S r = true) (hk : (fb_ct S r : Int) = k) : kth S k = (r : Int) := by
  have h1 := fb_ct_mono S (show r + 1 ≤ 120 by omega)
  rw [fb_ct_succ, hS, if_pos rfl] at h1
  have sp := nth_sp (f := S) (k := k.toNat) (by omega)
  unfold kth
  rw [if_pos ⟨by omega, by omega⟩, fb_ct_kth_one sp.2.1 hS (by omega)]
theorem kth_no {S : Nat → Bool} {k : Int} (h : k < 0 ∨ (fb_ct S 120 : Int) ≤ k) : kth S k = -1 := if_neg (by omega)
theorem ct_union (F G H : Nat → Bool) : ∀ n, (fb_ct F n : Int) + (fb_ct G n : Nat) + (fb_ct H n : Nat) - (fb_ct (fun n => F n && G n) n : Nat) - (fb_ct (fun n => F n && H n) n : Nat) - (fb_ct (fun n => G n && H n) n : Nat) + (fb_ct (fun n => (F n && G n) && H n) n : Nat) = (fb_ct (fun n => (F n || G n) || H n) n : Nat) := by
  intro n
  induction n with
  | zero => rfl
  | succ n ih =>
    simp only [fb_ct_succ]
    cases F n <;> cases G n <;> cases H n <;> simp <;> omega
theorem nvi_rw {a : PS} (hwf : WF a) {f c : Nat} {v : Int} (hv : -64 ≤ v ∧ v ≤ 63) : nvi (fun r => pV a r c) (pF a f) v = decide (0 < rwF a f c v) := by
  unfold nvi em rwF
  rw [isv_iff.mpr hv, fb_ct_cong (q := fun r => pF a f r && decide (pV a r c = v)) (fun r _ => by rw [Bool.true_and, Bool.and_comm])]
  by_cases h : fb_ct (fun r => pF a f r && decide (pV a r c = v)) 120 = 0
  · rw [decide_eq_true h, decide_eq_false (by omega)]
    rfl
  · rw [decide_eq_false h, decide_eq_true (by omega)]
    rfl
theorem nci_rw {a : PS} {f c : Nat} {v : Int} (hv : -64 ≤ v ∧ v ≤ 63) : nci (fun r => pV a r c) (pF a f) v = rwF a f c v := by
  unfold nci rwF
  exact fb_ct_cong (fun r _ => by rw [isv_iff.mpr hv, Bool.true_and, Bool.and_comm])
theorem join_eq {a : PS} (f c g d : Nat) : fb_si (fun r => if (pF a f r && isv (pV a r c)) = true then (rwF a g d (pV a r c) : Int) else 0) 120 = (fb_sm (fun k => nci (fun r => pV a r c) (pF a f) (-64 + (k : Int)) * nci (fun r => pV a r d) (pF a g) (-64 + (k : Int))) 128 : Nat) := by
  have key : ∀ n, fb_si (fun r => if (pF a f r && isv (pV a r c)) = true then (rwF a g d (pV a r c) : Int) else 0) n = (fb_sm (fun k => fb_ct (fun r => (isv (-64 + (k : Int)) && decide (pV a r c = -64 + (k : Int))) && pF a f r) n * nci (fun r => pV a r d) (pF a g) (-64 + (k : Int))) 128 : Nat) := by
    intro n
    induction n with
    | zero =>
      have h0 : fb_sm (fun k => fb_ct (fun r => (isv (-64 + (k : Int)) && decide (pV a r c = -64 + (k : Int))) && pF a f r) 0 * nci (fun r => pV a r d) (pF a g) (-64 + (k : Int))) 128 = fb_sm (fun _ => 0) 128 := fb_sm_cong (fun k _ => by show 0 * _ = 0; exact Nat.zero_mul _)
      rw [h0, fb_sm_const]
      rfl
    | succ n ih =>
      rw [fb_si_succ, ih]
      by_cases h : (pF a f n && isv (pV a n c)) = true
      · rw [if_pos h]
        have h1 := Bool.and_eq_true_iff.mp h
        have h2 := isv_iff.mp h1.2
        have hk0 : (pV a n c + 64).toNat < 128 := by omega
        have hu := fb_sm_upd (fun k => fb_ct (fun r => (isv (-64 + (k : Int)) && decide (pV a r c = -64 + (k : Int))) && pF a f r) n * nci (fun r => pV a r d) (pF a g) (-64 + (k : Int))) (fb_ct (fun r => (isv (-64 + ((pV a n c + 64).toNat : Int)) && decide (pV a r c = -64 + ((pV a n c + 64).toNat : Int))) && pF a f r) n * nci (fun r => pV a r d) (pF a g) (-64 + ((pV a n c + 64).toNat : Int)) + nci (fun r => pV a r d) (pF a g) (-64 + ((pV a n c + 64).toNat : Int))) hk0
        have hc : fb_sm (fun k => fb_ct (fun r => (isv (-64 + (k : Int)) && decide (pV a r c = -64 + (k : Int))) && pF a f r) (n + 1) * nci (fun r => pV a r d) (pF a g) (-64 + (k : Int))) 128 = fb_sm (fun k => if k = (pV a n c + 64).toNat then (fb_ct (fun r => (isv (-64 + ((pV a n c + 64).toNat : Int)) && decide (pV a r c = -64 + ((pV a n c + 64).toNat : Int))) && pF a f r) n * nci (fun r => pV a r d) (pF a g) (-64 + ((pV a n c + 64).toNat : Int)) + nci (fun r => pV a r d) (pF a g) (-64 + ((pV a n c + 64).toNat : Int))) else fb_ct (fun r => (isv (-64 + (k : Int)) && decide (pV a r c = -64 + (k : Int))) && pF a f r) n * nci (fun r => pV a r d) (pF a g) (-64 + (k : Int))) 128 := fb_sm_cong (fun k hk => by
          rw [fb_ct_succ]
          by_cases e : k = (pV a n c + 64).toNat
          · rw [if_pos e, ← e, decide_eq_true (show pV a n c = -64 + (k : Int) by omega), h1.1, isv_iff.mpr (show -64 ≤ -64 + (k : Int) ∧ -64 + (k : Int) ≤ 63 by omega)]
            simp only [Bool.and_self, Bool.true_and, if_true]
            rw [Nat.add_mul, Nat.one_mul]
          · rw [if_neg e, decide_eq_false (show ¬ pV a n c = -64 + (k : Int) by omega), Bool.and_false, Bool.false_and, if_neg (by decide), Nat.add_zero])
        have hr : rwF a g d (pV a n c) = nci (fun r => pV a r d) (pF a g) (-64 + ((pV a n c + 64).toNat : Int)) := by
          rw [show -64 + ((pV a n c + 64).toNat : Int) = pV a n c by omega, nci_rw h2]
        rw [hr, hc]
        omega
      · rw [if_neg h, Int.add_zero]
        refine congrArg (fun (n : Nat) => (n : Int)) (fb_sm_cong (fun k hk => ?_))
        rw [fb_ct_succ]
        have h3 : ((isv (-64 + (k : Int)) && decide (pV a n c = -64 + (k : Int))) && pF a f n) = false := by
          cases h4 : ((isv (-64 + (k : Int)) && decide (pV a n c = -64 + (k : Int))) && pF a f n)
          · rfl
          · simp only [Bool.and_eq_true, decide_eq_true_eq] at h4
            exact absurd (by rw [h4.2, h4.1.2, h4.1.1]; rfl) h
        rw [h3, if_neg (by decide), Nat.add_zero]
  rw [key 120]
  rfl
def itsF (a : PS) (f c : Nat) (j0 : Nat) (v0 : Int) : Nat := fb_ct (fun k => (pF a f k && isv (pV a k c)) && (decide (v0 < pV a k c) || (decide (pV a k c = v0) && decide (k < j0)))) 120
def TOPR (a : PS) (f c : Nat) (k x : Int) : Prop := ((k < 0 ∨ (fb_ct (fun r => pF a f r && isv (pV a r c)) 120 : Nat) ≤ k) ∧ x = -1) ∨ (0 ≤ k ∧ k < (fb_ct (fun r => pF a f r && isv (pV a r c)) 120 : Nat) ∧ ∃ v, KL (fun r => pV a r c) (fun r => pF a f r && isv (pV a r c)) ((fb_ct (fun r => pF a f r && isv (pV a r c)) 120 : Nat) - 1 - k) v ∧ x = kth (fun r => decide (pV a r c = v) && pF a f r) (k - ((fb_ct (fun r => pF a f r && isv (pV a r c)) 120 : Nat) - (fb_ct (fun r => decide (pV a r c < v) && pF a f r) 120 : Nat) - (fb_ct (fun r => decide (pV a r c = v) && pF a f r) 120 : Nat))))
theorem TOPR_uq {a : PS} {f c : Nat} {k x y : Int} (h : TOPR a f c k x) (h' : TOPR a f c k y) : x = y := by
  rcases h with ⟨h1, h2⟩ | ⟨h1, h2, v, h3, h4⟩ <;> rcases h' with ⟨h5, h6⟩ | ⟨h5, h6, w, h7, h8⟩
  · rw [h2, h6]
  · omega
  · omega
  · rw [h4, h8, KL_uq h3 h7]
theorem top_sum {a : PS} (hwf : WF a) (f c : Nat) {v : Int} (hv : isv v = true) : fb_ct (fun r => pF a f r && isv (pV a r c)) 120 = fb_ct (fun r => decide (pV a r c < v) && pF a f r) 120 + (fb_ct (fun r => decide (pV a r c = v) && pF a f r) 120 + fb_ct (fun r => (pF a f r && isv (pV a r c)) && decide (v < pV a r c)) 120) := by
  have hv2 := isv_iff.mp hv
  have key : ∀ n, fb_ct (fun r => pF a f r && isv (pV a r c)) n = fb_ct (fun r => decide (pV a r c < v) && pF a f r) n + (fb_ct (fun r => decide (pV a r c = v) && pF a f r) n + fb_ct (fun r => (pF a f r && isv (pV a r c)) && decide (v < pV a r c)) n) := by
    intro n
    induction n with
    | zero => rfl
    | succ n ih =>
      simp only [fb_ct_succ]
      rw [ih]
      cases h1 : pF a f n
      · simp
      · rcases hwf.2.2.1 n c with h2 | h2
        · rw [h2, decide_eq_false (show ¬ (100 : Int) < v by omega), decide_eq_false (show ¬ (100 : Int) = v by omega), isv_100]
          simp
        · rw [h2]
          have h3 := isv_iff.mp h2
          rcases Int.lt_trichotomy (pV a n c) v with h4 | h4 | h4
          · rw [decide_eq_true h4, decide_eq_false (show ¬ pV a n c = v by omega), decide_eq_false (show ¬ v < pV a n c by omega)]
            simp
            omega
          · rw [decide_eq_false (show ¬ pV a n c < v by omega), decide_eq_true h4, decide_eq_false (show ¬ v < pV a n c by omega)]
            simp
            omega
          · rw [decide_eq_false (show ¬ pV a n c < v by omega), decide_eq_false (show ¬ pV a n c = v by omega), decide_eq_true h4]
            simp
            omega
  exact key 120
theorem its_sum {a : PS} {f c j0 : Nat} {v : Int} (hv : isv v = true) (hj : j0 ≤ 120) : itsF a f c j0 v = fb_ct (fun r => (pF a f r && isv (pV a r c)) && decide (v < pV a r c)) 120 + fb_ct (fun r => decide (pV a r c = v) && pF a f r) j0 := by
  have hv2 := isv_iff.mp hv
  have e : fb_ct (fun r => decide (pV a r c = v) && pF a f r) j0 = fb_ct (fun r => (decide (pV a r c = v) && pF a f r) && decide (r < j0)) 120 := by
    have h1 : fb_ct (fun r => (decide (pV a r c = v) && pF a f r) && decide (r < j0)) 120 = fb_ct (fun r => (decide (pV a r c = v) && pF a f r) && decide (r < j0)) j0 + fb_ct (fun k => (decide (pV a (j0 + k) c = v) && pF a f (j0 + k)) && decide (j0 + k < j0)) (120 - j0) := by
      have h9 := fb_ct_split (fun r => (decide (pV a r c = v) && pF a f r) && decide (r < j0)) j0 (120 - j0)
      rw [show j0 + (120 - j0) = 120 by omega] at h9
      exact h9
    have h2 : fb_ct (fun k => (decide (pV a (j0 + k) c = v) && pF a f (j0 + k)) && decide (j0 + k < j0)) (120 - j0) = 0 := fb_ct_zero.mpr (fun k _ => by
      show ((decide (pV a (j0 + k) c = v) && pF a f (j0 + k)) && decide (j0 + k < j0)) = false
      rw [decide_eq_false (show ¬ j0 + k < j0 by omega), Bool.and_false])
    rw [h1, h2, Nat.add_zero]
    exact fb_ct_cong (fun k hk => by rw [decide_eq_true hk, Bool.and_true])
  rw [e]
  unfold itsF
  refine ct_add (fun r _ => ?_) (fun r _ h => ?_)
  · cases h1 : pF a f r
    · simp
    · by_cases h2 : pV a r c = v
      · rw [h2, hv, decide_eq_false (show ¬ v < v by omega), decide_eq_true (rfl : v = v)]
        simp
      · rw [decide_eq_false h2]
        simp
  · simp only [Bool.and_eq_true, decide_eq_true_eq] at h
    omega
theorem KL_L {a : PS} (hwf : WF a) (f c : Nat) {v : Int} (hv : isv v = true) : fb_ct (fun r => (pF a f r && isv (pV a r c)) && decide (pV a r c < v)) 120 = fb_ct (fun r => decide (pV a r c < v) && pF a f r) 120 := fb_ct_cong (fun r _ => by
  have hv2 := isv_iff.mp hv
  rcases hwf.2.2.1 r c with h2 | h2
  · rw [h2, decide_eq_false (show ¬ (100 : Int) < v by omega), Bool.and_false, Bool.false_and]
  · rw [h2, Bool.and_true, Bool.and_comm])
theorem KL_E {a : PS} (hwf : WF a) (f c : Nat) {v : Int} (hv : isv v = true) : fb_ct (fun r => (pF a f r && isv (pV a r c)) && decide (pV a r c ≤ v)) 120 = fb_ct (fun r => decide (pV a r c < v) && pF a f r) 120 + fb_ct (fun r => decide (pV a r c = v) && pF a f r) 120 := by
  have hv2 := isv_iff.mp hv
  refine ct_add (fun r _ => ?_) (fun r _ h => ?_)
  · rcases hwf.2.2.1 r c with h2 | h2
    · rw [h2, decide_eq_false (show ¬ (100 : Int) < v by omega), decide_eq_false (show ¬ (100 : Int) ≤ v by omega), decide_eq_false (show ¬ (100 : Int) = v by omega), Bool.and_false, Bool.false_and]
      rfl
    · rw [h2, Bool.and_true]
      cases pF a f r
      · simp
      · rw [Bool.true_and, Bool.and_true, Bool.and_true]
        rw [Bool.eq_iff_iff]
        simp only [Bool.or_eq_true, decide_eq_true_eq]
        omega
  · simp only [Bool.and_eq_true, decide_eq_true_eq] at h
    omega
theorem KL_ex {val : Nat → Int} {M : Nat → Bool} {k : Int} (hM : ∀ r, M r = true → isv (val r) = true) (h0 : 0 ≤ k) (h1 : k < (fb_ct M 120 : Nat)) : ∃ v, KL val M k v := by
  obtain ⟨n, hn, h2, h3⟩ := fb_first (p := fun n => k < ((fb_ct (fun r => M r && decide (val r ≤ -64 + (n : Int))) 120 : Nat) : Int)) (n := 128) ⟨127, by omega, by
    show k < ((fb_ct (fun r => M r && decide (val r ≤ -64 + ((127 : Nat) : Int))) 120 : Nat) : Int)
    rw [fb_ct_cong (q := M) (fun r _ => by
      cases h9 : M r
      · rfl
      · have := isv_iff.mp (hM r h9)
        rw [decide_eq_true (by omega)]
        rfl)]
    exact h1⟩
  refine ⟨-64 + (n : Int), isv_iff.mpr (by omega), ?_, h2⟩
  show ((fb_ct (fun r => M r && decide (val r < -64 + (n : Int))) 120 : Nat) : Int) ≤ k
  by_cases e : n = 0
  · subst e
    rw [fb_ct_zero.mpr (fun r _ => by
      cases h9 : M r
      · rfl
      · have := isv_iff.mp (hM r h9)
        rw [decide_eq_false (by omega)]
        rfl)]
    exact h0
  · have h4 := h3 (n - 1) (by omega)
    rw [fb_ct_cong (q := fun r => M r && decide (val r ≤ -64 + ((n - 1 : Nat) : Int))) (fun r _ => by rw [show decide (val r < -64 + (n : Int)) = decide (val r ≤ -64 + ((n - 1 : Nat) : Int)) from decide_eq_decide.mpr (by omega)])]
    omega
theorem run_diff (S : Nat → Bool) : ∀ n, fb_ct (rst S) n = fb_ct (ren S) n + (if 1 ≤ n ∧ S (n - 1) = true ∧ S n = true then 1 else 0) := by
  intro n
  induction n with
  | zero => rfl
  | succ n ih =>
    rw [fb_ct_succ, fb_ct_succ, ih]
    unfold rst ren
    rw [show n + 1 - 1 = n by omega]
    cases h1 : S n
    · simp
    · by_cases h2 : 1 ≤ n ∧ S (n - 1) = true
      · rw [if_pos ⟨h2.1, h2.2, rfl⟩, decide_eq_true h2.1, h2.2]
        cases h3 : S (n + 1) <;> simp
      · rw [if_neg (fun h => h2 ⟨h.1, h.2.1⟩)]
        have h4 : (decide (1 ≤ n) && S (n - 1)) = false := by
          cases h5 : (decide (1 ≤ n) && S (n - 1))
          · rfl
          · rw [Bool.and_eq_true, decide_eq_true_eq] at h5
            exact absurd h5 h2
        rw [h4]
        cases h3 : S (n + 1) <;> simp
theorem run_end {S : Nat → Bool} {k first e : Nat} (hS : ∀ n, 120 ≤ n → S n = false) (h1 : rst S first = true) (h2 : fb_ct (rst S) first = k) (h3 : first ≤ e) (h4 : ∀ x, first ≤ x → x ≤ e → S x = true) (h5 : S (e + 1) = false) (h6 : e < 120) : kth (ren S) k = (e : Int) := by
  have hre : ren S e = true := by
    unfold ren
    rw [h4 e h3 (Nat.le_refl e), h5]
    rfl
  refine kth_eq h6 hre ?_
  have hd := run_diff S e
  by_cases he : e = first
  · subst he
    have h7 : ¬ (1 ≤ e ∧ S (e - 1) = true ∧ S e = true) := fun h => by
      unfold rst at h1
      rw [h.2.2, h.2.1, decide_eq_true h.1] at h1
      cases h1
    rw [if_neg h7, h2] at hd
    omega
  · have h7 : 1 ≤ e ∧ S (e - 1) = true ∧ S e = true := ⟨by omega, h4 (e - 1) (by omega) (by omega), h4 e h3 (Nat.le_refl e)⟩
    rw [if_pos h7] at hd
    have h8 : fb_ct (rst S) e = k + 1 := by
      have h9 := fb_ct_split (rst S) (first + 1) (e - (first + 1))
      rw [show first + 1 + (e - (first + 1)) = e by omega, fb_ct_succ, h1, if_pos rfl, h2] at h9
      have h10 : fb_ct (fun x => rst S (first + 1 + x)) (e - (first + 1)) = 0 := fb_ct_zero.mpr (fun x hx => by
        show rst S (first + 1 + x) = false
        unfold rst
        rw [h4 (first + 1 + x) (by omega) (by omega), decide_eq_true (show 1 ≤ first + 1 + x by omega), h4 (first + 1 + x - 1) (by omega) (by omega)]
        rfl)
      rw [h10] at h9
      exact h9
    omega
