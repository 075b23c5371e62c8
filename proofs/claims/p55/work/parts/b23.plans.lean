/-! PLANS: pure -/
/-- values by whether they satisfy -/
theorem seg_ct {f : Nat → Bool} {N : Nat} (hN : N < 128) {b1 b2 b3 : Bool} {c : Nat → Bool} (h1 : ∀ j, j < N → c j = b1) (h2 : c N = b2) (h3 : ∀ j, N < j → j < 128 → c j = b3) : fb_ct (fun j => c j && f j) 128 = (if b1 = true then fb_ct f N else 0) + (if b2 = true then fb_ct (fun n => f (N + n)) 1 else 0) + (if b3 = true then fb_ct (fun n => f (N + 1 + n)) (127 - N) else 0) := by
  have e1 := fb_ct_split (fun j => c j && f j) N (1 + (127 - N))
  rw [show N + (1 + (127 - N)) = 128 by omega, fb_ct_split (fun k => (c (N + k) && f (N + k))) 1 (127 - N)] at e1
  rw [e1]
  have a1 : fb_ct (fun j => c j && f j) N = if b1 = true then fb_ct f N else 0 := by
    cases b1
    · rw [if_neg Bool.false_ne_true]
      exact fb_ct_zero.mpr (fun k hk => by rw [h1 k hk, Bool.false_and])
    · rw [if_pos rfl]
      exact fb_ct_cong (fun k hk => by rw [h1 k hk, Bool.true_and])
  have a2 : fb_ct (fun k => c (N + k) && f (N + k)) 1 = if b2 = true then fb_ct (fun n => f (N + n)) 1 else 0 := by
    cases b2
    · rw [if_neg Bool.false_ne_true]
      exact fb_ct_zero.mpr (fun k hk => by rw [show N + k = N by omega, h2, Bool.false_and])
    · rw [if_pos rfl]
      exact fb_ct_cong (fun k hk => by rw [show N + k = N by omega, h2, Bool.true_and])
  have a3 : fb_ct (fun k => c (N + (1 + k)) && f (N + (1 + k))) (127 - N) = if b3 = true then fb_ct (fun n => f (N + 1 + n)) (127 - N) else 0 := by
    cases b3
    · rw [if_neg Bool.false_ne_true]
      exact fb_ct_zero.mpr (fun k hk => by rw [h3 _ (by omega) (by omega), Bool.false_and])
    · rw [if_pos rfl]
      exact fb_ct_cong (fun k hk => by rw [h3 _ (by omega) (by omega), Bool.true_and, show N + (1 + k) = N + 1 + k by omega])
  rw [a1, a2, a3]
  omega
def vct (V : Nat → Int) (t u : Int) (j : Nat) : Nat := fb_ct (fun j => cmpT t (-64 + (j : Int)) u && nv V (-64 + (j : Int))) j
theorem vct_s (V : Nat → Int) (t u : Int) (j : Nat) : vct V t u (j + 1) = vct V t u j + (if (cmpT t (-64 + (j : Int)) u && nv V (-64 + (j : Int))) = true then 1 else 0) := fb_ct_succ _ j
theorem vct_cost {V : Nat → Int} {t u : Int} (ht : 0 ≤ t ∧ t ≤ 5) (hu : -64 ≤ u ∧ u ≤ 63) : costF V t u 0 = (vct V t u 128 : Nat) := by
  unfold costF
  rw [if_neg (by omega), if_neg (by decide), if_neg (by decide)]
  obtain ⟨N, hN⟩ := Int.eq_ofNat_of_zero_le (show 0 ≤ u + 64 by omega)
  have eu : u = -64 + (N : Int) := by omega
  have e1 : nvs V (-64) (u - 1) = fb_ct (fun j => nv V (-64 + (j : Int))) N := by
    unfold nvs
    rw [show (min (u - 1) 63 + 1 - max (-64) (-64)).toNat = N by omega]
    rfl
  have e2 : nvs V u u = fb_ct (fun n => nv V (-64 + ((N + n : Nat) : Int))) 1 := by
    unfold nvs
    rw [show (min u 63 + 1 - max u (-64)).toNat = 1 by omega]
    exact fb_ct_cong (fun k _ => by rw [show max u (-64) + (k : Int) = -64 + ((N + k : Nat) : Int) by omega])
  have e3 : nvs V (u + 1) 63 = fb_ct (fun n => nv V (-64 + ((N + 1 + n : Nat) : Int))) (127 - N) := by
    unfold nvs
    rw [show (min 63 63 + 1 - max (u + 1) (-64)).toNat = 127 - N by omega]
    exact fb_ct_cong (fun k _ => by rw [show max (u + 1) (-64) + (k : Int) = -64 + ((N + 1 + k : Nat) : Int) by omega])
  rw [e1, e2, e3]
  have key : ∀ b1 b2 b3 : Bool, (∀ j : Nat, j < N → cmpT t (-64 + (j : Int)) u = b1) → cmpT t (-64 + (N : Int)) u = b2 → (∀ j : Nat, N < j → j < 128 → cmpT t (-64 + (j : Int)) u = b3) → vct V t u 128 = (if b1 = true then fb_ct (fun j => nv V (-64 + (j : Int))) N else 0) + (if b2 = true then fb_ct (fun n => nv V (-64 + ((N + n : Nat) : Int))) 1 else 0) + (if b3 = true then fb_ct (fun n => nv V (-64 + ((N + 1 + n : Nat) : Int))) (127 - N) else 0) := fun b1 b2 b3 h1 h2 h3 => seg_ct (f := fun j => nv V (-64 + (j : Int))) (by omega) (c := fun j => cmpT t (-64 + (j : Int)) u) h1 h2 h3
  generalize fb_ct (fun j => nv V (-64 + (j : Int))) N = le at key ⊢
  generalize fb_ct (fun n => nv V (-64 + ((N + n : Nat) : Int))) 1 = sa at key ⊢
  generalize fb_ct (fun n => nv V (-64 + ((N + 1 + n : Nat) : Int))) (127 - N) = gr at key ⊢
  have h6 : t = 0 ∨ t = 1 ∨ t = 2 ∨ t = 3 ∨ t = 4 ∨ t = 5 := by omega
  rcases h6 with h | h | h | h | h | h
  · subst h
    rw [key true false false (fun j hj => decide_eq_true (by omega)) (decide_eq_false (by omega)) (fun j h1 h2 => decide_eq_false (by omega))]
    simp [costV]
  · subst h
    rw [key true true false (fun j hj => decide_eq_true (by omega)) (decide_eq_true (by omega)) (fun j h1 h2 => decide_eq_false (by omega))]
    simp [costV]
  · subst h
    rw [key false true false (fun j hj => decide_eq_false (by omega)) (decide_eq_true (by omega)) (fun j h1 h2 => decide_eq_false (by omega))]
    simp [costV]
  · subst h
    rw [key false true true (fun j hj => decide_eq_false (by omega)) (decide_eq_true (by omega)) (fun j h1 h2 => decide_eq_true (by omega))]
    simp [costV]
  · subst h
    rw [key false false true (fun j hj => decide_eq_false (by omega)) (decide_eq_false (by omega)) (fun j h1 h2 => decide_eq_true (by omega))]
    simp [costV]
  · subst h
    rw [key true false true (fun j hj => decide_eq_true (by omega)) (decide_eq_false (by omega)) (fun j h1 h2 => decide_eq_true (by omega))]
    simp [costV]
theorem cost_67 {V : Nat → Int} {t u w : Int} (h : t = 6 ∨ t = 7) : costF V t u w = 1 := if_pos h
theorem best_le (V : Nat → Int) (t u p : Int) (hp : 0 ≤ p ∧ p ≤ 2) : costF V t u (bestF V t u) ≤ costF V t u p ∧ (costF V t u p = costF V t u (bestF V t u) → bestF V t u ≤ p) := by
  have h3 : p = 0 ∨ p = 1 ∨ p = 2 := by omega
  unfold bestF
  generalize e0 : costF V t u 0 = x0
  generalize e1 : costF V t u 1 = x1
  generalize e2 : costF V t u 2 = x2
  by_cases c1 : x1 < x0
  · rw [if_pos c1]
    by_cases c2 : x2 < x1
    · rw [if_pos c2, e2]
      rcases h3 with h | h | h <;> subst h
      · rw [e0]; omega
      · rw [e1]; omega
      · rw [e2]; omega
    · rw [if_neg c2, e1]
      rcases h3 with h | h | h <;> subst h
      · rw [e0]; omega
      · rw [e1]; omega
      · rw [e2]; omega
  · rw [if_neg c1]
    by_cases c2 : x2 < x0
    · rw [if_pos c2, e2]
      rcases h3 with h | h | h <;> subst h
      · rw [e0]; omega
      · rw [e1]; omega
      · rw [e2]; omega
    · rw [if_neg c2, e0]
      rcases h3 with h | h | h <;> subst h
      · rw [e0]; omega
      · rw [e1]; omega
      · rw [e2]; omega
/-- places -/
theorem plc_iff {K : Nat → Nat} {c o : Nat} : plc K c o = true ↔ K o < K c ∨ (K o = K c ∧ o < c) := by
  unfold plc
  simp
theorem plc_lt {K : Nat → Nat} {L x y : Nat} (hx : x < L) (h : plc K y x = true) : fb_ct (plc K x) L < fb_ct (plc K y) L := by
  have h1 := fb_ct_or (p := plc K x) (q := fun o => decide (o = x)) (n := L) (fun k _ h => by
    have e := of_decide_eq_true h.2
    have h2 := plc_iff.mp h.1
    rw [e] at h2
    omega)
  have h2 : 0 < fb_ct (fun o => decide (o = x)) L := fb_ct_pos.mpr ⟨x, hx, decide_eq_true rfl⟩
  have h3 : fb_ct (fun o => plc K x o || decide (o = x)) L ≤ fb_ct (plc K y) L := fb_ct_sub (fun k _ hk => by
    have hy := plc_iff.mp h
    rcases Bool.or_eq_true_iff.mp hk with g | g
    · have g := plc_iff.mp g
      exact plc_iff.mpr (by omega)
    · have g := of_decide_eq_true g
      rw [g]
      exact h)
  omega
theorem plc_ne {K : Nat → Nat} {L x y : Nat} (hx : x < L) (hy : y < L) (h : x ≠ y) : fb_ct (plc K x) L ≠ fb_ct (plc K y) L := by
  have h2 : plc K y x = true ∨ plc K x y = true := by
    rw [plc_iff, plc_iff]
    omega
  rcases h2 with g | g
  · exact Nat.ne_of_lt (plc_lt hx g)
  · exact (Nat.ne_of_lt (plc_lt hy g)).symm
theorem plc_L {K : Nat → Nat} {L x : Nat} (hx : x < L) : fb_ct (plc K x) L < L := by
  have h1 := fb_ct_or (p := plc K x) (q := fun o => decide (o = x)) (n := L) (fun k _ h => by
    have e := of_decide_eq_true h.2
    have h2 := plc_iff.mp h.1
    rw [e] at h2
    omega)
  have h2 : 0 < fb_ct (fun o => decide (o = x)) L := fb_ct_pos.mpr ⟨x, hx, decide_eq_true rfl⟩
  have h3 := fb_ct_le (fun o => plc K x o || decide (o = x)) L
  omega
/-- the places, one bit each -/
def orP (f : Nat → Nat) : Nat → Int32
  | 0 => iv 0
  | i + 1 => orP f i ||| (iv 1 <<< (iv (f i : Nat) &&& 31))
theorem or2 : ∀ a b : Fin 2, a ≠ b → ((iv 0 ||| (iv 1 <<< (iv (a.val : Nat) &&& 31))) ||| (iv 1 <<< (iv (b.val : Nat) &&& 31))) = iv 3 := by decide +kernel
theorem or3 : ∀ a b c : Fin 3, a ≠ b → a ≠ c → b ≠ c → (((iv 0 ||| (iv 1 <<< (iv (a.val : Nat) &&& 31))) ||| (iv 1 <<< (iv (b.val : Nat) &&& 31))) ||| (iv 1 <<< (iv (c.val : Nat) &&& 31))) = iv 7 := by decide +kernel
def ok4 (a b c d : Fin 4) : Bool := (((((decide (a = b) || decide (a = c)) || decide (b = c)) || decide (a = d)) || decide (b = d)) || decide (c = d)) || decide (((((iv 0 ||| (iv 1 <<< (iv (a.val : Nat) &&& 31))) ||| (iv 1 <<< (iv (b.val : Nat) &&& 31))) ||| (iv 1 <<< (iv (c.val : Nat) &&& 31))) ||| (iv 1 <<< (iv (d.val : Nat) &&& 31))) = iv 15)
theorem ok4_all : ∀ a b c d : Fin 4, ok4 a b c d = true := by decide +kernel
theorem or4 (a b c d : Fin 4) (h1 : a ≠ b) (h2 : a ≠ c) (h3 : b ≠ c) (h4 : a ≠ d) (h5 : b ≠ d) (h6 : c ≠ d) : ((((iv 0 ||| (iv 1 <<< (iv (a.val : Nat) &&& 31))) ||| (iv 1 <<< (iv (b.val : Nat) &&& 31))) ||| (iv 1 <<< (iv (c.val : Nat) &&& 31))) ||| (iv 1 <<< (iv (d.val : Nat) &&& 31))) = iv 15 := by
  have h := ok4_all a b c d
  unfold ok4 at h
  rw [decide_eq_false h1, decide_eq_false h2, decide_eq_false h3, decide_eq_false h4, decide_eq_false h5, decide_eq_false h6] at h
  exact of_decide_eq_true h
theorem orP_all {K : Nat → Nat} {L : Nat} (hL : L ≤ 4) : orP (fun i => fb_ct (plc K i) L) L = iv (2 ^ L - 1) := by
  have h5 : L = 0 ∨ L = 1 ∨ L = 2 ∨ L = 3 ∨ L = 4 := by omega
  rcases h5 with h | h | h | h | h <;> subst h
  · rfl
  · have h0 := plc_L (K := K) (L := 1) (x := 0) (by omega)
    have h0 : fb_ct (plc K 0) 1 = 0 := by omega
    show iv 0 ||| (iv 1 <<< (iv (fb_ct (plc K 0) 1 : Nat) &&& 31)) = _
    rw [h0]
    decide +kernel
  · have p : ∀ x, x < 2 → fb_ct (plc K x) 2 < 2 := fun x hx => plc_L hx
    have q : ∀ x y, x < 2 → y < 2 → x ≠ y → fb_ct (plc K x) 2 ≠ fb_ct (plc K y) 2 := fun x y hx hy h => plc_ne hx hy h
    exact or2 ⟨_, p 0 (by omega)⟩ ⟨_, p 1 (by omega)⟩ (Fin.ne_of_val_ne (q 0 1 (by omega) (by omega) (by omega)))
  · have p : ∀ x, x < 3 → fb_ct (plc K x) 3 < 3 := fun x hx => plc_L hx
    have q : ∀ x y, x < 3 → y < 3 → x ≠ y → fb_ct (plc K x) 3 ≠ fb_ct (plc K y) 3 := fun x y hx hy h => plc_ne hx hy h
    exact or3 ⟨_, p 0 (by omega)⟩ ⟨_, p 1 (by omega)⟩ ⟨_, p 2 (by omega)⟩ (Fin.ne_of_val_ne (q 0 1 (by omega) (by omega) (by omega))) (Fin.ne_of_val_ne (q 0 2 (by omega) (by omega) (by omega))) (Fin.ne_of_val_ne (q 1 2 (by omega) (by omega) (by omega)))
  · have p : ∀ x, x < 4 → fb_ct (plc K x) 4 < 4 := fun x hx => plc_L hx
    have q : ∀ x y, x < 4 → y < 4 → x ≠ y → fb_ct (plc K x) 4 ≠ fb_ct (plc K y) 4 := fun x y hx hy h => plc_ne hx hy h
    exact or4 ⟨_, p 0 (by omega)⟩ ⟨_, p 1 (by omega)⟩ ⟨_, p 2 (by omega)⟩ ⟨_, p 3 (by omega)⟩ (Fin.ne_of_val_ne (q 0 1 (by omega) (by omega) (by omega))) (Fin.ne_of_val_ne (q 0 2 (by omega) (by omega) (by omega))) (Fin.ne_of_val_ne (q 1 2 (by omega) (by omega) (by omega))) (Fin.ne_of_val_ne (q 0 3 (by omega) (by omega) (by omega))) (Fin.ne_of_val_ne (q 1 3 (by omega) (by omega) (by omega))) (Fin.ne_of_val_ne (q 2 3 (by omega) (by omega) (by omega)))
