/-! COLUMNS: a column against another -/
theorem tsp_cmp2 {t a b : Int} {K : Bool} (ht : 0 ≤ t ∧ t ≤ 5) : tsp t K (K && decide (a < b)) (K && decide (a = b)) = (K && cmpT t a b) := by
  unfold tsp cmpT
  cases K
  · have h6 : t = 0 ∨ t = 1 ∨ t = 2 ∨ t = 3 ∨ t = 4 ∨ t = 5 := by omega
    rcases h6 with h | h | h | h | h | h <;> subst h <;> rfl
  · have h6 : t = 0 ∨ t = 1 ∨ t = 2 ∨ t = 3 ∨ t = 4 ∨ t = 5 := by omega
    rcases h6 with h | h | h | h | h | h
    all_goals
      subst h
      simp only [↓reduceIte, Int.reduceEq, Bool.true_and, ← decide_not, ← Bool.decide_or, ← Bool.decide_and, decide_eq_decide]
      try omega
