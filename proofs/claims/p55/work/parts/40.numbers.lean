/-! NUMBERS: an int by its value -/
abbrev iv (v : Int) : Int32 := Int32.ofInt v
theorem iv_0 : (0 : Int32) = iv 0 := rfl
theorem iv_1 : (1 : Int32) = iv 1 := rfl
theorem iv_nat (n : Nat) : Int32.ofNat n = iv n := (Int32.ofInt_eq_ofNat).symm
theorem iv_add (a b : Int) : iv a + iv b = iv (a + b) := (Int32.ofInt_add a b).symm
theorem iv_sub (a b : Int) : iv a - iv b = iv (a - b) := (Int32.ofInt_sub a b).symm
theorem iv_mul (a b : Int) : iv a * iv b = iv (a * b) := (Int32.ofInt_mul a b).symm
theorem iv_toInt {a : Int} (h1 : -2147483648 ≤ a) (h2 : a < 2147483648) : (iv a).toInt = a := by
  rw [Int32.toInt_ofInt]
  exact Int.bmod_eq_of_le (by show -(4294967296 / 2 : Int) ≤ a; omega) (by show a < ((4294967296 : Int) + 1) / 2; omega)
theorem iv_of (x : Int32) : ∃ a : Int, -2147483648 ≤ a ∧ a < 2147483648 ∧ x = iv a := ⟨x.toInt, Int32.le_toInt x, Int32.toInt_lt x, (Int32.ofInt_toInt x).symm⟩
theorem iv_lt {a b : Int} (h1 : -2147483648 ≤ a) (h2 : a < 2147483648) (h3 : -2147483648 ≤ b) (h4 : b < 2147483648) : (iv a < iv b) = (a < b) := by
  rw [Int32.lt_iff_toInt_lt, iv_toInt h1 h2, iv_toInt h3 h4]
theorem iv_le {a b : Int} (h1 : -2147483648 ≤ a) (h2 : a < 2147483648) (h3 : -2147483648 ≤ b) (h4 : b < 2147483648) : (iv a ≤ iv b) = (a ≤ b) := by
  rw [Int32.le_iff_toInt_le, iv_toInt h1 h2, iv_toInt h3 h4]
theorem iv_eq {a b : Int} (h1 : -2147483648 ≤ a) (h2 : a < 2147483648) (h3 : -2147483648 ≤ b) (h4 : b < 2147483648) : (iv a = iv b) = (a = b) := by
  rw [← Int32.toInt_inj, iv_toInt h1 h2, iv_toInt h3 h4]
theorem iv_lt0 {a : Int} (h1 : -2147483648 ≤ a) (h2 : a < 2147483648) : (iv a < 0) = (a < 0) := iv_lt (b := 0) h1 h2 (by omega) (by omega)
theorem iv_gt0 {a : Int} (h1 : -2147483648 ≤ a) (h2 : a < 2147483648) : (0 < iv a) = (0 < a) := iv_lt (a := 0) (by omega) (by omega) h1 h2
theorem iv_le0 {a : Int} (h1 : -2147483648 ≤ a) (h2 : a < 2147483648) : (iv a ≤ 0) = (a ≤ 0) := iv_le (b := 0) h1 h2 (by omega) (by omega)
theorem iv_ge0 {a : Int} (h1 : -2147483648 ≤ a) (h2 : a < 2147483648) : (0 ≤ iv a) = (0 ≤ a) := iv_le (a := 0) (by omega) (by omega) h1 h2
theorem iv_eq0 {a : Int} (h1 : -2147483648 ≤ a) (h2 : a < 2147483648) : (iv a = 0) = (a = 0) := iv_eq (b := 0) h1 h2 (by omega) (by omega)
theorem iv_lt_t {a b : Int} (h : (-2147483648 ≤ a ∧ a < 2147483648) ∧ (-2147483648 ≤ b ∧ b < 2147483648) ∧ a < b) : (iv a < iv b) = True := (iv_lt h.1.1 h.1.2 h.2.1.1 h.2.1.2).trans (eq_true h.2.2)
theorem iv_lt_f {a b : Int} (h : (-2147483648 ≤ a ∧ a < 2147483648) ∧ (-2147483648 ≤ b ∧ b < 2147483648) ∧ b ≤ a) : (iv a < iv b) = False := (iv_lt h.1.1 h.1.2 h.2.1.1 h.2.1.2).trans (eq_false (by omega))
theorem iv_le_t {a b : Int} (h : (-2147483648 ≤ a ∧ a < 2147483648) ∧ (-2147483648 ≤ b ∧ b < 2147483648) ∧ a ≤ b) : (iv a ≤ iv b) = True := (iv_le h.1.1 h.1.2 h.2.1.1 h.2.1.2).trans (eq_true h.2.2)
theorem iv_le_f {a b : Int} (h : (-2147483648 ≤ a ∧ a < 2147483648) ∧ (-2147483648 ≤ b ∧ b < 2147483648) ∧ b < a) : (iv a ≤ iv b) = False := (iv_le h.1.1 h.1.2 h.2.1.1 h.2.1.2).trans (eq_false (by omega))
theorem iv_eq_t {a b : Int} (h : a = b) : (iv a = iv b) = True := by rw [h]; exact eq_self _
theorem iv_eq_f {a b : Int} (h : (-2147483648 ≤ a ∧ a < 2147483648) ∧ (-2147483648 ≤ b ∧ b < 2147483648) ∧ (a < b ∨ b < a)) : (iv a = iv b) = False := (iv_eq h.1.1 h.1.2 h.2.1.1 h.2.1.2).trans (eq_false (by omega))
theorem iv_lt0_t {a : Int} (h : -2147483648 ≤ a ∧ a < 0) : (iv a < 0) = True := iv_lt_t (b := 0) (by omega)
theorem iv_lt0_f {a : Int} (h : 0 ≤ a ∧ a < 2147483648) : (iv a < 0) = False := iv_lt_f (b := 0) (by omega)
theorem iv_gt0_t {a : Int} (h : 0 < a ∧ a < 2147483648) : (0 < iv a) = True := iv_lt_t (a := 0) (by omega)
theorem iv_gt0_f {a : Int} (h : -2147483648 ≤ a ∧ a ≤ 0) : (0 < iv a) = False := iv_lt_f (a := 0) (by omega)
theorem iv_le0_t {a : Int} (h : -2147483648 ≤ a ∧ a ≤ 0) : (iv a ≤ 0) = True := iv_le_t (b := 0) (by omega)
theorem iv_le0_f {a : Int} (h : 0 < a ∧ a < 2147483648) : (iv a ≤ 0) = False := iv_le_f (b := 0) (by omega)
theorem iv_ge0_t {a : Int} (h : 0 ≤ a ∧ a < 2147483648) : (0 ≤ iv a) = True := iv_le_t (a := 0) (by omega)
theorem iv_ge0_f {a : Int} (h : -2147483648 ≤ a ∧ a < 0) : (0 ≤ iv a) = False := iv_le_f (a := 0) (by omega)
theorem iv_eq0_t {a : Int} (h : a = 0) : (iv a = 0) = True := iv_eq_t (b := 0) h
theorem iv_eq0_f {a : Int} (h : (-2147483648 ≤ a ∧ a < 0) ∨ (0 < a ∧ a < 2147483648)) : (iv a = 0) = False := iv_eq_f (b := 0) (by omega)
theorem iv_cl {a : Int} (h1 : 0 ≤ a) (h2 : a < 2147483648) : (iv a).toNatClampNeg = a.toNat := by
  show (iv a).toInt.toNat = _
  rw [iv_toInt (by omega) h2]
theorem iv_inb {a : Int} {n : Nat} (h1 : 0 ≤ a) (h2 : a < 2147483648) (h3 : a.toNat < n) : inb (iv a) n := by
  refine ⟨?_, ?_⟩
  · rw [iv_lt0 (by omega) h2]; omega
  · rw [iv_cl h1 h2]; exact h3
/-- a boolean -/
def bv (b : Bool) : Int32 := if b = true then 1 else 0
theorem bv_01 (b : Bool) : (bv b = 0 ∨ bv b = 1) = True := by cases b <;> simp [bv]
theorem bv_eq0 (b : Bool) : (bv b = 0) = (b = false) := by cases b <;> decide
theorem iv_11 : (iv 1 = 1) = True := eq_true rfl
theorem bv_t : bv true = 1 := rfl
theorem bv_f : bv false = 0 := rfl
theorem bv_iv (b : Bool) : bv b = iv (if b = true then 1 else 0) := by cases b <;> rfl
/-- a long by its number -/
theorem lcmp_eq0 (x y : Int64) : (lg_cmp x y = 0) = (x = y) := propext (lg_cmp_eq x y)
theorem iv_max {a b : Int} (h : (-2147483648 ≤ a ∧ a < 2147483648) ∧ (-2147483648 ≤ b ∧ b < 2147483648)) : (if iv a < iv b then iv b else iv a) = iv (max a b) := by
  by_cases c : a < b
  · rw [if_pos (by rw [iv_lt h.1.1 h.1.2 h.2.1 h.2.2]; exact c), Int.max_eq_right (by omega)]
  · rw [if_neg (by rw [iv_lt h.1.1 h.1.2 h.2.1 h.2.2]; exact c), Int.max_eq_left (by omega)]
theorem iv_min {a b : Int} (h : (-2147483648 ≤ a ∧ a < 2147483648) ∧ (-2147483648 ≤ b ∧ b < 2147483648)) : (if iv b < iv a then iv b else iv a) = iv (min a b) := by
  by_cases c : b < a
  · rw [if_pos (by rw [iv_lt h.2.1 h.2.2 h.1.1 h.1.2]; exact c), Int.min_eq_right (by omega)]
  · rw [if_neg (by rw [iv_lt h.2.1 h.2.2 h.1.1 h.1.2]; exact c), Int.min_eq_left (by omega)]
