/-! NUMBERS: an int by its value -/
abbrev iv (v : Int) : Int32 := Int32.ofInt v
theorem iv_0 : (0 : Int32) = iv 0 := rfl
theorem iv_1 : (1 : Int32) = iv 1 := rfl
theorem iv_nat (n : Nat) : Int32.ofNat n = iv n := (Int32.ofInt_eq_ofNat).symm
theorem iv_add (a b : Int) : iv a + iv b = iv (a + b) := (Int32.ofInt_add a b).symm
theorem iv_sub (a b : Int) : iv a - iv b = iv (a - b) := (Int32.ofInt_sub a b).symm
theorem iv_mul (a b : Int) : iv a * iv b = iv (a * b) := (Int32.ofInt_mul a b).symm
theorem iv_toInt {a : Int} (h1 : -2147483648 ≤ a) (h2 : a < 2147483648) : (iv a).toInt = a := by
  rw [Int32.toInt_ofInt]
  exact Int.bmod_eq_of_le (by show -(4294967296 / 2 : Int) ≤ a; omega) (by show a < ((4294967296 : Int) + 1) / 2; omega)
theorem iv_of (x : Int32) : ∃ a : Int, -2147483648 ≤ a ∧ a < 2147483648 ∧ x = iv a := ⟨x.toInt, Int32.le_toInt x, Int32.toInt_lt x, (Int32.ofInt_toInt x).symm⟩
theorem iv_lt {a b : Int} (h1 : -2147483648 ≤ a) (h2 : a < 2147483648) (h3 : -2147483648 ≤ b) (h4 : b < 2147483648) : (iv a < iv b) = (a < b) := by
  rw [Int32.lt_iff_toInt_lt, iv_toInt h1 h2, iv_toInt h3 h4]
theorem iv_le {a b : Int} (h1 : -2147483648 ≤ a) (h2 : a < 2147483648) (h3 : -2147483648 ≤ b) (h4 : b < 2147483648) : (iv a ≤ iv b) = (a ≤ b) := by
  rw [Int32.le_iff_toInt_le, iv_toInt h1 h2, iv_toInt h3 h4]
theorem iv_eq {a b : Int} (h1 : -2147483648 ≤ a) (h2 : a < 2147483648) (h3 : -2147483648 ≤ b) (h4 : b < 2147483648) : (iv a = iv b) = (a = b) := by
  rw [← Int32.toInt_inj, iv_toInt h1 h2, iv_toInt h3 h4]
theorem iv_lt0 {a : Int} (h1 : -2147483648 ≤ a) (h2 : a < 2147483648) : (iv a < 0) = (a < 0) := iv_lt (b := 0) h1 h2 (by omega) (by omega)
theorem iv_gt0 {a : Int} (h1 : -2147483648 ≤ a) (h2 : a < 2147483648) : (0 < iv a) = (0 < a) := iv_lt (a := 0) (by omega) (by omega) h1 h2
theorem iv_le0 {a : Int} (h1 : -2147483648 ≤ a) (h2 : a < 2147483648) : (iv a ≤ 0) = (a ≤ 0) := iv_le (b := 0) h1 h2 (by omega) (by omega)
theorem iv_ge0 {a : Int} (h1 : -2147483648 ≤ a) (h2 : a < 2147483648) : (0 ≤ iv a) = (0 ≤ a) := iv_le (a := 0) (by omega) (by omega) h1 h2
theorem iv_eq0 {a : Int} (h1 : -2147483648 ≤ a) (h2 : a < 2147483648) : (iv a = 0) = (a = 0) := iv_eq (b := 0) h1 h2 (by omega) (by omega)
theorem iv_cl {a : Int} (h1 : 0 ≤ a) (h2 : a < 2147483648) : (iv a).toNatClampNeg = a.toNat := by
  show (iv a).toInt.toNat = _
  rw [iv_toInt (by omega) h2]
theorem iv_inb {a : Int} {n : Nat} (h1 : 0 ≤ a) (h2 : a < 2147483648) (h3 : a.toNat < n) : inb (iv a) n := by
  refine ⟨?_, ?_⟩
  · rw [iv_lt0 (by omega) h2]; omega
  · rw [iv_cl h1 h2]; exact h3
/-- a boolean -/
def bv (b : Bool) : Int32 := if b = true then 1 else 0
theorem bv_01 (b : Bool) : (bv b = 0 ∨ bv b = 1) = True := by cases b <;> simp [bv]
theorem bv_eq0 (b : Bool) : (bv b = 0) = (b = false) := by cases b <;> decide
theorem bv_t : bv true = 1 := rfl
theorem bv_f : bv false = 0 := rfl
theorem bv_iv (b : Bool) : bv b = iv (if b = true then 1 else 0) := by cases b <;> rfl
/-- a long by its number -/
theorem lcmp_eq0 (x y : Int64) : (lg_cmp x y = 0) = (x = y) := propext (lg_cmp_eq x y)
