/-! COUNTING BITS: the JDK's count is the number of bits -/
theorem an_split (a b : Nat) : a &&& b = (a % 256 &&& b % 256) + 256 * (a / 256 &&& b / 256) := by
  have h1 : (a &&& b) % 2 ^ 8 = a % 2 ^ 8 &&& b % 2 ^ 8 := Nat.and_mod_two_pow
  have h2 : (a &&& b) / 2 ^ 8 = a / 2 ^ 8 &&& b / 2 ^ 8 := Nat.and_div_two_pow
  have h3 := Nat.mod_add_div (a &&& b) 256
  rw [← h3]
  rw [show (256 : Nat) = 2 ^ 8 from rfl, h1, h2]
def cm (v : Nat) : Nat → Nat
  | 0 => 0
  | n + 1 => v + 256 * cm v n
def c1 (n x : Nat) : Nat := x - (x / 2 &&& cm 85 n)
def c2 (n x : Nat) : Nat := (x &&& cm 51 n) + (x / 4 &&& cm 51 n)
def c3 (n x : Nat) : Nat := (x + x / 16) &&& cm 15 n
def pc8 (b : Nat) : Nat := fb_ct (fun i => b.testBit i) 8
def cR : Nat → Nat → Nat
  | 0, _ => 0
  | n + 1, x => pc8 (x % 256) + 256 * cR n (x / 256)
theorem cm_s (v n : Nat) (hv : v < 256) : cm v (n + 1) % 256 = v ∧ cm v (n + 1) / 256 = cm v n := by
  rw [show cm v (n + 1) = v + 256 * cm v n from rfl]
  constructor <;> omega
theorem t85 : ∀ a, a < 256 → ∀ b, b < 2 → (a / 2 + 128 * b) &&& 85 = a / 2 &&& 85 := by decide +kernel
theorem t85l : ∀ a, a < 256 → (a / 2 &&& 85) ≤ a := by decide +kernel
theorem t51 : ∀ a, a < 256 → ∀ b, b < 4 → (a / 4 + 64 * b) &&& 51 = a / 4 &&& 51 := by decide +kernel
theorem c1_le (n : Nat) : ∀ x, (x / 2 &&& cm 85 n) ≤ x := by
  intro x
  exact Nat.le_trans Nat.and_le_left (Nat.div_le_self x 2)
theorem c1_s (n x : Nat) : c1 (n + 1) x = c1 1 (x % 256) + 256 * c1 n (x / 256) := by
  have e : (x / 2 &&& cm 85 (n + 1)) = (x % 256 / 2 &&& 85) + 256 * (x / 256 / 2 &&& cm 85 n) := by
    rw [an_split, (cm_s 85 n (by omega)).1, (cm_s 85 n (by omega)).2]
    rw [show x / 2 % 256 = x % 256 / 2 + 128 * (x / 256 % 2) by omega, show x / 2 / 256 = x / 256 / 2 by omega, t85 _ (by omega) _ (by omega)]
  have h1 := t85l (x % 256) (by omega)
  have h2 := c1_le n (x / 256)
  unfold c1
  rw [e, show cm 85 1 = 85 from rfl]
  omega
theorem c2_s (n x : Nat) : c2 (n + 1) x = c2 1 (x % 256) + 256 * c2 n (x / 256) := by
  have e1 : (x &&& cm 51 (n + 1)) = (x % 256 &&& 51) + 256 * (x / 256 &&& cm 51 n) := by
    rw [an_split, (cm_s 51 n (by omega)).1, (cm_s 51 n (by omega)).2]
  have e2 : (x / 4 &&& cm 51 (n + 1)) = (x % 256 / 4 &&& 51) + 256 * (x / 256 / 4 &&& cm 51 n) := by
    rw [an_split, (cm_s 51 n (by omega)).1, (cm_s 51 n (by omega)).2]
    rw [show x / 4 % 256 = x % 256 / 4 + 64 * (x / 256 % 4) by omega, show x / 4 / 256 = x / 256 / 4 by omega, t51 _ (by omega) _ (by omega)]
  unfold c2
  rw [e1, e2, show cm 51 1 = 51 from rfl]
  omega
theorem tb1 : ∀ a, a < 256 → c1 1 a < 256 := by decide +kernel
theorem tb2 : ∀ a, a < 256 → c2 1 (c1 1 a) ≤ 68 ∧ c2 1 (c1 1 a) % 16 ≤ 4 := by decide +kernel
theorem tb3 : ∀ a, a < 256 → (c2 1 (c1 1 a) + c2 1 (c1 1 a) / 16) &&& 15 = pc8 a := by decide +kernel
theorem tb15 : ∀ a, a < 256 → ∀ b, b < 5 → (a + 16 * b < 256 → (a + 16 * b) &&& 15 = a &&& 15) := by decide +kernel
theorem c12_s (n x : Nat) : c2 (n + 1) (c1 (n + 1) x) = c2 1 (c1 1 (x % 256)) + 256 * c2 n (c1 n (x / 256)) := by
  have h := tb1 (x % 256) (by omega)
  rw [c2_s, c1_s]
  rw [show (c1 1 (x % 256) + 256 * c1 n (x / 256)) % 256 = c1 1 (x % 256) by omega, show (c1 1 (x % 256) + 256 * c1 n (x / 256)) / 256 = c1 n (x / 256) by omega]
theorem c12_n (n x : Nat) : c2 n (c1 n x) % 16 ≤ 4 := by
  cases n with
  | zero => unfold c2 cm; simp
  | succ n =>
    have h := tb2 (x % 256) (by omega)
    rw [c12_s]
    omega
theorem c_all : ∀ n x, c3 n (c2 n (c1 n x)) = cR n x := by
  intro n
  induction n with
  | zero => intro x; unfold c3 cm cR; simp
  | succ n ih =>
    intro x
    have h := tb2 (x % 256) (by omega)
    have h4 := c12_n n (x / 256)
    rw [c12_s]
    rw [show cR (n + 1) x = pc8 (x % 256) + 256 * cR n (x / 256) from rfl, ← ih (x / 256), ← tb3 (x % 256) (by omega)]
    generalize c2 1 (c1 1 (x % 256)) = u at h
    generalize c2 n (c1 n (x / 256)) = v at h4
    unfold c3
    rw [an_split, (cm_s 15 n (by omega)).1, (cm_s 15 n (by omega)).2]
    rw [show (u + 256 * v + (u + 256 * v) / 16) % 256 = (u + u / 16) + 16 * (v % 16) by omega, show (u + 256 * v + (u + 256 * v) / 16) / 256 = v + v / 16 by omega, tb15 _ (by omega) _ (by omega) (by omega)]
theorem cR_ct : ∀ n x, fb_ct (fun i => x.testBit i) (8 * n) = fb_sm (fun k => pc8 (x / 256 ^ k % 256)) n := by
  intro n
  induction n with
  | zero => intro x; rfl
  | succ n ih =>
    intro x
    rw [show 8 * (n + 1) = 8 * n + 8 by omega, fb_ct_split, fb_sm_succ, ih x]
    congr 1
    refine fb_ct_cong (fun k hk => ?_)
    rw [show (256 : Nat) ^ n = 2 ^ (8 * n) by rw [Nat.pow_mul], show (256 : Nat) = 2 ^ 8 from rfl, Nat.testBit_mod_two_pow, Nat.testBit_div_two_pow]
    simp [hk, Nat.add_comm]
theorem pc8_le (b : Nat) : pc8 b ≤ 8 := fb_ct_le _ 8
def un (x : Int64) : Nat := x.toBitVec.toNat
theorem un_lt (x : Int64) : un x < 18446744073709551616 := x.toBitVec.isLt
theorem un_and (x y : Int64) : un (x &&& y) = un x &&& un y := by unfold un; rw [Int64.toBitVec_and, BitVec.toNat_and]
theorem un_add (x y : Int64) : un (x + y) = (un x + un y) % 18446744073709551616 := by unfold un; rw [Int64.toBitVec_add, BitVec.toNat_add]
theorem un_sub {x y : Int64} (h : un y ≤ un x) : un (x - y) = un x - un y := by
  have h1 := un_lt x
  unfold un at h h1 ⊢
  rw [Int64.toBitVec_sub, BitVec.toNat_sub]
  omega
theorem un_ushr {k : Int} (h0 : 0 ≤ k) (hk : k < 64) (x : Int64) : un ((x.toUInt64 >>> ((iv k).toInt64.toUInt64 &&& Int64.toUInt64 63)).toInt64) = un x / 2 ^ k.toNat := by
  obtain ⟨n, rfl⟩ := Int.eq_ofNat_of_zero_le h0
  have hn : n < 64 := by omega
  rw [show iv (n : Int) = Int32.ofNat n from (iv_nat n).symm]
  show (x.toUInt64 >>> _).toBitVec.toNat = _
  rw [UInt64.toBitVec_shiftRight]
  show (x.toBitVec >>> ((((Int32.ofNat n).toInt64.toUInt64 &&& Int64.toUInt64 63).toBitVec % 64))).toNat = _
  rw [BitVec.ushiftRight_eq', bw_cu n hn, BitVec.toNat_ushiftRight, Nat.shiftRight_eq_div_pow]
  rfl
theorem un_127 (x : Int64) : x.toInt32 &&& iv 127 = iv ((un x % 128 : Nat) : Int) := by
  rw [← iv_nat]
  apply Int32.toBitVec_inj.mp
  apply BitVec.eq_of_toNat_eq
  rw [Int32.toBitVec_and, BitVec.toNat_and, Int64.toBitVec_toInt32, BitVec.signExtend_eq_setWidth_of_le _ (by omega), BitVec.toNat_setWidth]
  show un x % 2 ^ 32 &&& (2 ^ 7 - 1) = (BitVec.ofNat 32 (un x % 128)).toNat
  rw [Nat.and_two_pow_sub_one_eq_mod, BitVec.toNat_ofNat]
  omega
theorem un_bit (x : Int64) (i : Nat) : (un x).testBit i = bw x i := rfl
theorem cnt_ok {x a1 a2 a3 a4 a5 a6 : Int64}
    (h1 : a1 = x - ((x.toUInt64 >>> ((iv 1).toInt64.toUInt64 &&& Int64.toUInt64 63)).toInt64 &&& Int64.ofInt 6148914691236517205))
    (h2 : a2 = (a1 &&& Int64.ofInt 3689348814741910323) + ((a1.toUInt64 >>> ((iv 2).toInt64.toUInt64 &&& Int64.toUInt64 63)).toInt64 &&& Int64.ofInt 3689348814741910323))
    (h3 : a3 = (a2 + (a2.toUInt64 >>> ((iv 4).toInt64.toUInt64 &&& Int64.toUInt64 63)).toInt64) &&& Int64.ofInt 1085102592571150095)
    (h4 : a4 = a3 + (a3.toUInt64 >>> ((iv 8).toInt64.toUInt64 &&& Int64.toUInt64 63)).toInt64)
    (h5 : a5 = a4 + (a4.toUInt64 >>> ((iv 16).toInt64.toUInt64 &&& Int64.toUInt64 63)).toInt64)
    (h6 : a6 = a5 + (a5.toUInt64 >>> ((iv 32).toInt64.toUInt64 &&& Int64.toUInt64 63)).toInt64) :
    a6.toInt32 &&& iv 127 = iv ((fb_ct (bw x) 64 : Nat) : Int) := by
  have u1 : un a1 = c1 8 (un x) := by
    rw [h1]
    have e : un ((x.toUInt64 >>> ((iv 1).toInt64.toUInt64 &&& Int64.toUInt64 63)).toInt64 &&& Int64.ofInt 6148914691236517205) = un x / 2 &&& cm 85 8 := by
      rw [un_and, un_ushr (by omega) (by omega)]
      rfl
    rw [un_sub (by rw [e]; exact c1_le 8 _), e]
    rfl
  have u2 : un a2 = c2 8 (un a1) := by
    rw [h2, un_add, un_and, un_and, un_ushr (by omega) (by omega)]
    show ((un a1 &&& cm 51 8) + (un a1 / 4 &&& cm 51 8)) % 18446744073709551616 = (un a1 &&& cm 51 8) + (un a1 / 4 &&& cm 51 8)
    have q1 : un a1 &&& cm 51 8 ≤ cm 51 8 := Nat.and_le_right
    have q2 : un a1 / 4 &&& cm 51 8 ≤ cm 51 8 := Nat.and_le_right
    have q3 : cm 51 8 = 3689348814741910323 := by decide +kernel
    omega
  have hz : un a2 < 9223372036854775808 := by
    rw [u2]
    have q1 : un a1 &&& cm 51 8 ≤ cm 51 8 := Nat.and_le_right
    have q2 : un a1 / 4 &&& cm 51 8 ≤ cm 51 8 := Nat.and_le_right
    have q3 : cm 51 8 = 3689348814741910323 := by decide +kernel
    unfold c2
    omega
  have u3 : un a3 = cR 8 (un x) := by
    rw [← c_all, ← u1, ← u2, h3, un_and, un_add, un_ushr (by omega) (by omega)]
    show (un a2 + un a2 / 16) % 18446744073709551616 &&& cm 15 8 = (un a2 + un a2 / 16) &&& cm 15 8
    rw [Nat.mod_eq_of_lt (by omega)]
  have hs : cR 8 (un x) = pc8 (un x % 256) + 256 * (pc8 (un x / 256 % 256) + 256 * (pc8 (un x / 256 / 256 % 256) + 256 * (pc8 (un x / 256 / 256 / 256 % 256) + 256 * (pc8 (un x / 256 / 256 / 256 / 256 % 256) + 256 * (pc8 (un x / 256 / 256 / 256 / 256 / 256 % 256) + 256 * (pc8 (un x / 256 / 256 / 256 / 256 / 256 / 256 % 256) + 256 * pc8 (un x / 256 / 256 / 256 / 256 / 256 / 256 / 256 % 256))))))) := rfl
  have hc : fb_ct (bw x) 64 = pc8 (un x % 256) + pc8 (un x / 256 % 256) + pc8 (un x / 256 / 256 % 256) + pc8 (un x / 256 / 256 / 256 % 256) + pc8 (un x / 256 / 256 / 256 / 256 % 256) + pc8 (un x / 256 / 256 / 256 / 256 / 256 % 256) + pc8 (un x / 256 / 256 / 256 / 256 / 256 / 256 % 256) + pc8 (un x / 256 / 256 / 256 / 256 / 256 / 256 / 256 % 256) := by
    have e := cR_ct 8 (un x)
    rw [show (fun i => (un x).testBit i) = bw x from rfl] at e
    rw [show (64 : Nat) = 8 * 8 from rfl, e]
    simp only [fb_sm_succ, show fb_sm (fun k => pc8 (un x / 256 ^ k % 256)) 0 = 0 from rfl, Nat.zero_add, Nat.pow_zero, Nat.div_one, Nat.div_div_eq_div_mul]
  have k0 := pc8_le (un x % 256)
  have k1 := pc8_le (un x / 256 % 256)
  have k2 := pc8_le (un x / 256 / 256 % 256)
  have k3 := pc8_le (un x / 256 / 256 / 256 % 256)
  have k4 := pc8_le (un x / 256 / 256 / 256 / 256 % 256)
  have k5 := pc8_le (un x / 256 / 256 / 256 / 256 / 256 % 256)
  have k6 := pc8_le (un x / 256 / 256 / 256 / 256 / 256 / 256 % 256)
  have k7 := pc8_le (un x / 256 / 256 / 256 / 256 / 256 / 256 / 256 % 256)
  rw [hs] at u3
  have u4 : un a4 = un a3 + un a3 / 256 := by
    rw [h4, un_add, un_ushr (by omega) (by omega)]
    show (un a3 + un a3 / 256) % 18446744073709551616 = un a3 + un a3 / 256
    omega
  have u5 : un a5 = un a4 + un a4 / 65536 := by
    rw [h5, un_add, un_ushr (by omega) (by omega)]
    show (un a4 + un a4 / 65536) % 18446744073709551616 = un a4 + un a4 / 65536
    omega
  have u6 : un a6 = (un a5 + un a5 / 4294967296) % 18446744073709551616 := by
    rw [h6, un_add, un_ushr (by omega) (by omega)]
    rfl
  rw [un_127, hc]
  congr 1
  generalize pc8 (un x % 256) = z0 at *
  generalize pc8 (un x / 256 % 256) = z1 at *
  generalize pc8 (un x / 256 / 256 % 256) = z2 at *
  generalize pc8 (un x / 256 / 256 / 256 % 256) = z3 at *
  generalize pc8 (un x / 256 / 256 / 256 / 256 % 256) = z4 at *
  generalize pc8 (un x / 256 / 256 / 256 / 256 / 256 % 256) = z5 at *
  generalize pc8 (un x / 256 / 256 / 256 / 256 / 256 / 256 % 256) = z6 at *
  generalize pc8 (un x / 256 / 256 / 256 / 256 / 256 / 256 / 256 % 256) = z7 at *
  have d4 : un a4 = (z0 + z1) + 256 * ((z1 + z2) + 256 * ((z2 + z3) + 256 * ((z3 + z4) + 256 * ((z4 + z5) + 256 * ((z5 + z6) + 256 * ((z6 + z7) + 256 * z7)))))) := by omega
  have d5 : un a5 = (z0 + z1 + z2 + z3) + 256 * ((z1 + z2 + z3 + z4) + 256 * ((z2 + z3 + z4 + z5) + 256 * ((z3 + z4 + z5 + z6) + 256 * ((z4 + z5 + z6 + z7) + 256 * ((z5 + z6 + z7) + 256 * ((z6 + z7) + 256 * z7)))))) := by omega
  have d6 : un a5 / 4294967296 = (z4 + z5 + z6 + z7) + 256 * ((z5 + z6 + z7) + 256 * ((z6 + z7) + 256 * z7)) := by omega
  have d7 : un a6 = un a5 + un a5 / 4294967296 := by
    rw [u6]
    omega
  have d8 : un a6 % 128 = z0 + z1 + z2 + z3 + z4 + z5 + z6 + z7 := by
    rw [d7, d6, d5]
    clear u4 u5 u3 hs hc d4 d5 d6 d7 u6
    omega
  rw [d8]
