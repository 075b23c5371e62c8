/-! WORDS: a long by its bits; a set of numbers in two of them -/
def bw (x : Int64) (i : Nat) : Bool := x.toBitVec.getLsbD i
theorem bw_ext {x y : Int64} (h : ∀ i, i < 64 → bw x i = bw y i) : x = y := Int64.toBitVec_inj.mp (BitVec.eq_of_getLsbD_eq (fun i hi => h i hi))
theorem bw_or (x y : Int64) (i : Nat) : bw (x ||| y) i = (bw x i || bw y i) := by unfold bw; rw [Int64.toBitVec_or, BitVec.getLsbD_or]
theorem bw_and (x y : Int64) (i : Nat) : bw (x &&& y) i = (bw x i && bw y i) := by unfold bw; rw [Int64.toBitVec_and, BitVec.getLsbD_and]
theorem bw_xor (x y : Int64) (i : Nat) : bw (x ^^^ y) i = (bw x i ^^ bw y i) := by unfold bw; rw [Int64.toBitVec_xor, BitVec.getLsbD_xor]
theorem bw_big {x : Int64} {i : Nat} (h : 64 ≤ i) : bw x i = false := BitVec.getLsbD_of_ge _ _ h
theorem bw_m1 {i : Nat} (h : i < 64) : bw (Int64.ofInt (-1)) i = true := by
  have : ∀ i, i < 64 → bw (Int64.ofInt (-1)) i = true := by decide +kernel
  exact this i h
theorem bw_hi {i : Nat} (h : i < 64) : bw (Int64.ofInt 72057594037927935) i = decide (i < 56) := by
  have : ∀ i, i < 64 → bw (Int64.ofInt 72057594037927935) i = decide (i < 56) := by decide +kernel
  exact this i h
theorem bw_0 (i : Nat) : bw (Int64.ofInt 0) i = false := BitVec.getLsbD_zero
theorem bw_one {i : Nat} : bw (Int64.ofInt 1) i = decide (i = 0) := by
  by_cases h : i < 64
  · have : ∀ i, i < 64 → bw (Int64.ofInt 1) i = decide (i = 0) := by decide +kernel
    exact this i h
  · rw [bw_big (by omega)]
    exact (decide_eq_false (by omega)).symm
theorem bw_c : ∀ k, k < 64 → ((Int32.ofNat k).toInt64 &&& 63) = Int64.ofNat k := by decide +kernel
theorem bw_sm : ∀ k, k < 64 → ((BitVec.ofNat 64 k).smod 64).toNat = k := by decide +kernel
theorem bw_cu : ∀ k, k < 64 → (((Int32.ofNat k).toInt64.toUInt64 &&& Int64.toUInt64 63).toBitVec % 64).toNat = k := by decide +kernel
theorem bw_shl {k : Int} (h0 : 0 ≤ k) (hk : k < 64) (x : Int64) {i : Nat} (hi : i < 64) : bw (x <<< ((iv k).toInt64 &&& 63)) i = (decide (k.toNat ≤ i) && bw x (i - k.toNat)) := by
  obtain ⟨n, rfl⟩ := Int.eq_ofNat_of_zero_le h0
  have hn : n < 64 := by omega
  rw [show iv (n : Int) = Int32.ofNat n from (iv_nat n).symm, bw_c n hn]
  unfold bw
  rw [Int64.toBitVec_shiftLeft]
  show (x.toBitVec <<< (BitVec.ofNat 64 n).smod 64).getLsbD i = _
  rw [BitVec.shiftLeft_eq', bw_sm n hn, BitVec.getLsbD_shiftLeft]
  simp only [Int.toNat_natCast]
  by_cases h : n ≤ i
  · simp [h, hi, Nat.not_lt.mpr h]
  · simp [h, hi, Nat.lt_of_not_le h]
theorem bw_ushr {k : Int} (h0 : 0 ≤ k) (hk : k < 64) (x : Int64) (i : Nat) : bw ((x.toUInt64 >>> ((iv k).toInt64.toUInt64 &&& Int64.toUInt64 63)).toInt64) i = bw x (k.toNat + i) := by
  obtain ⟨n, rfl⟩ := Int.eq_ofNat_of_zero_le h0
  have hn : n < 64 := by omega
  rw [show iv (n : Int) = Int32.ofNat n from (iv_nat n).symm]
  show (x.toUInt64 >>> _).toBitVec.getLsbD i = _
  rw [UInt64.toBitVec_shiftRight]
  show (x.toBitVec >>> ((((Int32.ofNat n).toInt64.toUInt64 &&& Int64.toUInt64 63).toBitVec % 64))).getLsbD i = _
  rw [BitVec.ushiftRight_eq', bw_cu n hn, BitVec.getLsbD_ushiftRight]
  rfl
/-- the number that has these bits -/
def wN (f : Nat → Bool) : Nat → Nat
  | 0 => 0
  | n + 1 => if f n = true then 2 ^ n + wN f n else wN f n
theorem wN_lt (f : Nat → Bool) : ∀ n, wN f n < 2 ^ n := by
  intro n
  induction n with
  | zero => exact Nat.one_pos
  | succ n ih =>
    unfold wN
    rw [Nat.pow_succ]
    split <;> omega
theorem wN_bit (f : Nat → Bool) (i : Nat) : ∀ n, (wN f n).testBit i = (decide (i < n) && f i) := by
  intro n
  induction n with
  | zero => simp [wN]
  | succ n ih =>
    unfold wN
    by_cases hi : i = n
    · subst hi
      split
      · rename_i h
        rw [Nat.testBit_two_pow_add_eq, ih]
        simp [h]
      · rename_i h
        rw [ih]
        simp [h]
    · by_cases h1 : i < n
      · split
        · rw [Nat.testBit_two_pow_add_gt h1, ih]
          simp [h1, Nat.lt_succ_of_lt h1]
        · rw [ih]
          simp [h1, Nat.lt_succ_of_lt h1]
      · have h2 : wN f (n + 1) < 2 ^ (n + 1) := wN_lt f (n + 1)
        have h3 : (wN f (n + 1)).testBit i = false := Nat.testBit_lt_two_pow (Nat.lt_of_lt_of_le h2 (Nat.pow_le_pow_right (by omega) (by omega)))
        unfold wN at h3
        rw [h3]
        simp [show ¬ i < n + 1 by omega]
def wd (f : Nat → Bool) : Int64 := Int64.ofBitVec (BitVec.ofNat 64 (wN f 64))
theorem bw_wd (f : Nat → Bool) {i : Nat} (h : i < 64) : bw (wd f) i = f i := by
  show (BitVec.ofNat 64 (wN f 64)).getLsbD i = _
  rw [BitVec.getLsbD_ofNat, wN_bit]
  simp [h]
/-- the set at a place -/
def ss (σ : St) (p n : Nat) : Bool := if n < 64 then bw (gL σ p 0) n else bw (gL σ p 1) (n - 64)
def pS (σ : St) (p : Nat) (f : Nat → Bool) : St := setL (setL σ p 0 (wd f)) p 1 (wd (fun i => decide (i < 56) && f (64 + i)))
/-- all sets are of numbers below 120 -/
def AW (σ : St) : Prop := ∀ p, gK σ p = 5 → ∀ n, 120 ≤ n → ss σ p n = false
theorem ss_same (σ : St) (p : Nat) (f : Nat → Bool) (n : Nat) : ss (pS σ p f) p n = (decide (n < 120) && f n) := by
  unfold ss pS
  simp only [gL_L]
  by_cases h : n < 64
  · simp [h, show n < 120 by omega, bw_wd f h]
  · by_cases h2 : n < 120
    · simp [h, h2, bw_wd (fun i => decide (i < 56) && f (64 + i)) (show n - 64 < 64 by omega), show n - 64 < 56 by omega, show 64 + (n - 64) = n by omega]
    · by_cases h3 : n < 128
      · simp [h, h2, bw_wd (fun i => decide (i < 56) && f (64 + i)) (show n - 64 < 64 by omega), show ¬ n - 64 < 56 by omega]
      · simp [h, h2, bw_big (show 64 ≤ n - 64 by omega)]
theorem ss_ne (σ : St) {p q : Nat} (f : Nat → Bool) (h : q ≠ p) : ss (pS σ p f) q = ss σ q := by
  funext n
  unfold ss pS
  simp only [gL_L, h, false_and, if_false]
theorem ss_pS (σ : St) (p : Nat) (f : Nat → Bool) (q n : Nat) : ss (pS σ p f) q n = if q = p then (decide (n < 120) && f n) else ss σ q n := by
  by_cases h : q = p
  · rw [if_pos h, h, ss_same]
  · rw [if_neg h, ss_ne σ f h]
theorem pS_of {σ : St} {p : Nat} {a b : Int64} {f : Nat → Bool} (h1 : ∀ i, i < 64 → bw a i = f i) (h2 : ∀ i, i < 64 → bw b i = (decide (i < 56) && f (64 + i))) : setL (setL σ p 0 a) p 1 b = pS σ p f := by
  have e1 : a = wd f := bw_ext (fun i hi => by rw [h1 i hi, bw_wd f hi])
  have e2 : b = wd (fun i => decide (i < 56) && f (64 + i)) := bw_ext (fun i hi => by rw [h2 i hi, bw_wd _ hi])
  rw [e1, e2]
  rfl
theorem ss_lo (σ : St) (p : Nat) {n : Nat} (h : n < 64) : bw (gL σ p 0) n = ss σ p n := by unfold ss; rw [if_pos h]
theorem ss_hi (σ : St) (p : Nat) {n : Nat} (h : n < 64) : bw (gL σ p 1) n = ss σ p (64 + n) := by
  unfold ss
  rw [if_neg (by omega), show 64 + n - 64 = n by omega]
theorem ss_big {σ : St} (hw : AW σ) {p : Nat} (hp : gK σ p = 5) {n : Nat} (h : ¬ n < 120) : ss σ p n = false := hw p hp n (by omega)
theorem gK_pS (σ : St) (p : Nat) (f : Nat → Bool) (q : Nat) : gK (pS σ p f) q = gK σ q := rfl
theorem gN_pS (σ : St) (p : Nat) (f : Nat → Bool) (q : Nat) : gN (pS σ p f) q = gN σ q := rfl
theorem gI_pS (σ : St) (p : Nat) (f : Nat → Bool) (q k : Nat) : gI (pS σ p f) q k = gI σ q k := rfl
theorem gD_pS (σ : St) (p : Nat) (f : Nat → Bool) (q k : Nat) : gD (pS σ p f) q k = gD σ q k := rfl
theorem gR_pS (σ : St) (p : Nat) (f : Nat → Bool) (q k : Nat) : gR (pS σ p f) q k = gR σ q k := rfl
theorem gx_pS (σ : St) (p : Nat) (f : Nat → Bool) : gx (pS σ p f) = gx σ := rfl
theorem gc_pS (σ : St) (p : Nat) (f : Nat → Bool) : gc (pS σ p f) = gc σ := rfl
theorem gs_pS (σ : St) (p : Nat) (f : Nat → Bool) : gs (pS σ p f) = gs σ := rfl
theorem AW_pS {σ : St} (hw : AW σ) (p : Nat) (f : Nat → Bool) : AW (pS σ p f) := by
  intro q hq n hn
  rw [ss_pS]
  split
  · simp [show ¬ n < 120 by omega]
  · exact hw q hq n hn
theorem pS_cong {σ : St} {p : Nat} {f g : Nat → Bool} (h : ∀ n, n < 120 → f n = g n) : pS σ p f = pS σ p g := by
  refine pS_of (fun i hi => by rw [bw_wd f hi, h i (by omega)]) (fun i hi => ?_)
  rw [bw_wd _ hi]
  by_cases h2 : i < 56
  · rw [h (64 + i) (by omega)]
  · simp [h2]
