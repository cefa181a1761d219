theorem zL_shr {a b : Int} (k : Nat) (hb : b = k) (h0 : 0 ≤ a) (h1 : a < 9223372036854775808) (hk : k < 64) : ((zL a).toUInt64 >>> ((zI b).toInt64.toUInt64 &&& Int64.toUInt64 63)).toInt64 = zL (a / 2 ^ k) := by
  subst hb
  obtain ⟨n, rfl⟩ := Int.eq_ofNat_of_zero_le h0
  rw [zLn, zIn, wb_shr (by omega) hk, ← zLn]
  congr 1
theorem zL_shl {a b : Int} (k : Nat) (hb : b = k) (h0 : 0 ≤ a) (hk : k < 64) : zL a <<< ((zI b).toInt64 &&& 63) = zL (a * 2 ^ k) := by
  subst hb
  obtain ⟨n, rfl⟩ := Int.eq_ofNat_of_zero_le h0
  rw [zLn, zIn, wb_shl n hk, ← zLn]
  congr 1
theorem zL_mask {a : Int} (k : Nat) (h0 : 0 ≤ a) (h1 : a < 9223372036854775808) (hk : k < 64) : zL a &&& zL (2 ^ k - 1) = zL (a % 2 ^ k) := by
  obtain ⟨n, rfl⟩ := Int.eq_ofNat_of_zero_le h0
  have hp : 0 < 2 ^ k := Nat.pow_pos (by decide)
  have e : (2 : Int) ^ k - 1 = ((2 ^ k - 1 : Nat) : Int) := by rw [p2n]; omega
  rw [e, zLn, zLn, wb_mask (by omega) hk, ← zLn]
  congr 1
/-- 'or' of parts that don't overlap -/
theorem zL_or {a b : Int} (k : Nat) (h0 : 0 ≤ a) (h1 : a < 2 ^ k) (hb : 0 ≤ b) (h : a + b * 2 ^ k < 9223372036854775808) : zL a ||| zL (b * 2 ^ k) = zL (a + b * 2 ^ k) := by
  obtain ⟨n, rfl⟩ := Int.eq_ofNat_of_zero_le h0
  obtain ⟨m, rfl⟩ := Int.eq_ofNat_of_zero_le hb
  have e : (m : Int) * 2 ^ k = ((m * 2 ^ k : Nat) : Int) := by rw [p2n]; push_cast; rfl
  rw [e, p2n] at *
  rw [zLn, zLn, g_or' (k := k) rfl (by omega) (by omega), ← zLn]
  congr 1
  try omega
theorem zL_andnot {a : Int} (k : Nat) (h0 : 0 ≤ a) (h1 : a < 9223372036854775808) (hk : k < 63) : zL a &&& (zL (2 ^ k - 1) ^^^ zL (-1)) = zL (a / 2 ^ k * 2 ^ k) := by
  obtain ⟨n, rfl⟩ := Int.eq_ofNat_of_zero_le h0
  have hp : 0 < 2 ^ k := Nat.pow_pos (by decide)
  have hlt : 2 ^ k < 2 ^ 63 := Nat.pow_lt_pow_right (by decide) hk
  have e : (2 : Int) ^ k - 1 = ((2 ^ k - 1 : Nat) : Int) := by rw [p2n]; omega
  have e2 : (n : Int) / 2 ^ k * 2 ^ k = ((n / 2 ^ k * 2 ^ k : Nat) : Int) := by rw [p2n]; push_cast; rfl
  have hn := Nat.div_mul_le_self n (2 ^ k)
  rw [e, e2, zLn, zLn, zLn]
  apply wb_inj
  rw [Int64.toBitVec_and, Int64.toBitVec_xor, show (zL (-1)).toBitVec = BitVec.allOnes 64 by decide, BitVec.xor_allOnes, wb_tb, wb_tb, wb_tb]
  apply BitVec.eq_of_toNat_eq
  rw [BitVec.toNat_and, BitVec.toNat_not, BitVec.toNat_ofNat, BitVec.toNat_ofNat, BitVec.toNat_ofNat, Nat.mod_eq_of_lt (by omega), Nat.mod_eq_of_lt (show 2 ^ k - 1 < 2 ^ 64 by omega), Nat.mod_eq_of_lt (show n / 2 ^ k * 2 ^ k < 2 ^ 64 by omega)]
  apply Nat.eq_of_testBit_eq
  intro i
  rw [Nat.testBit_and, show 2 ^ 64 - 1 - (2 ^ k - 1) = 2 ^ 64 - ((2 ^ k - 1) + 1) by omega, Nat.testBit_two_pow_sub_succ (by omega), Nat.testBit_two_pow_sub_one, Nat.mul_comm, Nat.testBit_two_pow_mul]
  by_cases h2 : k ≤ i
  · have h3 : ¬ i < k := by omega
    rw [Nat.testBit_div_two_pow, Nat.sub_add_cancel h2]
    by_cases h4 : i < 64
    · simp [h2, h3, h4]
    · have : n.testBit i = false := Nat.testBit_lt_two_pow (Nat.lt_of_lt_of_le (show n < 2 ^ 64 by omega) (Nat.pow_le_pow_right (by decide) (by omega)))
      simp [this]
  · have h3 : i < k := by omega
    simp [h2, h3]
theorem tz_div {w q : Int} {t : Nat} (hq : w = 2 ^ t * (2 * q + 1)) (h : 32 ≤ t) : w / 4294967296 = 2 ^ (t - 32) * (2 * q + 1) ∧ w % 4294967296 = 0 := by
  have e : (2 : Int) ^ t = 4294967296 * 2 ^ (t - 32) := by
    rw [show (4294967296 : Int) = 2 ^ 32 by decide, ← Int.pow_add]
    congr 1; omega
  rw [hq, e, Int.mul_assoc]
  constructor
  · exact Int.mul_ediv_cancel_left _ (by decide)
  · exact Int.mul_emod_right _ _
theorem tz_high {w q : Int} {t : Nat} (hq : w = 2 ^ t * (2 * q + 1)) (ht : t < 62) (h32 : 0 ≤ w) (h : w - 4294967296 * ((w + 2147483648) / 4294967296) = 0) : 32 ≤ t ∧ w / 4294967296 = 2 ^ (t - 32) * (2 * q + 1) := by
  have h2 : 32 ≤ t := by
    rcases Nat.lt_or_ge t 32 with g | g
    · exfalso
      have e : (4294967296 : Int) = 2 ^ t * (2 * 2 ^ (31 - t)) := by
        rw [show (2 : Int) * 2 ^ (31 - t) = 2 ^ (31 - t + 1) by rw [Int.pow_succ, Int.mul_comm], ← Int.pow_add, show t + (31 - t + 1) = 32 by omega]
        rfl
      have hp : (0 : Int) < 2 ^ t := Int.pow_pos (by decide)
      generalize (w + 2147483648) / 4294967296 = k at h
      rw [hq, e, Int.mul_assoc, ← Int.mul_sub] at h
      rcases Int.mul_eq_zero.mp h with z | z
      · omega
      · rw [Int.mul_assoc] at z; omega
    · exact g
  exact ⟨h2, (tz_div hq h2).1⟩
theorem tz_low {w q : Int} {t : Nat} (hq : w = 2 ^ t * (2 * q + 1)) (ht : t < 62) (h : ¬ w - 4294967296 * ((w + 2147483648) / 4294967296) = 0) : t < 32 ∧ ∃ q2, w - 4294967296 * ((w + 2147483648) / 4294967296) = 2 ^ t * (2 * q2 + 1) := by
  have h2 : t < 32 := by
    rcases Nat.lt_or_ge t 32 with g | g
    · exact g
    · have := (tz_div hq g).2
      omega
  refine ⟨h2, q - 2 ^ (31 - t) * ((w + 2147483648) / 4294967296), ?_⟩
  have e : (4294967296 : Int) = 2 ^ t * (2 * 2 ^ (31 - t)) := by
    rw [show (2 : Int) * 2 ^ (31 - t) = 2 ^ (31 - t + 1) by rw [Int.pow_succ, Int.mul_comm], ← Int.pow_add, show t + (31 - t + 1) = 32 by omega]
    rfl
  generalize (w + 2147483648) / 4294967296 = k at *
  rw [hq, e, Int.mul_assoc, ← Int.mul_sub]
  congr 1
  rw [Int.mul_assoc, Int.mul_sub]
  omega
