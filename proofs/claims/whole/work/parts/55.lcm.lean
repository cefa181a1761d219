abbrev lcm3 (a b : Nat) : Int := if (b : Int) < (a : Int) then 1 else if (a : Int) = (b : Int) then 0 else -1
theorem lcm3_0 {a b : Nat} : lcm3 a b = 0 ↔ a = b := by
  unfold lcm3
  split
  · omega
  · split <;> omega
theorem lcm3_r (a b : Nat) : rI (lcm3 a b) := by
  unfold lcm3
  split
  · omega
  · split <;> omega
theorem wb_xor2 {a b : Nat} (ha : a < 2 ^ 64) (hb : b < 2 ^ 64) : lN a ^^^ lN b = lN (a ^^^ b) := by
  apply wb_inj
  rw [Int64.toBitVec_xor, wb_tb, wb_tb, wb_tb]
  apply BitVec.eq_of_toNat_eq
  rw [BitVec.toNat_xor, BitVec.toNat_ofNat, BitVec.toNat_ofNat, BitVec.toNat_ofNat, Nat.mod_eq_of_lt ha, Nat.mod_eq_of_lt hb, Nat.mod_eq_of_lt (Nat.xor_lt_two_pow ha hb)]
