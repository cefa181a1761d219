theorem wb_tb (n : Nat) : (lN n).toBitVec = BitVec.ofNat 64 n := rfl
theorem wb_inj {a b : Int64} (h : a.toBitVec = b.toBitVec) : a = b := Int64.toBitVec_inj.mp h
theorem wb_tn {n : Nat} (h : n < 2 ^ 64) : (lN n).toBitVec.toNat = n := by rw [wb_tb, BitVec.toNat_ofNat, Nat.mod_eq_of_lt h]
theorem wb_of (x : Int64) : ∃ n, n < 2 ^ 64 ∧ x = lN n := ⟨x.toBitVec.toNat, x.toBitVec.isLt, wb_inj (by rw [wb_tb]; simp)⟩
theorem wb_c : ∀ k, k < 64 → ((nI k).toInt64 &&& 63) = lN k := by decide +kernel
theorem wb_cu : ∀ k, k < 64 → ((nI k).toInt64.toUInt64 &&& Int64.toUInt64 63) = UInt64.ofNat k := by decide +kernel
theorem wb_sm : ∀ k, k < 64 → (BitVec.ofNat 64 k).smod 64 = BitVec.ofNat 64 k := by decide +kernel
theorem wb_pw {a b : Nat} (h : a ≤ b) : 2 ^ b = 2 ^ a * 2 ^ (b - a) := by rw [← Nat.pow_add]; congr 1; omega
theorem wb_lt2 {a b : Nat} (h : a < b) : 2 ^ a < 2 ^ b := Nat.pow_lt_pow_right (by decide) h
theorem wb_mod (n : Nat) : lN n = lN (n % 2 ^ 64) := wb_inj (by rw [wb_tb, wb_tb]; apply BitVec.eq_of_toNat_eq; rw [BitVec.toNat_ofNat, BitVec.toNat_ofNat, Nat.mod_mod])
theorem wb_shr {n k : Nat} (hn : n < 2 ^ 64) (hk : k < 64) : ((lN n).toUInt64 >>> ((nI k).toInt64.toUInt64 &&& Int64.toUInt64 63)).toInt64 = lN (n / 2 ^ k) := by
  rw [wb_cu k hk]
  apply wb_inj
  apply BitVec.eq_of_toNat_eq
  show ((lN n).toUInt64 >>> UInt64.ofNat k).toNat = (BitVec.ofNat 64 _).toNat
  have h1 : (UInt64.ofNat k).toNat = k := by
    show (BitVec.ofNat 64 k).toNat = k
    rw [BitVec.toNat_ofNat, Nat.mod_eq_of_lt (by omega)]
  have h2 : (lN n).toUInt64.toNat = n := wb_tn hn
  rw [UInt64.toNat_shiftRight, h1, h2, Nat.mod_eq_of_lt hk, Nat.shiftRight_eq_div_pow, BitVec.toNat_ofNat, Nat.mod_eq_of_lt (Nat.lt_of_le_of_lt (Nat.div_le_self _ _) hn)]
theorem wb_shl (n : Nat) {k : Nat} (hk : k < 64) : lN n <<< ((nI k).toInt64 &&& 63) = lN (n * 2 ^ k) := by
  rw [wb_c k hk]
  apply wb_inj
  rw [Int64.toBitVec_shiftLeft, wb_tb, wb_tb, wb_tb, wb_sm k hk]
  apply BitVec.eq_of_toNat_eq
  rw [BitVec.shiftLeft_eq', BitVec.toNat_shiftLeft, BitVec.toNat_ofNat, BitVec.toNat_ofNat, BitVec.toNat_ofNat, Nat.mod_eq_of_lt (show k < 2 ^ 64 by omega), Nat.shiftLeft_eq, Nat.mul_mod, Nat.mod_mod, ← Nat.mul_mod]
theorem wb_and {a b : Nat} (ha : a < 2 ^ 64) (hb : b < 2 ^ 64) : lN a &&& lN b = lN (a &&& b) := by
  apply wb_inj
  rw [Int64.toBitVec_and, wb_tb, wb_tb, wb_tb]
  apply BitVec.eq_of_toNat_eq
  rw [BitVec.toNat_and, BitVec.toNat_ofNat, BitVec.toNat_ofNat, BitVec.toNat_ofNat, Nat.mod_eq_of_lt ha, Nat.mod_eq_of_lt hb, Nat.mod_eq_of_lt (Nat.and_lt_two_pow _ hb)]
theorem wb_or {a b : Nat} (ha : a < 2 ^ 64) (hb : b < 2 ^ 64) : lN a ||| lN b = lN (a ||| b) := by
  apply wb_inj
  rw [Int64.toBitVec_or, wb_tb, wb_tb, wb_tb]
  apply BitVec.eq_of_toNat_eq
  rw [BitVec.toNat_or, BitVec.toNat_ofNat, BitVec.toNat_ofNat, BitVec.toNat_ofNat, Nat.mod_eq_of_lt ha, Nat.mod_eq_of_lt hb, Nat.mod_eq_of_lt (Nat.or_lt_two_pow ha hb)]
theorem wb_mask {n k : Nat} (hn : n < 2 ^ 64) (hk : k < 64) : lN n &&& lN (2 ^ k - 1) = lN (n % 2 ^ k) := by
  rw [wb_and hn (by have := wb_lt2 hk; omega), Nat.and_two_pow_sub_one_eq_mod]
theorem u_tn {n : Nat} (h : n < 2 ^ 64) : (UInt64.ofNat n).toNat = n := Nat.mod_eq_of_lt h
theorem g_and {a b c : Nat} (ha : a < 2 ^ 64) (hb : b < 2 ^ 64) (hc : a &&& b = c) : lN a &&& lN b = lN c := by
  subst hc
  have h : UInt64.ofNat a &&& UInt64.ofNat b = UInt64.ofNat (a &&& b) := UInt64.toNat_inj.mp (by rw [UInt64.toNat_and, u_tn ha, u_tn hb, u_tn (Nat.and_lt_two_pow a hb)])
  have h2 := congrArg UInt64.toInt64 h
  exact h2
theorem g_and1 {a : Nat} (ha : a < 2 ^ 64) : lN a &&& 1 = lN (a % 2) := g_and (b := 1) ha (by decide) (Nat.and_two_pow_sub_one_eq_mod a 1)
theorem g_mask {a s p : Nat} (hp : 2 ^ s = p) (hs : s < 64) (ha : a < 2 ^ 64) : lN a &&& lN (p - 1) = lN (a % p) := by
  subst hp
  have := Nat.pow_lt_pow_right (show 1 < 2 by decide) hs
  exact g_and ha (by omega) (Nat.and_two_pow_sub_one_eq_mod a s)
theorem g_or {k p a b : Nat} (hp : 2 ^ k = p) (ha : a < p) (h : b * p + a < 2 ^ 64) : lN (b * p) ||| lN a = lN (b * p + a) := by
  subst hp
  have h1 : b * 2 ^ k ||| a = b * 2 ^ k + a := by rw [← Nat.shiftLeft_eq, Nat.shiftLeft_add_eq_or_of_lt ha]
  have h3 : UInt64.ofNat (b * 2 ^ k) ||| UInt64.ofNat a = UInt64.ofNat (b * 2 ^ k + a) := UInt64.toNat_inj.mp (by rw [UInt64.toNat_or, u_tn (by omega), u_tn (by omega), u_tn h, h1])
  have h2 := congrArg UInt64.toInt64 h3
  exact h2
theorem g_or' {k p a b : Nat} (hp : 2 ^ k = p) (ha : a < p) (h : a + b * p < 2 ^ 64) : lN a ||| lN (b * p) = lN (a + b * p) := by
  rw [Int64.or_comm, g_or hp ha (by omega), Nat.add_comm]
/-! ===== whole numbers under the machine's bits ===== -/
theorem V.wrap {X : Cxt} {k n pc : Nat} {lv : Lv} {st : List Vl} {cs : List Wd} {a b : Int} (h : zI a = zI b) (kk : V X k n pc lv (vI b :: st) cs) : V X k n pc lv (vI a :: st) cs := by
  obtain ⟨p, l', e, R', s, m, args, below, meth, c, Q, A, K', nL'⟩ := X
  intro H locs ls hP hD hS hl
  have := kk H locs ls hP hD hS hl
  show W p l' e R' s m args below meth c H locs k n Q (F0 m pc ls (.int (zI a) :: st.map rv))
  rw [h]
  exact this
theorem zLn (n : Nat) : zL (n : Int) = lN n := Int64.ofInt_eq_ofNat
theorem zIn (n : Nat) : zI (n : Int) = nI n := Int32.ofInt_eq_ofNat
theorem zI_wrap (a k : Int) : zI a = zI (a - 4294967296 * k) := by
  rw [← zI_sub, ← zI_mul, show zI 4294967296 = 0 by decide, Int32.zero_mul, Int32.sub_zero]
theorem zI_ush {a s : Int} (k : Nat) (h0 : 0 ≤ a) (h1 : a < 2147483648) (hs : (((zI s).toUInt32 &&& Int32.toUInt32 31).toBitVec % 32).toNat = k) : ((zI a).toUInt32 >>> ((zI s).toUInt32 &&& Int32.toUInt32 31)).toInt32 = zI (a / 2 ^ k) := by
  obtain ⟨n, rfl⟩ := Int.eq_ofNat_of_zero_le h0
  rw [zIn, pk_ushrN (by omega) _ k hs, ← zIn]
  congr 1
theorem zI_not (a : Int) : zI a ^^^ zI (-1) = zI (-a - 1) := by
  have h : zI a ^^^ zI (-1) = ~~~ (zI a) := by
    apply Int32.toBitVec_inj.mp
    show (zI a).toBitVec ^^^ (zI (-1)).toBitVec = ~~~ (zI a).toBitVec
    rw [show (zI (-1)).toBitVec = BitVec.allOnes 32 by decide, BitVec.xor_allOnes]
  rw [h, Int32.not_eq_neg_sub, ← show zI (-a) = -zI a from Int32.ofInt_neg a, show (1 : Int32) = zI 1 from rfl, zI_sub]
theorem p2n (m : Nat) : (2 : Int) ^ m = ((2 ^ m : Nat) : Int) := by simp
theorem p2le {a b : Nat} (h : a ≤ b) : (2 : Int) ^ a ≤ 2 ^ b := by
  rw [p2n, p2n]
  exact Int.ofNat_le.mpr (Nat.pow_le_pow_right (by decide) h)
theorem nxand (a b : Nat) (ha : a < 4294967296) (hb : b < 4294967296) : nI a &&& nI b = nI (a &&& b) := by
  apply Int32.toBitVec_inj.mp
  apply BitVec.eq_of_toNat_eq
  have hab : a &&& b < 2 ^ 32 := Nat.and_lt_two_pow _ (by omega)
  show ((nI a).toBitVec &&& (nI b).toBitVec).toNat = (nI (a &&& b)).toBitVec.toNat
  rw [BitVec.toNat_and, pk_tn (by omega), pk_tn (by omega), pk_tn hab]
theorem tz_nat {t r : Nat} (ht : t < 32) (hr : 2 ^ t * (2 * r + 1) < 2 ^ 32) : (2 ^ 32 - (2 ^ t * (2 * r + 1) + 1)) &&& (2 ^ t * (2 * r + 1) - 1) = 2 ^ t - 1 := by
  have hp : 0 < 2 ^ t := Nat.pow_pos (by decide)
  have e1 : 2 ^ t * (2 * r + 1) = 2 ^ (t + 1) * r + 2 ^ t := by rw [Nat.pow_succ, Nat.mul_add, Nat.mul_one, ← Nat.mul_assoc]
  have e2 : 2 ^ t * (2 * r + 1) - 1 = 2 ^ (t + 1) * r + (2 ^ t - 1) := by omega
  have l1 : 2 ^ t < 2 ^ (t + 1) := Nat.pow_lt_pow_right (by decide) (by omega)
  apply Nat.eq_of_testBit_eq
  intro i
  rw [Nat.testBit_and, Nat.testBit_two_pow_sub_succ hr, e2, Nat.testBit_two_pow_mul_add _ (by omega), e1, Nat.testBit_two_pow_mul_add _ l1, Nat.testBit_two_pow_sub_one]
  by_cases h1 : i < t + 1
  · rw [if_pos h1, if_pos h1, Nat.testBit_two_pow]
    by_cases h2 : i = t
    · subst h2; simp
    · have h3 : i < t := by omega
      have h4 : ¬ t = i := by omega
      have h5 : i < 32 := by omega
      simp [h3, h4, h5]
  · rw [if_neg h1, if_neg h1]
    have h3 : ¬ i < t := by omega
    cases r.testBit (i - (t + 1)) <;> simp [h3]
theorem tz_and {x q : Int} {t : Nat} (ht : t < 32) (hx : x = 2 ^ t * (2 * q + 1)) : zI (-x - 1) &&& zI (x - 1) = zI (2 ^ t - 1) := by
  have hp : (0 : Int) < 2 ^ (31 - t) := Int.pow_pos (by decide)
  have hq0 := Int.emod_nonneg q (show (2 : Int) ^ (31 - t) ≠ 0 by omega)
  have hq1 := Int.emod_lt_of_pos q hp
  have hq2 := Int.emod_add_mul_ediv q (2 ^ (31 - t))
  obtain ⟨r, hr⟩ := Int.eq_ofNat_of_zero_le hq0
  have hpp : (2 : Int) ^ t * (2 * (2 : Int) ^ (31 - t)) = 4294967296 := by
    rw [show (2 : Int) * 2 ^ (31 - t) = 2 ^ (31 - t + 1) by rw [Int.pow_succ, Int.mul_comm], ← Int.pow_add, show t + (31 - t + 1) = 32 by omega]
    rfl
  have hxr : x = 2 ^ t * (2 * (r : Int) + 1) + 4294967296 * (q / 2 ^ (31 - t)) := by
    rw [hx, ← hpp, ← hr]
    generalize q / 2 ^ (31 - t) = k at *
    generalize q % 2 ^ (31 - t) = m at *
    rw [← hq2]
    simp only [Int.mul_add, Int.mul_assoc, Int.mul_one]
    omega
  have hrl : r < 2 ^ (31 - t) := by rw [hr, p2n] at hq1; omega
  have hnl : 2 ^ t * (2 * r + 1) < 2 ^ 32 := by
    have h1 : 2 * r + 1 < 2 ^ (31 - t + 1) := by rw [Nat.pow_succ]; omega
    have h2 : 2 ^ t * (2 * r + 1) < 2 ^ t * 2 ^ (31 - t + 1) := Nat.mul_lt_mul_of_pos_left h1 (Nat.pow_pos (by decide))
    rwa [← Nat.pow_add, show t + (31 - t + 1) = 32 by omega] at h2
  have hp1 : 0 < 2 ^ t := Nat.pow_pos (by decide)
  have hn1 : 1 ≤ 2 ^ t * (2 * r + 1) := Nat.mul_pos hp1 (by omega)
  have e0 : ((2 ^ t * (2 * r + 1) : Nat) : Int) = 2 ^ t * (2 * (r : Int) + 1) := by rw [p2n]; push_cast; rfl
  have e1 : zI (x - 1) = nI (2 ^ t * (2 * r + 1) - 1) := by
    rw [zI_wrap (x - 1) (q / 2 ^ (31 - t)), ← zIn]
    congr 1
    omega
  have e2 : zI (-x - 1) = nI (2 ^ 32 - (2 ^ t * (2 * r + 1) + 1)) := by
    rw [zI_wrap (-x - 1) (-(q / 2 ^ (31 - t)) - 1), ← zIn]
    congr 1
    omega
  rw [e1, e2, nxand _ _ (by omega) (by omega), tz_nat ht hnl, ← zIn]
  congr 1
  rw [p2n]
  omega
/-- how many bits a number has -/
def bl (x : Int) : Int := if x ≤ 0 then 0 else (Nat.log2 x.toNat : Int) + 1
theorem bl_lit {x : Int} (L : Nat) {a : Int} (ha : (2 : Int) ^ L = a) (h1 : a ≤ x) (h2 : x < 2 * a) : bl x = L + 1 := by
  have hp : (0 : Int) < a := by rw [← ha]; exact Int.pow_pos (by decide)
  unfold bl
  rw [if_neg (by omega)]
  have e : Nat.log2 x.toNat = L := by
    have hn : (2 : Int) ^ L = ((2 ^ L : Nat) : Int) := by simp
    refine (Nat.log2_eq_iff (by omega)).mpr ⟨?_, ?_⟩
    · omega
    · rw [Nat.pow_succ]; omega
  rw [e]
theorem bl_le {x : Int} (m : Nat) (h : x < (2 : Int) ^ m) : bl x ≤ m := by
  unfold bl
  split
  · omega
  · have hn : (2 : Int) ^ m = ((2 ^ m : Nat) : Int) := by simp
    have : Nat.log2 x.toNat < m := (Nat.log2_lt (by omega)).mpr (by omega)
    omega
theorem bl_ge {x : Int} (m : Nat) (h : (2 : Int) ^ m ≤ x) : (m : Int) + 1 ≤ bl x := by
  have hn : (2 : Int) ^ m = ((2 ^ m : Nat) : Int) := by simp
  have hp : 0 < 2 ^ m := Nat.pow_pos (by decide)
  unfold bl
  rw [if_neg (by omega)]
  have : m ≤ Nat.log2 x.toNat := (Nat.le_log2 (by omega)).mpr (by omega)
  omega
theorem bl_hi {w : Int} (h : 0 < w / 4294967296) : bl w = bl (w / 4294967296) + 32 := by
  have hw : 0 < w := by omega
  have key : ∀ m : Nat, (2 : Int) ^ m ≤ w / 4294967296 → w / 4294967296 < (2 : Int) ^ (m + 1) → bl w = m + 33 := by
    intro m h1 h2
    have e1 : (2 : Int) ^ (m + 32) = (2 : Int) ^ m * 4294967296 := by rw [Int.pow_add]; rfl
    have e2 : (2 : Int) ^ (m + 33) = (2 : Int) ^ (m + 1) * 4294967296 := by rw [show m + 33 = (m + 1) + 32 by omega, Int.pow_add]; rfl
    have a1 := bl_ge (x := w) (m + 32) (by rw [e1]; omega)
    have a2 := bl_le (x := w) (m + 33) (by rw [e2]; omega)
    omega
  have hn := Nat.log2_self_le (n := (w / 4294967296).toNat) (by omega)
  have hn2 := Nat.lt_log2_self (n := (w / 4294967296).toNat)
  have e3 := key (Nat.log2 (w / 4294967296).toNat) (by
    have : (2 : Int) ^ (Nat.log2 (w / 4294967296).toNat) = ((2 ^ (Nat.log2 (w / 4294967296).toNat) : Nat) : Int) := by simp
    omega) (by
    have : (2 : Int) ^ (Nat.log2 (w / 4294967296).toNat + 1) = ((2 ^ (Nat.log2 (w / 4294967296).toNat + 1) : Nat) : Int) := by simp
    omega)
  rw [e3]
  unfold bl
  rw [if_neg (by omega)]
  omega
theorem tz_lo {t : Nat} (a : Nat) {A : Int} (hA : (2 : Int) ^ a = A) (h : A ≤ 2 ^ t - 1) : a < t := by
  rcases Nat.lt_or_ge a t with g | g
  · exact g
  · have : (2 : Int) ^ t ≤ 2 ^ a := p2le g
    omega
theorem tz_hi {t : Nat} (b : Nat) {B : Int} (hB : (2 : Int) ^ b = B) (h : (2 : Int) ^ t - 1 < B) : t ≤ b := by
  rcases Nat.lt_or_ge b t with g | g
  · have h1 : (2 : Int) ^ (b + 1) ≤ 2 ^ t := p2le g
    have h2 : (2 : Int) ^ (b + 1) = 2 ^ b * 2 := Int.pow_succ ..
    have h3 : (0 : Int) < 2 ^ b := Int.pow_pos (by decide)
    omega
  · exact g
