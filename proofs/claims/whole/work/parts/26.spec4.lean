theorem if0 {P : Prop} [Decidable P] (h : (if P then (1 : Int) else 0) = 0) : ¬ P := fun p => by rw [if_pos p] at h; omega
theorem ifn0 {P : Prop} [Decidable P] (h : ¬ (if P then (1 : Int) else 0) = 0) : P := Decidable.byContradiction fun p => h (if_neg p)
theorem if01 {P : Prop} [Decidable P] : rI (if P then (1 : Int) else 0) := by split <;> omega
theorem if01z {P : Prop} [Decidable P] : (if P then (1 : Int) else 0) = 0 ∨ (if P then (1 : Int) else 0) = 1 := by split <;> omega
theorem ml_len (st : Int → Int) : ∀ n : Nat, (ml st n).length ≤ n := by
  intro n
  induction n with
  | zero => simp [ml]
  | succ n ih =>
    simp only [ml, List.length_append]
    by_cases e : st (14 * (n : Int)) = 1
    · rw [if_pos e]; simp; omega
    · rw [if_neg e]; simp; omega
theorem nsc_in (kd had us la t : Int) (h : 0 ≤ had ∧ had ≤ 1000) : 0 ≤ nsc kd had us la t ∧ nsc kd had us la t ≤ 1000 := by
  unfold nsc hld
  split
  · exact h
  · split
    · omega
    · split
      · split <;> omega
      · split
        · omega
        · split <;> omega
