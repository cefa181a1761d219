theorem ml_len (st : Int → Int) : ∀ n : Nat, (ml st n).length ≤ n := by
  intro n
  induction n with
  | zero => simp [ml]
  | succ n ih =>
    simp only [ml, List.length_append]
    by_cases e : st (14 * (n : Int)) = 1
    · rw [if_pos e]; simp; omega
    · rw [if_neg e]; simp; omega
theorem nsc_in (kd had us la t : Int) (h : 0 ≤ had ∧ had ≤ 1000) : 0 ≤ nsc kd had us la t ∧ nsc kd had us la t ≤ 1000 := by
  unfold nsc hld
  split
  · exact h
  · split
    · omega
    · split
      · split <;> omega
      · split
        · omega
        · split <;> omega
