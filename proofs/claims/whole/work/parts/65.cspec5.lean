theorem kfl_mem {me so : Int → Int} : ∀ {n : Nat} {s : Int}, s ∈ kfl me so n → ∃ j : Int, 0 ≤ j ∧ j < n ∧ s = so j := by
  intro n
  induction n with
  | zero => intro s h; simp [kfl] at h
  | succ n ih =>
    intro s h
    simp only [kfl, List.mem_append] at h
    rcases h with h | h
    · obtain ⟨j, j0, j1, j2⟩ := ih h
      exact ⟨j, j0, by omega, j2⟩
    · split at h
      · exact ⟨n, by omega, by omega, by simpa using h⟩
      · simp at h
