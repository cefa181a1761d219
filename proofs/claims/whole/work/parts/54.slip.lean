/-! ===== one slip: by the first place that differs ===== -/
theorem cp_take : ∀ l m : List Int, l.take (cp l m) = m.take (cp l m) := by
  intro l
  induction l with
  | nil => intro m; simp [cp]
  | cons a l ih =>
    intro m
    cases m with
    | nil => simp [cp]
    | cons b m =>
      simp only [cp]
      by_cases e : a = b
      · rw [if_pos e, List.take_succ_cons, List.take_succ_cons, ih m, e]
      · rw [if_neg e]; rfl
theorem cp_min : ∀ (n : Nat) (l m : List Int), cp (l.take n) m = min n (cp l m) := by
  intro n
  induction n with
  | zero => intro l m; simp [cp]
  | succ n ih =>
    intro l m
    cases l with
    | nil => simp [cp]
    | cons a l =>
      cases m with
      | nil => simp [cp]
      | cons b m =>
        rw [List.take_succ_cons]
        simp only [cp]
        by_cases e : a = b
        · rw [if_pos e, if_pos e, ih]; omega
        · rw [if_neg e, if_neg e]; omega
theorem cp_comm : ∀ l m : List Int, cp l m = cp m l := by
  intro l
  induction l with
  | nil => intro m; cases m <;> simp [cp]
  | cons a l ih =>
    intro m
    cases m with
    | nil => simp [cp]
    | cons b m =>
      simp only [cp]
      by_cases e : a = b
      · rw [if_pos e, if_pos e.symm, ih]
      · rw [if_neg e, if_neg (fun z => e z.symm)]
theorem bgs_cp {t w : List Int} : bgs t w = true ↔ cp w t = t.length := by
  unfold bgs
  rw [beq_iff_eq]
  constructor
  · intro h
    have h1 := cp_min t.length w t
    rw [h, cp_self] at h1
    have h2 := cp_le w t
    omega
  · intro h
    have := cp_take w t
    rw [h, List.take_length] at this
    exact this
theorem drop_erase {l : List Int} {k : Nat} (h : k ≤ l.length) : (l.eraseIdx k).drop k = l.drop (k + 1) := by
  rw [List.eraseIdx_eq_take_drop_succ, List.drop_left' (by rw [List.length_take]; omega)]
theorem slp_iff {t w : List Int} (hb : ¬ bgs t w = true) : (∃ n : Nat, n ≤ w.length ∧ bec (w.take n) t = true) ↔ (t.eraseIdx (cp w t) = w.take (t.length - 1) ∨ t = (w.take (t.length + 1)).eraseIdx (cp w t) ∨ t.eraseIdx (cp w t) = (w.take t.length).eraseIdx (cp w t)) := by
  have hl := cp_le w t
  have hk : cp w t < t.length := by
    have : cp w t ≠ t.length := fun e => hb (bgs_cp.mpr e)
    omega
  have ht := cp_take w t
  have hmin := fun n => cp_min n w t
  generalize hkk : cp w t = k at *
  have takew : ∀ n, k ≤ n → (w.take n).take k = t.take k := fun n h => by rw [List.take_take, Nat.min_eq_left h, ht]
  constructor
  · rintro ⟨n, hn, h⟩
    unfold bec at h
    rw [List.length_take, Nat.min_eq_left hn, hmin n] at h
    by_cases h1 : t.length = n
    · rw [if_pos h1, Nat.min_eq_right (by omega), Bool.and_eq_true, beq_iff_eq] at h
      refine Or.inr (Or.inr ?_)
      rw [List.eraseIdx_eq_take_drop_succ, List.eraseIdx_eq_take_drop_succ, h1, takew n (by omega), h.2]
    · rw [if_neg h1] at h
      by_cases h2 : t.length = n + 1
      · rw [if_pos h2, Nat.min_eq_right (by omega), beq_iff_eq] at h
        refine Or.inl ?_
        rw [show t.length - 1 = n by omega, List.eraseIdx_eq_take_drop_succ, ← h, ← takew n (by omega), List.take_append_drop]
      · rw [if_neg h2] at h
        by_cases h3 : t.length + 1 = n
        · rw [if_pos h3, Nat.min_eq_right (by omega), beq_iff_eq] at h
          refine Or.inr (Or.inl ?_)
          rw [List.eraseIdx_eq_take_drop_succ, h3, takew n (by omega), h, List.take_append_drop]
        · rw [if_neg h3] at h
          simp at h
  · have caseA : t.eraseIdx k = w.take (t.length - 1) → ∃ n : Nat, n ≤ w.length ∧ bec (w.take n) t = true := by
      intro h
      have h2 := congrArg List.length h
      rw [List.length_eraseIdx_of_lt hk, List.length_take] at h2
      refine ⟨t.length - 1, by omega, ?_⟩
      unfold bec
      rw [List.length_take, Nat.min_eq_left (by omega), hmin, Nat.min_eq_right (by omega), if_neg (by omega), if_pos (by omega), beq_iff_eq, ← h, List.eraseIdx_eq_take_drop_succ, List.drop_append_of_le_length (by rw [List.length_take]; omega), List.drop_of_length_le (by rw [List.length_take]; omega), List.nil_append]
    intro h
    rcases h with h | h | h
    · exact caseA h
    · have h2 := congrArg List.length h
      have hkw : k < (w.take (t.length + 1)).length := by
        rcases Nat.lt_or_ge k (w.take (t.length + 1)).length with g | g
        · exact g
        · rw [List.eraseIdx_of_length_le g] at h2
          rw [List.length_take] at h2 g
          omega
      rw [List.length_eraseIdx_of_lt hkw, List.length_take] at h2
      refine ⟨t.length + 1, by omega, ?_⟩
      unfold bec
      rw [List.length_take, Nat.min_eq_left (by omega), hmin, Nat.min_eq_right (by omega), if_neg (by omega), if_neg (by omega), if_pos rfl, beq_iff_eq]
      have h3 := congrArg (List.drop k) h
      rw [drop_erase (by omega)] at h3
      exact h3.symm
    · have h2 := congrArg List.length h
      rw [List.length_eraseIdx_of_lt hk] at h2
      by_cases hw : t.length ≤ w.length
      · refine ⟨t.length, hw, ?_⟩
        have hlen : (w.take t.length).length = t.length := by rw [List.length_take]; omega
        unfold bec
        rw [hlen, if_pos rfl, hmin, Nat.min_eq_right (by omega), Bool.and_eq_true, beq_iff_eq]
        refine ⟨by simp; omega, ?_⟩
        have h3 := congrArg (List.drop k) h
        rw [drop_erase (by omega), drop_erase (by omega)] at h3
        exact h3.symm
      · rw [List.take_of_length_le (by omega)] at h h2
        rcases Nat.lt_or_ge k w.length with g | g
        · rw [List.length_eraseIdx_of_lt g] at h2; omega
        · rw [List.eraseIdx_of_length_le g] at h h2
          exact caseA (by rw [h, List.take_of_length_le (by omega)])
