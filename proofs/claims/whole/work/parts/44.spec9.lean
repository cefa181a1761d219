theorem fo_c' {c : Ph → Bool} : ∀ (b : List Ph) (o : Option Ph), (∀ x, o = some x → c x = true) → ∀ x, b.foldl (fo1d c) o = some x → c x = true := by
  intro b
  induction b with
  | nil => intro o h x hx; exact h x hx
  | cons y b ih =>
    intro o h x hx
    refine ih (fo1d c o y) (fun z hz => ?_) x hx
    unfold fo1d at hz
    split at hz
    · split at hz
      · cases hz; assumption
      · cases hz
    · split at hz
      · cases hz; rename_i hh; exact hh.1
      · cases hz; exact h _ rfl
theorem fo_c {c : Ph → Bool} {b : List Ph} {x : Ph} (h : fo c b = some x) : c x = true := fo_c' b none (fun _ h => by cases h) x h
theorem kys_pos (x : Ph) : ∀ (b : List Ph) (n : Int), 0 ≤ n → 0 ≤ b.foldl (kys1 x) n := by
  intro b
  induction b with
  | nil => intro n h; exact h
  | cons y b ih =>
    intro n h
    refine ih _ ?_
    unfold kys1
    split <;> omega
theorem kys_in (b : List Ph) (x : Ph) : -1 ≤ kys b x ∧ kys b x ≤ x.2.1.length := by
  have := kys_pos x b 0 (by omega)
  unfold kys
  split <;> omega
