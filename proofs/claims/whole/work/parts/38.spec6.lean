theorem dr1_yes {o : Bo} {d c x2 : Int} {w : List Int} (h : drL (nxt d / 65536 % 5 + 1).toNat (nxt d) = (w, x2)) (h1 : hasB o w = false) (h2 : roomB o = true) : dr1 (o, d, c) = (addB o w (nxt x2 / 65536 % 1001) (nxt x2 / 1024 % 10), nxt x2, c + 1) := by
  simp only [dr1, h]
  rw [if_pos ⟨h1, h2⟩]
theorem dr1_no {o : Bo} {d c x2 : Int} {w : List Int} (h : drL (nxt d / 65536 % 5 + 1).toNat (nxt d) = (w, x2)) (h1 : ¬ (hasB o w = false ∧ roomB o = true)) : dr1 (o, d, c) = (o, nxt x2, c) := by
  simp only [dr1, h]
  rw [if_neg h1]
