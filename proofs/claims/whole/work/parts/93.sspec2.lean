/-! ===== doing the class's orders ===== -/
def rAt (L : List Or3) (i : Int) : Or3 := L.getD i.toNat (0, [], 0, 0)
theorem rAt_get {L : List Or3} {i : Int} (h0 : 0 ≤ i) (h1 : i < L.length) : L[i.toNat]? = some (rAt L i) := by
  unfold rAt
  rw [List.getD_eq_getElem?_getD, List.getElem?_eq_getElem (by omega), Option.getD_some]
theorem rAt_mem {L : List Or3} {i : Int} (h0 : 0 ≤ i) (h1 : i < L.length) : rAt L i ∈ L := List.mem_of_getElem? (rAt_get h0 h1)
theorem rAt_fold {α : Type} (f : α → Or3 → α) (a : α) {L : List Or3} {i : Int} (h0 : 0 ≤ i) (h1 : i < L.length) : (L.take (i + 1).toNat).foldl f a = f ((L.take i.toNat).foldl f a) (rAt L i) := by
  rw [show (i + 1).toNat = i.toNat + 1 by omega, List.take_add_one, rAt_get h0 h1, List.foldl_append]; rfl
theorem cor_at {L : List Or3} {ve ow fi se : Int → Int} (h : cor L ve ow fi se) {i : Int} (h0 : 0 ≤ i) (h1 : i < L.length) : ve i = (rAt L i).1 - 1 ∧ ow i = ((pck (rAt L i).2.1 : Nat) : Int) ∧ fi i = (rAt L i).2.2.1 ∧ se i = (rAt L i).2.2.2 := by
  have := h i.toNat _ (rAt_get h0 h1)
  rw [Int.toNat_of_nonneg h0] at this
  exact this
theorem dO_ck (o : Bo) {c : Int} (n : Int) (r : Or3) (h : 0 ≤ c ∧ c ≤ 9999) : 0 ≤ (dO (o, c, n) r).2.1 ∧ (dO (o, c, n) r).2.1 ≤ 9999 := by
  have ht : 0 ≤ tick c ∧ tick c ≤ 9999 := by unfold tick; omega
  unfold dO
  simp only
  cases fw o r.2.1 with
  | none => repeat' split
            all_goals first | exact h | exact ht | (simp; exact h)
  | some y => repeat' split
              all_goals first | exact h | exact ht
