theorem okL_getD {l : List Int} (h : okL l) (k : Nat) : -1 ≤ l.getD k (-1) ∧ l.getD k (-1) ≤ 7 := by
  rw [List.getD_eq_getElem?_getD]
  cases e : l[k]? with
  | none => simp
  | some x => have := h x (List.mem_of_getElem? e); simp; omega
theorem foldl_tk (f : Int → Int → Int) (a : Int) {l : List Int} {k : Int} (h0 : 0 ≤ k) (h1 : k < l.length) : (l.take (k + 1).toNat).foldl f a = f ((l.take k.toNat).foldl f a) (l.getD k.toNat (-1)) := by
  rw [show (k + 1).toNat = k.toNat + 1 by omega, List.take_add_one, List.foldl_append, List.getD_eq_getElem?_getD, List.getElem?_eq_getElem (by omega)]
  rfl
