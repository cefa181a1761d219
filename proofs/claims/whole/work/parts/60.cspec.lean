/-! ===== the class's book as a list of phrases ===== -/
def atP (b : List Ph) (j : Int) : Ph := b.getD j.toNat (0, [], 0, 0, 0, 0)
def okP (U gv : Int) (x : Ph) : Prop := okL x.2.1 ∧ (1 ≤ x.2.1.length ∧ x.2.1.length ≤ 8) ∧ (0 ≤ x.1 ∧ x.1 < gv) ∧ (0 ≤ x.2.2.1 ∧ x.2.2.1 ≤ 1000) ∧ (0 ≤ x.2.2.2.1 ∧ x.2.2.2.1 ≤ 9) ∧ (0 ≤ x.2.2.2.2.1 ∧ x.2.2.2.2.1 ≤ U) ∧ (-1 ≤ x.2.2.2.2.2 ∧ x.2.2.2.2.2 ≤ 9999)
def okO (U : Int) (o : Bo) : Prop := o.1.length ≤ 40 ∧ (0 ≤ o.2.1 ∧ o.2.1 ≤ 200) ∧ (0 ≤ o.2.2.1 ∧ o.2.2.1 ≤ 4) ∧ (0 ≤ o.2.2.2 ∧ o.2.2.2 ≤ 1000) ∧ (0 ≤ U ∧ U ≤ 1000000) ∧ (∀ x ∈ o.1, okP U o.2.1 x) ∧ o.1.Pairwise (fun x y => x.1 < y.1) ∧ o.1.Pairwise (fun x y => x.2.1 ≠ y.2.1)
def sixP (nu wo sc me us la : Int → Int) (j : Int) (x : Ph) : Prop := nu j = x.1 ∧ wo j = ((pck x.2.1 : Nat) : Int) ∧ sc j = x.2.2.1 ∧ me j = x.2.2.2.1 ∧ us j = x.2.2.2.2.1 ∧ la j = x.2.2.2.2.2
def rpB (U : Int) (nu wo sc me us la : Int → Int) (ct gv kd sl : Int) (o : Bo) : Prop := okO U o ∧ ct = o.1.length ∧ gv = o.2.1 ∧ kd = o.2.2.1 ∧ sl = o.2.2.2 ∧ ∀ j, 0 ≤ j → j < ct → sixP nu wo sc me us la j (atP o.1 j)
theorem atP_mem {b : List Ph} {j : Int} (h0 : 0 ≤ j) (h1 : j < b.length) : atP b j ∈ b := by
  unfold atP
  rw [List.getD_eq_getElem?_getD, List.getElem?_eq_getElem (by omega), Option.getD_some]
  exact List.getElem_mem _
theorem atP_get {b : List Ph} {j : Int} (h0 : 0 ≤ j) (h1 : j < b.length) : b[j.toNat]? = some (atP b j) := by
  unfold atP
  rw [List.getD_eq_getElem?_getD, List.getElem?_eq_getElem (by omega), Option.getD_some]
theorem mem_atP {b : List Ph} {x : Ph} (h : x ∈ b) : ∃ j : Int, 0 ≤ j ∧ j < b.length ∧ atP b j = x := by
  obtain ⟨i, hi⟩ := List.getElem?_of_mem h
  have hl := (List.getElem?_eq_some_iff.mp hi).1
  refine ⟨i, by omega, by omega, ?_⟩
  unfold atP
  rw [List.getD_eq_getElem?_getD, Int.toNat_natCast, hi]; rfl
section RPB
variable {U : Int} {nu wo sc me us la : Int → Int} {ct gv kd sl : Int} {o : Bo}
theorem rpB.xct (h : rpB U nu wo sc me us la ct gv kd sl o) : (0 ≤ ct ∧ ct ≤ 40) ∧ ct = o.1.length := ⟨⟨by have := h.2.1; omega, by have := h.2.1; have := h.1.1; omega⟩, h.2.1⟩
theorem rpB.xgv (h : rpB U nu wo sc me us la ct gv kd sl o) : (0 ≤ gv ∧ gv ≤ 200) ∧ gv = o.2.1 := ⟨by rw [h.2.2.1]; exact h.1.2.1, h.2.2.1⟩
theorem rpB.xkd (h : rpB U nu wo sc me us la ct gv kd sl o) : (0 ≤ kd ∧ kd ≤ 4) ∧ kd = o.2.2.1 := ⟨by rw [h.2.2.2.1]; exact h.1.2.2.1, h.2.2.2.1⟩
theorem rpB.xsl (h : rpB U nu wo sc me us la ct gv kd sl o) : (0 ≤ sl ∧ sl ≤ 1000) ∧ sl = o.2.2.2 := ⟨by rw [h.2.2.2.2.1]; exact h.1.2.2.2.1, h.2.2.2.2.1⟩
theorem rpB.six (h : rpB U nu wo sc me us la ct gv kd sl o) (j : Int) (h0 : 0 ≤ j) (h1 : j < ct) : sixP nu wo sc me us la j (atP o.1 j) := h.2.2.2.2.2 j h0 h1
theorem rpB.okP (h : rpB U nu wo sc me us la ct gv kd sl o) (j : Int) (h0 : 0 ≤ j) (h1 : j < ct) : okP U o.2.1 (atP o.1 j) := h.1.2.2.2.2.2.1 _ (atP_mem h0 (by have := h.2.1; omega))
theorem rpB.xnu (h : rpB U nu wo sc me us la ct gv kd sl o) (j : Int) (h0 : 0 ≤ j) (h1 : j < ct) : (0 ≤ nu j ∧ nu j < 200) ∧ nu j = (atP o.1 j).1 := by
  have e := (h.six j h0 h1).1
  have := (h.okP j h0 h1).2.2.1
  have := h.xgv
  exact ⟨by omega, e⟩
theorem rpB.xsc (h : rpB U nu wo sc me us la ct gv kd sl o) (j : Int) (h0 : 0 ≤ j) (h1 : j < ct) : (0 ≤ sc j ∧ sc j ≤ 1000) ∧ sc j = (atP o.1 j).2.2.1 := by
  have e := (h.six j h0 h1).2.2.1
  have := (h.okP j h0 h1).2.2.2.1
  exact ⟨by omega, e⟩
theorem rpB.xme (h : rpB U nu wo sc me us la ct gv kd sl o) (j : Int) (h0 : 0 ≤ j) (h1 : j < ct) : (0 ≤ me j ∧ me j ≤ 9) ∧ me j = (atP o.1 j).2.2.2.1 := by
  have e := (h.six j h0 h1).2.2.2.1
  have := (h.okP j h0 h1).2.2.2.2.1
  exact ⟨by omega, e⟩
theorem rpB.xus (h : rpB U nu wo sc me us la ct gv kd sl o) (j : Int) (h0 : 0 ≤ j) (h1 : j < ct) : (0 ≤ us j ∧ us j ≤ U ∧ U ≤ 1000000) ∧ us j = (atP o.1 j).2.2.2.2.1 := by
  have e := (h.six j h0 h1).2.2.2.2.1
  have := (h.okP j h0 h1).2.2.2.2.2.1
  have := h.1.2.2.2.2.1
  exact ⟨by omega, e⟩
theorem rpB.xla (h : rpB U nu wo sc me us la ct gv kd sl o) (j : Int) (h0 : 0 ≤ j) (h1 : j < ct) : (-1 ≤ la j ∧ la j ≤ 9999) ∧ la j = (atP o.1 j).2.2.2.2.2 := by
  have e := (h.six j h0 h1).2.2.2.2.2
  have := (h.okP j h0 h1).2.2.2.2.2.2
  exact ⟨by omega, e⟩
theorem rpB.xwo (h : rpB U nu wo sc me us la ct gv kd sl o) (j : Int) (h0 : 0 ≤ j) (h1 : j < ct) : wo j = ((pck (atP o.1 j).2.1 : Nat) : Int) ∧ okL (atP o.1 j).2.1 ∧ 1 ≤ (atP o.1 j).2.1.length ∧ (atP o.1 j).2.1.length ≤ 8 := ⟨(h.six j h0 h1).2.1, (h.okP j h0 h1).1, (h.okP j h0 h1).2.1.1, (h.okP j h0 h1).2.1.2⟩
theorem rpB.rL (h : rpB U nu wo sc me us la ct gv kd sl o) (j : Int) (h0 : 0 ≤ j) (h1 : j < ct) : rL (wo j) := by
  obtain ⟨e, h2, h3, h4⟩ := h.xwo j h0 h1
  have := pck_b h2 (by omega)
  omega
theorem rpB.lt (h : rpB U nu wo sc me us la ct gv kd sl o) (i j : Int) (h0 : 0 ≤ i) (h1 : i < j) (h2 : j < ct) : nu i < nu j := by
  rw [(h.xnu i h0 (by omega)).2, (h.xnu j (by omega) h2).2]
  have hl := h.2.1
  have hp := List.pairwise_iff_getElem.mp h.1.2.2.2.2.2.2.1 i.toNat j.toNat (by omega) (by omega) (by omega)
  have e1 := atP_get (b := o.1) h0 (by omega)
  have e2 := atP_get (b := o.1) (j := j) (by omega) (by omega)
  rw [List.getElem?_eq_getElem (by omega)] at e1 e2
  rw [← Option.some.inj e1, ← Option.some.inj e2]
  exact hp
theorem rpB.find (h : rpB U nu wo sc me us la ct gv kd sl o) {p r : Int} (hr : (r = -1 ∧ ∀ j, 0 ≤ j → j < ct → nu j ≠ p) ∨ (0 ≤ r ∧ r < ct ∧ nu r = p)) : (r = -1 ∧ fnd o p = none) ∨ (0 ≤ r ∧ r < ct ∧ nu r = p ∧ fnd o p = some (atP o.1 r)) := by
  rcases hr with ⟨h1, h2⟩ | ⟨h1, h2, h3⟩
  · refine Or.inl ⟨h1, ?_⟩
    unfold fnd
    rw [List.find?_eq_none]
    intro x hx
    obtain ⟨j, j0, j1, rfl⟩ := mem_atP hx
    have := h2 j j0 (by rw [h.2.1]; exact j1)
    rw [(h.xnu j j0 (by rw [h.2.1]; exact j1)).2] at this
    simpa using this
  · refine Or.inr ⟨h1, h2, h3, ?_⟩
    unfold fnd
    have hm := atP_mem (b := o.1) h1 (by have := h.2.1; omega)
    cases hf : List.find? (fun y => y.1 == p) o.1 with
    | none =>
      have := List.find?_eq_none.mp hf _ hm
      rw [← (h.xnu r h1 h2).2, h3] at this
      simp at this
    | some x =>
      have g1 := List.find?_some hf
      have g2 := List.mem_of_find?_eq_some hf
      obtain ⟨j, j0, j1, rfl⟩ := mem_atP g2
      have jc : j < ct := by rw [h.2.1]; exact j1
      have g3 : nu j = p := by rw [(h.xnu j j0 jc).2]; simpa using g1
      have : j = r := by
        rcases Int.lt_trichotomy j r with g | g | g
        · have := h.lt j r j0 g h2; omega
        · exact g
        · have := h.lt r j h1 g jc; omega
      rw [this]
theorem rpB.has (h : rpB U nu wo sc me us la ct gv kd sl o) {w : List Int} {r : Int} (hw : okL w) (hr : (r = -1 ∧ ∀ j, 0 ≤ j → j < ct → wo j ≠ ((pck w : Nat) : Int)) ∨ (0 ≤ r ∧ r < ct ∧ wo r = ((pck w : Nat) : Int))) : (r = -1 ∧ hasB o w = false) ∨ (0 ≤ r ∧ r < ct ∧ hasB o w = true ∧ (atP o.1 r).2.1 = w) := by
  rcases hr with ⟨h1, h2⟩ | ⟨h1, h2, h3⟩
  · refine Or.inl ⟨h1, ?_⟩
    unfold hasB
    rw [Bool.eq_false_iff]
    intro z
    rw [List.any_eq_true] at z
    obtain ⟨x, hx, e⟩ := z
    obtain ⟨j, j0, j1, rfl⟩ := mem_atP hx
    have := h2 j j0 (by rw [h.2.1]; exact j1)
    rw [(h.xwo j j0 (by rw [h.2.1]; exact j1)).1, show (atP o.1 j).2.1 = w by simpa using e] at this
    exact this rfl
  · obtain ⟨e, g2, g3, g4⟩ := h.xwo r h1 h2
    have ew : (atP o.1 r).2.1 = w := pck_inj g2 hw (by omega)
    refine Or.inr ⟨h1, h2, ?_, ew⟩
    unfold hasB
    rw [List.any_eq_true]
    exact ⟨_, atP_mem h1 (by have := h.2.1; omega), by simpa using ew⟩
end RPB
theorem tk_s {b : List Ph} {i : Int} (h0 : 0 ≤ i) (h1 : i < b.length) : b.take (i + 1).toNat = b.take i.toNat ++ [atP b i] := by
  rw [show (i + 1).toNat = i.toNat + 1 by omega, List.take_add_one, atP_get h0 h1]; rfl
theorem tk_all {b : List Ph} {i : Int} (h : i = b.length) : b.take i.toNat = b := List.take_of_length_le (by omega)
theorem fold_tk {α : Type} (f : α → Ph → α) (a : α) {b : List Ph} {i : Int} (h0 : 0 ≤ i) (h1 : i < b.length) : (b.take (i + 1).toNat).foldl f a = f ((b.take i.toNat).foldl f a) (atP b i) := by
  rw [tk_s h0 h1, List.foldl_append]; rfl
theorem fil_tk (c : Ph → Bool) {b : List Ph} {i : Int} (h0 : 0 ≤ i) (h1 : i < b.length) : (((b.take (i + 1).toNat).filter c).length : Int) = ((b.take i.toNat).filter c).length + (if c (atP b i) = true then 1 else 0) := by
  rw [tk_s h0 h1, List.filter_append, List.length_append]
  by_cases e : c (atP b i) = true
  · rw [if_pos e]; simp [e]
  · rw [if_neg e]; simp [e]
theorem hld_id {x : Int} (h : 0 ≤ x ∧ x ≤ 1000) : hld x = x := by unfold hld; omega
