/-! ===== words packed, four bits a letter ===== -/
def pk : List Int → Nat
  | [] => 0
  | x :: l => (x + 1).toNat + 16 * pk l
def okL (l : List Int) : Prop := ∀ x ∈ l, 0 ≤ x ∧ x ≤ 7
theorem okL.tail {x : Int} {l : List Int} (h : okL (x :: l)) : okL l := fun y hy => h y (List.mem_cons_of_mem _ hy)
theorem okL.head {x : Int} {l : List Int} (h : okL (x :: l)) : 0 ≤ x ∧ x ≤ 7 := h x List.mem_cons_self
theorem okL.take {l : List Int} (h : okL l) (n : Nat) : okL (l.take n) := fun y hy => h y (List.mem_of_mem_take hy)
theorem okL.drop {l : List Int} (h : okL l) (n : Nat) : okL (l.drop n) := fun y hy => h y (List.mem_of_mem_drop hy)
theorem okL.erase {l : List Int} (h : okL l) (n : Nat) : okL (l.eraseIdx n) := fun y hy => h y (List.mem_of_mem_eraseIdx hy)
theorem okL.app {l m : List Int} (h : okL l) (h2 : okL m) : okL (l ++ m) := fun y hy => (List.mem_append.mp hy).elim (h y) (h2 y)
theorem pk_lt : ∀ {l : List Int}, okL l → pk l < 16 ^ l.length := by
  intro l
  induction l with
  | nil => intro _; simp [pk]
  | cons x l ih =>
    intro h
    have h1 := ih h.tail
    have h2 := h.head
    simp only [pk, List.length_cons, Nat.pow_succ]
    omega
theorem pk_ge : ∀ {l : List Int}, okL l → l ≠ [] → 16 ^ (l.length - 1) ≤ pk l := by
  intro l
  induction l with
  | nil => intro _ h; exact absurd rfl h
  | cons x l ih =>
    intro h _
    have h2 := h.head
    simp only [pk, List.length_cons, Nat.add_sub_cancel]
    cases l with
    | nil => simp; omega
    | cons y l =>
      have h1 := ih h.tail (by simp)
      simp only [List.length_cons, Nat.add_sub_cancel] at h1 ⊢
      rw [Nat.pow_succ]
      omega
theorem pk_app : ∀ (l m : List Int), pk (l ++ m) = pk l + 16 ^ l.length * pk m := by
  intro l m
  induction l with
  | nil => simp [pk]
  | cons x l ih =>
    simp only [List.cons_append, pk, List.length_cons, ih, Nat.pow_succ, Nat.mul_add]
    rw [show 16 ^ l.length * 16 * pk m = 16 * (16 ^ l.length * pk m) by rw [Nat.mul_comm (16 ^ l.length) 16, Nat.mul_assoc]]
    omega
theorem pk_split (l : List Int) (n : Nat) (h : n ≤ l.length) : pk l = pk (l.take n) + 16 ^ n * pk (l.drop n) := by
  have := pk_app (l.take n) (l.drop n)
  rwa [List.take_append_drop, List.length_take, Nat.min_eq_left h] at this
theorem pk_take {l : List Int} (h : okL l) (n : Nat) : pk (l.take n) = pk l % 16 ^ n := by
  by_cases hn : n ≤ l.length
  · rw [pk_split l n hn, Nat.add_mul_mod_self_left, Nat.mod_eq_of_lt]
    have := pk_lt (h.take n)
    rwa [List.length_take, Nat.min_eq_left hn] at this
  · rw [List.take_of_length_le (by omega), Nat.mod_eq_of_lt]
    exact Nat.lt_of_lt_of_le (pk_lt h) (Nat.pow_le_pow_right (by decide) (by omega))
theorem pk_drop {l : List Int} (h : okL l) (n : Nat) : pk (l.drop n) = pk l / 16 ^ n := by
  by_cases hn : n ≤ l.length
  · have h2 := pk_lt (h.take n)
    rw [List.length_take, Nat.min_eq_left hn] at h2
    rw [pk_split l n hn, Nat.add_mul_div_left _ _ (Nat.pow_pos (by decide)), Nat.div_eq_of_lt h2, Nat.zero_add]
  · rw [List.drop_of_length_le (by omega), Nat.div_eq_of_lt]
    · rfl
    · exact Nat.lt_of_lt_of_le (pk_lt h) (Nat.pow_le_pow_right (by decide) (by omega))
theorem pk_inj : ∀ {l m : List Int}, okL l → okL m → pk l = pk m → l = m := by
  intro l
  induction l with
  | nil =>
    intro m _ hm e
    cases m with
    | nil => rfl
    | cons y m => have := hm.head; simp only [pk] at e; omega
  | cons x l ih =>
    intro m hl hm e
    cases m with
    | nil => have := hl.head; simp only [pk] at e; omega
    | cons y m =>
      have h1 := hl.head
      have h2 := hm.head
      simp only [pk] at e
      have e1 : x = y := by omega
      have e2 : pk l = pk m := by omega
      rw [e1, ih hl.tail hm.tail e2]
theorem pk_dig {l : List Int} (h : okL l) (k : Nat) : ((pk l / 16 ^ k % 16 : Nat) : Int) = l.getD k (-1) + 1 := by
  rw [← pk_drop h k, List.getD_eq_getElem?_getD, ← Nat.add_zero k, ← List.getElem?_drop, Nat.add_zero]
  cases e : l.drop k with
  | nil => simp [pk]
  | cons y m =>
    have h1 : 0 ≤ y ∧ y ≤ 7 := by have := h.drop k; rw [e] at this; exact this.head
    simp only [pk, List.getElem?_cons_zero, Option.getD_some]
    omega
theorem pk_erase {l : List Int} (h : okL l) (k : Nat) : pk (l.eraseIdx k) = pk l % 16 ^ k + 16 ^ k * (pk l / 16 ^ (k + 1)) := by
  rw [List.eraseIdx_eq_take_drop_succ, pk_app, pk_take h, pk_drop h, List.length_take]
  by_cases hk : k ≤ l.length
  · rw [Nat.min_eq_left hk]
  · have : pk l / 16 ^ (k + 1) = 0 := Nat.div_eq_of_lt (Nat.lt_of_lt_of_le (pk_lt h) (Nat.pow_le_pow_right (by decide) (by omega)))
    rw [this, Nat.mul_zero, Nat.mul_zero]
theorem p16 (n : Nat) : 16 ^ n = 2 ^ (4 * n) := by rw [Nat.pow_mul]
theorem p16i (n : Nat) : ((16 ^ n : Nat) : Int) = 2 ^ (4 * n) := by rw [p16, p2n]
theorem pk_len {l : List Int} (h : okL l) (hl : l.length ≤ 13) : (bl (pk l : Int) + 3) / 4 = l.length := by
  cases e : l with
  | nil => simp [pk, bl]
  | cons x m =>
    have hne : l ≠ [] := by rw [e]; simp
    have h1 := pk_ge h hne
    have h2 := pk_lt h
    have hpos : 0 < l.length := by rw [e]; simp
    rw [p16] at h1 h2
    have a1 := bl_ge (x := (pk l : Int)) (4 * (l.length - 1)) (by rw [p2n]; omega)
    have a2 := bl_le (x := (pk l : Int)) (4 * l.length) (by rw [p2n]; omega)
    rw [← e]
    omega
theorem pk_b {l : List Int} (h : okL l) (hl : l.length ≤ 13) : pk l < 4503599627370496 := by
  have := pk_lt h
  have h2 : 16 ^ l.length ≤ 16 ^ 13 := Nat.pow_le_pow_right (by decide) hl
  omega
/-- the first place where two words differ, as a power of two -/
theorem pk_xor {l m : List Int} (hl : okL l) (hm : okL m) (hne : l ≠ m) : ∃ (t q : Nat), pk l ^^^ pk m = 2 ^ t * (2 * q + 1) ∧ t / 4 = cp l m := by
  sorry
theorem cp_self : ∀ l : List Int, cp l l = l.length := by
  intro l
  induction l with
  | nil => rfl
  | cons x l ih => simp [cp, ih]
