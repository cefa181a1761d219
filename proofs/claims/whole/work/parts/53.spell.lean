/-! ===== words packed, four bits a letter ===== -/
def pck : List Int → Nat
  | [] => 0
  | x :: l => (x + 1).toNat + 16 * pck l
def okL (l : List Int) : Prop := ∀ x ∈ l, 0 ≤ x ∧ x ≤ 7
theorem okL.tail {x : Int} {l : List Int} (h : okL (x :: l)) : okL l := fun y hy => h y (List.mem_cons_of_mem _ hy)
theorem okL.head {x : Int} {l : List Int} (h : okL (x :: l)) : 0 ≤ x ∧ x ≤ 7 := h x List.mem_cons_self
theorem okL.take {l : List Int} (h : okL l) (n : Nat) : okL (l.take n) := fun y hy => h y (List.mem_of_mem_take hy)
theorem okL.drop {l : List Int} (h : okL l) (n : Nat) : okL (l.drop n) := fun y hy => h y (List.mem_of_mem_drop hy)
theorem okL.erase {l : List Int} (h : okL l) (n : Nat) : okL (l.eraseIdx n) := fun y hy => h y (List.mem_of_mem_eraseIdx hy)
theorem okL.app {l m : List Int} (h : okL l) (h2 : okL m) : okL (l ++ m) := fun y hy => (List.mem_append.mp hy).elim (h y) (h2 y)
theorem pck_lt : ∀ {l : List Int}, okL l → pck l < 16 ^ l.length := by
  intro l
  induction l with
  | nil => intro _; simp [pck]
  | cons x l ih =>
    intro h
    have h1 := ih h.tail
    have h2 := h.head
    simp only [pck, List.length_cons, Nat.pow_succ]
    omega
theorem pck_ge : ∀ {l : List Int}, okL l → l ≠ [] → 16 ^ (l.length - 1) ≤ pck l := by
  intro l
  induction l with
  | nil => intro _ h; exact absurd rfl h
  | cons x l ih =>
    intro h _
    have h2 := h.head
    simp only [pck, List.length_cons, Nat.add_sub_cancel]
    cases l with
    | nil => simp; omega
    | cons y l =>
      have h1 := ih h.tail (by simp)
      simp only [List.length_cons, Nat.add_sub_cancel] at h1 ⊢
      rw [Nat.pow_succ]
      omega
theorem pck_app : ∀ (l m : List Int), pck (l ++ m) = pck l + 16 ^ l.length * pck m := by
  intro l m
  induction l with
  | nil => simp [pck]
  | cons x l ih =>
    simp only [List.cons_append, pck, List.length_cons, ih, Nat.pow_succ, Nat.mul_add]
    rw [show 16 ^ l.length * 16 * pck m = 16 * (16 ^ l.length * pck m) by rw [Nat.mul_comm (16 ^ l.length) 16, Nat.mul_assoc]]
    omega
theorem pck_split (l : List Int) (n : Nat) (h : n ≤ l.length) : pck l = pck (l.take n) + 16 ^ n * pck (l.drop n) := by
  have := pck_app (l.take n) (l.drop n)
  rwa [List.take_append_drop, List.length_take, Nat.min_eq_left h] at this
theorem pck_take {l : List Int} (h : okL l) (n : Nat) : pck (l.take n) = pck l % 16 ^ n := by
  by_cases hn : n ≤ l.length
  · rw [pck_split l n hn, Nat.add_mul_mod_self_left, Nat.mod_eq_of_lt]
    have := pck_lt (h.take n)
    rwa [List.length_take, Nat.min_eq_left hn] at this
  · rw [List.take_of_length_le (by omega), Nat.mod_eq_of_lt]
    exact Nat.lt_of_lt_of_le (pck_lt h) (Nat.pow_le_pow_right (by decide) (by omega))
theorem pck_drop {l : List Int} (h : okL l) (n : Nat) : pck (l.drop n) = pck l / 16 ^ n := by
  by_cases hn : n ≤ l.length
  · have h2 := pck_lt (h.take n)
    rw [List.length_take, Nat.min_eq_left hn] at h2
    rw [pck_split l n hn, Nat.add_mul_div_left _ _ (Nat.pow_pos (by decide)), Nat.div_eq_of_lt h2, Nat.zero_add]
  · rw [List.drop_of_length_le (by omega), Nat.div_eq_of_lt]
    · rfl
    · exact Nat.lt_of_lt_of_le (pck_lt h) (Nat.pow_le_pow_right (by decide) (by omega))
theorem pck_inj : ∀ {l m : List Int}, okL l → okL m → pck l = pck m → l = m := by
  intro l
  induction l with
  | nil =>
    intro m _ hm e
    cases m with
    | nil => rfl
    | cons y m => have := hm.head; simp only [pck] at e; omega
  | cons x l ih =>
    intro m hl hm e
    cases m with
    | nil => have := hl.head; simp only [pck] at e; omega
    | cons y m =>
      have h1 := hl.head
      have h2 := hm.head
      simp only [pck] at e
      have e1 : x = y := by omega
      have e2 : pck l = pck m := by omega
      rw [e1, ih hl.tail hm.tail e2]
theorem pck_dig {l : List Int} (h : okL l) (k : Nat) : ((pck l / 16 ^ k % 16 : Nat) : Int) = l.getD k (-1) + 1 := by
  rw [← pck_drop h k, List.getD_eq_getElem?_getD, ← Nat.add_zero k, ← List.getElem?_drop, Nat.add_zero]
  cases e : l.drop k with
  | nil => simp [pck]
  | cons y m =>
    have h1 : 0 ≤ y ∧ y ≤ 7 := by have := h.drop k; rw [e] at this; exact this.head
    simp only [pck, List.getElem?_cons_zero, Option.getD_some]
    omega
theorem pck_erase {l : List Int} (h : okL l) (k : Nat) : pck (l.eraseIdx k) = pck l % 16 ^ k + 16 ^ k * (pck l / 16 ^ (k + 1)) := by
  rw [List.eraseIdx_eq_take_drop_succ, pck_app, pck_take h, pck_drop h, List.length_take]
  by_cases hk : k ≤ l.length
  · rw [Nat.min_eq_left hk]
  · have : pck l / 16 ^ (k + 1) = 0 := Nat.div_eq_of_lt (Nat.lt_of_lt_of_le (pck_lt h) (Nat.pow_le_pow_right (by decide) (by omega)))
    rw [this, Nat.mul_zero, Nat.mul_zero]
theorem p16 (n : Nat) : 16 ^ n = 2 ^ (4 * n) := by rw [Nat.pow_mul]
theorem p16i (n : Nat) : ((16 ^ n : Nat) : Int) = 2 ^ (4 * n) := by rw [p16, p2n]
theorem pck_len {l : List Int} (h : okL l) (hl : l.length ≤ 13) : (bl (pck l : Int) + 3) / 4 = l.length := by
  cases e : l with
  | nil => simp [pck, bl]
  | cons x m =>
    have hne : l ≠ [] := by rw [e]; simp
    have h1 := pck_ge h hne
    have h2 := pck_lt h
    have hpos : 0 < l.length := by rw [e]; simp
    rw [p16] at h1 h2
    have a1 := bl_ge (x := (pck l : Int)) (4 * (l.length - 1)) (by rw [p2n]; omega)
    have a2 := bl_le (x := (pck l : Int)) (4 * l.length) (by rw [p2n]; omega)
    rw [← e]
    omega
theorem pck_b {l : List Int} (h : okL l) (hl : l.length ≤ 13) : pck l < 4503599627370496 := by
  have := pck_lt h
  have h2 : 16 ^ l.length ≤ 16 ^ 13 := Nat.pow_le_pow_right (by decide) hl
  omega
theorem odd_part {z : Nat} (h : z % 16 ≠ 0) : ∃ t q : Nat, t < 4 ∧ z = 2 ^ t * (2 * q + 1) := by
  by_cases h0 : z % 2 = 1
  · exact ⟨0, z / 2, by omega, by simp; omega⟩
  · by_cases h1 : z % 4 = 2
    · exact ⟨1, z / 4, by omega, by simp; omega⟩
    · by_cases h2 : z % 8 = 4
      · exact ⟨2, z / 8, by omega, by simp; omega⟩
      · exact ⟨3, z / 16, by omega, by simp; omega⟩
theorem xor_up {k a b p : Nat} (h : p < 2 ^ k) : (2 ^ k * a + p) ^^^ (2 ^ k * b + p) = 2 ^ k * (a ^^^ b) := by
  apply Nat.eq_of_testBit_eq
  intro i
  rw [Nat.testBit_xor, Nat.testBit_two_pow_mul_add _ h, Nat.testBit_two_pow_mul_add _ h, Nat.testBit_two_pow_mul]
  by_cases hi : i < k
  · have : ¬ k ≤ i := by omega
    simp [hi, this]
  · have : k ≤ i := by omega
    simp [hi, this, Nat.testBit_xor]
theorem xor_16 {a b : Nat} (h : a % 16 ≠ b % 16) : (a ^^^ b) % 16 ≠ 0 := by
  intro e
  apply h
  apply Nat.eq_of_testBit_eq
  intro i
  have e2 : ((a ^^^ b) % 2 ^ 4).testBit i = false := by rw [show (2 : Nat) ^ 4 = 16 from rfl, e]; simp
  rw [Nat.testBit_mod_two_pow, Nat.testBit_xor] at e2
  rw [show (16 : Nat) = 2 ^ 4 from rfl, Nat.testBit_mod_two_pow, Nat.testBit_mod_two_pow]
  by_cases hi : i < 4
  · simp only [hi, decide_true, Bool.true_and] at e2 ⊢
    cases ha : a.testBit i <;> cases hb : b.testBit i <;> rw [ha, hb] at e2 <;> simp at e2 ⊢
  · simp [hi]
theorem pck_xor : ∀ {l m : List Int}, okL l → okL m → l ≠ m → ∃ t q : Nat, pck l ^^^ pck m = 2 ^ t * (2 * q + 1) ∧ t / 4 = cp l m := by
  have base : ∀ {a b : Nat}, a % 16 ≠ b % 16 → ∃ t q : Nat, a ^^^ b = 2 ^ t * (2 * q + 1) ∧ t / 4 = 0 := by
    intro a b h
    obtain ⟨t, q, h1, h2⟩ := odd_part (xor_16 h)
    exact ⟨t, q, h2, by omega⟩
  intro l
  induction l with
  | nil =>
    intro m _ hm hne
    cases m with
    | nil => exact absurd rfl hne
    | cons y m =>
      have := hm.head
      obtain ⟨t, q, h1, h2⟩ := base (a := pck []) (b := pck (y :: m)) (by simp only [pck]; omega)
      exact ⟨t, q, h1, by simp only [cp]; exact h2⟩
  | cons x l ih =>
    intro m hl hm hne
    cases m with
    | nil =>
      have := hl.head
      obtain ⟨t, q, h1, h2⟩ := base (a := pck (x :: l)) (b := pck []) (by simp only [pck]; omega)
      exact ⟨t, q, h1, by simp only [cp]; exact h2⟩
    | cons y m =>
      have hx := hl.head
      have hy := hm.head
      by_cases e : x = y
      · subst e
        obtain ⟨t, q, h1, h2⟩ := ih hl.tail hm.tail (fun z => hne (by rw [z]))
        refine ⟨t + 4, q, ?_, ?_⟩
        · simp only [pck]
          rw [Nat.add_comm _ (16 * pck l), Nat.add_comm _ (16 * pck m), show (16 : Nat) = 2 ^ 4 from rfl, xor_up (by omega), h1, ← Nat.mul_assoc, ← Nat.pow_add, Nat.add_comm 4 t]
        · simp only [cp, if_true]; omega
      · obtain ⟨t, q, h1, h2⟩ := base (a := pck (x :: l)) (b := pck (y :: m)) (by simp only [pck]; omega)
        exact ⟨t, q, h1, by simp only [cp]; rw [if_neg e]; exact h2⟩
theorem cp_self : ∀ l : List Int, cp l l = l.length := by
  intro l
  induction l with
  | nil => rfl
  | cons x l ih => simp [cp, ih]
