/-! ===== questions: beginnings, how far two words go together, one slip ===== -/
def bgs (t w : List Int) : Bool := w.take t.length == t
def cp : List Int → List Int → Nat
  | a :: l, b :: m => if a = b then cp l m + 1 else 0
  | _, _ => 0
def bec (w t : List Int) : Bool :=
  if t.length = w.length then !(cp w t == w.length) && (w.drop (cp w t + 1) == t.drop (cp w t + 1))
  else if t.length = w.length + 1 then w.drop (cp w t) == t.drop (cp w t + 1)
  else if t.length + 1 = w.length then w.drop (cp w t + 1) == t.drop (cp w t)
  else false
def clo (t w : List Int) : Bool := (List.range (w.length + 1)).any (fun n => bec (w.take n) t) && !(bgs t w)
/-- the first in order of those that c says -/
def fo1 (c : Ph → Bool) (o : Option Ph) (x : Ph) : Option Ph := if c x = true ∧ (∀ y, o = some y → y.2.2.1 < x.2.2.1) then some x else o
def fo1d (c : Ph → Bool) (o : Option Ph) (x : Ph) : Option Ph := match o with
  | none => if c x = true then some x else none
  | some y => if c x = true ∧ y.2.2.1 < x.2.2.1 then some x else some y
def fo (c : Ph → Bool) (b : List Ph) : Option Ph := b.foldl (fo1d c) none
theorem fo_app (c : Ph → Bool) (b : List Ph) (x : Ph) : fo c (b ++ [x]) = fo1d c (fo c b) x := by simp [fo, List.foldl_append]
theorem bgs_rg {f g : Int → Int} {n m : Int} (hn : 0 ≤ n) (hm : 0 ≤ m) : bgs (rg f m) (rg g n) = true ↔ m ≤ n ∧ ∀ k, 0 ≤ k → k < m → g k = f k := by
  unfold bgs
  rw [beq_iff_eq, rg_len]
  by_cases h : m ≤ n
  · rw [rg_take g m.toNat (by omega), Int.toNat_of_nonneg hm, rg_eq hm hm]
    constructor
    · rintro ⟨-, h2⟩; exact ⟨h, h2⟩
    · rintro ⟨-, h2⟩; exact ⟨rfl, h2⟩
  · constructor
    · intro e
      have := congrArg List.length e
      rw [List.length_take, rg_len, rg_len] at this
      omega
    · rintro ⟨h2, -⟩; omega
theorem cp_spec : ∀ (n : Nat) (l m : List Int), n ≤ l.length → n ≤ m.length → (∀ k, k < n → l[k]? = m[k]?) → (n = l.length ∨ n = m.length ∨ l[n]? ≠ m[n]?) → cp l m = n := by
  intro n
  induction n with
  | zero =>
    intro l m _ _ _ h
    cases l with
    | nil => simp [cp]
    | cons a l =>
      cases m with
      | nil => simp [cp]
      | cons b m =>
        simp only [List.length_cons, List.getElem?_cons_zero] at h
        rcases h with h | h | h
        · omega
        · omega
        · simp only [cp]
          rw [if_neg (fun e => h (by rw [e]))]
  | succ n ih =>
    intro l m h1 h2 h3 h4
    cases l with
    | nil => simp at h1
    | cons a l =>
      cases m with
      | nil => simp at h2
      | cons b m =>
        have e := h3 0 (by omega)
        simp only [List.getElem?_cons_zero, Option.some.injEq] at e
        simp only [cp]
        rw [if_pos e, ih l m (by simpa using h1) (by simpa using h2) (fun k hk => by have := h3 (k + 1) (by omega); simpa using this) (by simpa using h4)]
theorem cp_rg {f g : Int → Int} {a b n : Int} (h0 : 0 ≤ n) (ha : n ≤ a) (hb : n ≤ b) (he : ∀ k, 0 ≤ k → k < n → f k = g k) (hst : n = a ∨ n = b ∨ f n ≠ g n) : (cp (rg f a) (rg g b) : Int) = n := by
  have : cp (rg f a) (rg g b) = n.toNat := by
    refine cp_spec n.toNat _ _ (by rw [rg_len]; omega) (by rw [rg_len]; omega) (fun k hk => ?_) ?_
    · rw [rg_at f (by omega), rg_at g (by omega), he k (by omega) (by omega)]
    · rw [rg_len, rg_len]
      by_cases h1 : n = a
      · exact Or.inl (by rw [h1])
      · by_cases h2 : n = b
        · exact Or.inr (Or.inl (by rw [h2]))
        · refine Or.inr (Or.inr ?_)
          rw [rg_at f (by omega), rg_at g (by omega), Int.toNat_of_nonneg h0]
          rcases hst with h | h | h
          · omega
          · omega
          · exact fun e => h (Option.some.inj e)
  omega
theorem rg_drop (f : Int → Int) {n : Int} (i : Nat) (h : (i : Int) ≤ n) : (rg f n).drop i = rg (fun k => f (i + k)) (n - i) := by
  apply List.ext_getElem?
  intro k
  rw [List.getElem?_drop]
  by_cases hk : (k : Int) < n - i
  · rw [rg_at _ (by omega), rg_at _ hk]
    congr 2
  · rw [List.getElem?_eq_none (by rw [rg_len]; omega), List.getElem?_eq_none (by rw [rg_len]; omega)]
theorem cp_le : ∀ l m : List Int, cp l m ≤ l.length ∧ cp l m ≤ m.length := by
  intro l
  induction l with
  | nil => intro m; simp [cp]
  | cons a l ih =>
    intro m
    cases m with
    | nil => simp [cp]
    | cons b m =>
      simp only [cp, List.length_cons]
      have := ih m
      split <;> omega
theorem rg_dropeq {f g : Int → Int} {n m : Int} (i j : Nat) (hi : (i : Int) ≤ n) (hj : (j : Int) ≤ m) (hd : n - i = m - j) : ((rg f n).drop i == (rg g m).drop j) = true ↔ ∀ e, (i : Int) ≤ e → e < n → f e = g (e + (m - n)) := by
  rw [beq_iff_eq, rg_drop f i hi, rg_drop g j hj, rg_eq (by omega) (by omega)]
  constructor
  · rintro ⟨-, h⟩ e h0 h1
    have := h (e - i) (by omega) (by omega)
    rw [show (i : Int) + (e - i) = e by omega] at this
    rw [this]
    congr 1; omega
  · intro h
    refine ⟨hd, fun k h0 h1 => ?_⟩
    have := h (i + k) (by omega) (by omega)
    rw [this]
    congr 1; omega
theorem bec_rg {f g : Int → Int} {n m k : Int} (hn : 0 ≤ n) (hm : 0 ≤ m) (hk : (cp (rg f n) (rg g m) : Int) = k) : bec (rg f n) (rg g m) = true ↔ (-1 ≤ m - n ∧ m - n ≤ 1) ∧ (m = n → k ≠ n) ∧ ∀ e, k + (if m - n = 1 then 0 else 1) ≤ e → e < n → f e = g (e + (m - n)) := by
  have hl := cp_le (rg f n) (rg g m)
  rw [rg_len, rg_len] at hl
  unfold bec
  simp only [rg_len]
  by_cases h1 : m = n
  · subst h1
    rw [if_pos rfl, Bool.and_eq_true]
    rw [if_neg (show ¬ m - m = 1 by omega)]
    by_cases e2 : k = m
    · constructor
      · rintro ⟨h, -⟩
        have e3 : cp (rg f m) (rg g m) = m.toNat := by omega
        rw [e3] at h
        simp at h
      · rintro ⟨-, h, -⟩
        exact absurd e2 (h rfl)
    · have hne : (!(cp (rg f m) (rg g m) == m.toNat)) = true := by
        have : cp (rg f m) (rg g m) ≠ m.toNat := by omega
        simp [this]
      rw [rg_dropeq _ _ (by omega) (by omega) (by omega)]
      constructor
      · rintro ⟨-, h⟩
        exact ⟨by omega, fun _ => e2, fun e h0 h1 => h e (by omega) h1⟩
      · rintro ⟨-, -, h⟩
        exact ⟨hne, fun e h0 h1 => h e (by omega) h1⟩
  · rw [if_neg (show ¬ m.toNat = n.toNat by omega)]
    by_cases h2 : m = n + 1
    · rw [if_pos (show m.toNat = n.toNat + 1 by omega), if_pos (show m - n = 1 by omega), rg_dropeq _ _ (by omega) (by omega) (by omega)]
      constructor
      · intro h
        exact ⟨by omega, fun e => absurd e h1, fun e h0 h3 => h e (by omega) h3⟩
      · rintro ⟨-, -, h⟩ e h0 h3
        exact h e (by omega) h3
    · rw [if_neg (show ¬ m.toNat = n.toNat + 1 by omega), if_neg (show ¬ m - n = 1 by omega)]
      by_cases h3 : m + 1 = n
      · rw [if_pos (show m.toNat + 1 = n.toNat by omega), rg_dropeq _ _ (by omega) (by omega) (by omega)]
        constructor
        · intro h
          exact ⟨by omega, fun e => absurd e h1, fun e h0 h4 => h e (by omega) h4⟩
        · rintro ⟨-, -, h⟩ e h0 h4
          exact h e (by omega) h4
      · rw [if_neg (show ¬ m.toNat + 1 = n.toNat by omega)]
        constructor
        · intro h; simp at h
        · rintro ⟨h, -⟩; omega
theorem lt_len {U : Int} {st : Int → Int} (hs : okS U st) {p : Int} (h0 : 0 ≤ p) (h1 : p < st 2800) : ((lt st p).length : Int) = st (14 * p + 3) := by
  have := hs.k3 p h0 h1
  unfold lt
  rw [rg_len]; omega
