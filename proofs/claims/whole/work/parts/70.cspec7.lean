/-! ===== questions over the class's book ===== -/
theorem cB0 {t : List Int} {x : Ph} : cB t 0 x = true ↔ bgs t x.2.1 = true := by
  unfold cB
  rw [Bool.and_eq_true, decide_eq_true_eq]
  exact ⟨fun h => h.2, fun h => ⟨by omega, h⟩⟩
theorem cB1 {t : List Int} {x : Ph} : cB t (t.length + 1) x = true ↔ (t.length : Int) < (x.2.1.length : Int) ∧ bgs t x.2.1 = true := by
  unfold cB
  rw [Bool.and_eq_true, decide_eq_true_eq]
  exact ⟨fun h => ⟨by omega, h.2⟩, fun h => ⟨by omega, h.2⟩⟩
theorem fo_tk (c : Ph → Bool) {b : List Ph} {i : Int} (h0 : 0 ≤ i) (h1 : i < b.length) : fo c (b.take (i + 1).toNat) = fo1d c (fo c (b.take i.toNat)) (atP b i) := by
  rw [tk_s h0 h1, fo_app]
def tpv (q : Option Ph) : Int := match q with
  | none => -1
  | some x => x.2.2.1
theorem tpv_y {c : Ph → Bool} {q : Option Ph} {x : Ph} (hc : c x = true) (hx : 0 ≤ x.2.2.1) : tpv (fo1d c q x) = max (tpv q) x.2.2.1 := by
  cases q with
  | none => simp only [fo1d]; rw [if_pos hc]; simp only [tpv]; omega
  | some y =>
    simp only [fo1d]
    by_cases e : y.2.2.1 < x.2.2.1
    · rw [if_pos ⟨hc, e⟩]; simp only [tpv]; omega
    · rw [if_neg (fun z => e z.2)]; simp only [tpv]; omega
theorem fo_n {c : Ph → Bool} {q : Option Ph} {x : Ph} (hc : ¬ c x = true) : fo1d c q x = q := by
  cases q with
  | none => simp only [fo1d]; rw [if_neg hc]
  | some y => simp only [fo1d]; rw [if_neg (fun z => hc z.1)]
theorem fo_none {c : Ph → Bool} {b : List Ph} (h : ∀ x ∈ b, ¬ c x = true) : fo c b = none := by
  unfold fo
  induction b with
  | nil => rfl
  | cons x b ih =>
    rw [List.foldl_cons, fo_n (h x (by simp))]
    exact ih (fun y hy => h y (by simp [hy]))
theorem fo_from {c : Ph → Bool} {B : List Ph} : ∀ (b : List Ph) (q : Option Ph), (∀ x ∈ b, x ∈ B) → (∀ y, q = some y → y ∈ B ∧ c y = true) → ∀ y, b.foldl (fo1d c) q = some y → y ∈ B ∧ c y = true := by
  intro b
  induction b with
  | nil => intro q _ hq y h; exact hq y h
  | cons x b ih =>
    intro q hb hq y h
    rw [List.foldl_cons] at h
    refine ih _ (fun z hz => hb z (by simp [hz])) (fun z hz => ?_) y h
    by_cases hc : c x = true
    · cases q with
      | none => simp only [fo1d] at hz; rw [if_pos hc] at hz; cases hz; exact ⟨hb _ (by simp), hc⟩
      | some w =>
        simp only [fo1d] at hz
        by_cases e : w.2.2.1 < x.2.2.1
        · rw [if_pos ⟨hc, e⟩] at hz; cases hz; exact ⟨hb _ (by simp), hc⟩
        · rw [if_neg (fun k => e k.2)] at hz; exact hq z hz
    · rw [fo_n hc] at hz; exact hq z hz
theorem fo_ex {c : Ph → Bool} : ∀ (b : List Ph) (q : Option Ph), (q ≠ none ∨ ∃ x ∈ b, c x = true) → b.foldl (fo1d c) q ≠ none := by
  intro b
  induction b with
  | nil =>
    intro q h
    rcases h with h | ⟨x, hx, -⟩
    · exact h
    · simp at hx
  | cons x b ih =>
    intro q h
    rw [List.foldl_cons]
    apply ih
    cases q with
    | some w =>
      refine Or.inl ?_
      simp only [fo1d]
      split <;> simp
    | none =>
      rcases h with h | ⟨y, hy, hc⟩
      · exact absurd rfl h
      · rcases List.mem_cons.mp hy with rfl | hy
        · refine Or.inl ?_
          simp only [fo1d]; rw [if_pos hc]; simp
        · exact Or.inr ⟨y, hy, hc⟩
theorem fo_some {c : Ph → Bool} {b : List Ph} {x : Ph} (h : x ∈ b) (hc : c x = true) : ∃ y, fo c b = some y ∧ y ∈ b ∧ c y = true := by
  have h1 := fo_ex b none (Or.inr ⟨x, h, hc⟩)
  cases hq : b.foldl (fo1d c) none with
  | none => exact absurd hq h1
  | some y =>
    obtain ⟨h2, h3⟩ := fo_from (B := b) b none (fun _ h => h) (fun _ h => by cases h) y hq
    exact ⟨y, hq, h2, h3⟩
/-! how far all that begin so go together -/
theorem cp_ge : ∀ {n : Nat} {l m : List Int}, n ≤ cp l m ↔ n ≤ l.length ∧ n ≤ m.length ∧ l.take n = m.take n := by
  intro n
  induction n with
  | zero => intro l m; simp
  | succ n ih =>
    intro l m
    cases l with
    | nil => simp [cp]
    | cons a l =>
      cases m with
      | nil => simp [cp]
      | cons b m =>
        simp only [cp, List.length_cons, List.take_succ_cons, List.cons.injEq]
        by_cases e : a = b
        · rw [if_pos e, Nat.add_le_add_iff_right, ih]
          constructor
          · rintro ⟨h1, h2, h3⟩; exact ⟨by omega, by omega, e, h3⟩
          · rintro ⟨h1, h2, -, h3⟩; exact ⟨by omega, by omega, h3⟩
        · rw [if_neg e]
          constructor
          · intro h; omega
          · rintro ⟨-, -, h, -⟩; exact absurd h e
theorem cmn_ge {t w : List Int} {n : Nat} : ∀ (b : List Ph) (a : Int), (n : Int) ≤ b.foldl (cmn1 t w) a ↔ (n : Int) ≤ a ∧ ∀ x ∈ b, bgs t x.2.1 = true → n ≤ cp w x.2.1 := by
  intro b
  induction b with
  | nil => intro a; simp
  | cons y b ih =>
    intro a
    rw [List.foldl_cons, ih]
    unfold cmn1
    by_cases e : bgs t y.2.1 = true
    · rw [if_pos e]
      constructor
      · rintro ⟨h1, h2⟩
        refine ⟨by omega, fun x hx hb => ?_⟩
        rcases List.mem_cons.mp hx with rfl | hx
        · omega
        · exact h2 x hx hb
      · rintro ⟨h1, h2⟩
        have := h2 y (by simp) e
        exact ⟨by omega, fun x hx hb => h2 x (by simp [hx]) hb⟩
    · rw [if_neg e]
      constructor
      · rintro ⟨h1, h2⟩
        refine ⟨h1, fun x hx hb => ?_⟩
        rcases List.mem_cons.mp hx with rfl | hx
        · exact absurd hb e
        · exact h2 x hx hb
      · rintro ⟨h1, h2⟩
        exact ⟨h1, fun x hx hb => h2 x (by simp [hx]) hb⟩
theorem cmn_0 {t w : List Int} : ∀ (b : List Ph) (a : Int), 0 ≤ a → 0 ≤ b.foldl (cmn1 t w) a := fun b a h => by
  have := (cmn_ge (t := t) (w := w) (n := 0) b a).mpr ⟨by omega, fun _ _ _ => Nat.zero_le _⟩
  omega
theorem cmn_ind {t : List Int} {b : List Ph} {x y : Ph} (hx : x ∈ b) (hy : y ∈ b) (bx : bgs t x.2.1 = true) (bY : bgs t y.2.1 = true) : b.foldl (cmn1 t x.2.1) (x.2.1.length : Int) = b.foldl (cmn1 t y.2.1) (y.2.1.length : Int) := by
  have half : ∀ {x y : Ph}, x ∈ b → y ∈ b → bgs t x.2.1 = true → bgs t y.2.1 = true → b.foldl (cmn1 t x.2.1) (x.2.1.length : Int) ≤ b.foldl (cmn1 t y.2.1) (y.2.1.length : Int) := by
    intro x y hx hy bx bY
    have h0 := cmn_0 (t := t) (w := x.2.1) b (x.2.1.length : Int) (by omega)
    obtain ⟨n, hn⟩ : ∃ n : Nat, (n : Int) = b.foldl (cmn1 t x.2.1) (x.2.1.length : Int) := ⟨(b.foldl (cmn1 t x.2.1) (x.2.1.length : Int)).toNat, by omega⟩
    have h1 := (cmn_ge (t := t) (w := x.2.1) (n := n) b (x.2.1.length : Int)).mp (by omega)
    rw [← hn]
    have hxy := cp_ge.mp (h1.2 y hy bY)
    refine (cmn_ge b _).mpr ⟨by omega, fun z hz bz => ?_⟩
    have hxz := cp_ge.mp (h1.2 z hz bz)
    exact cp_ge.mpr ⟨hxy.2.1, hxz.2.1, hxy.2.2.symm.trans hxz.2.2⟩
  exact Int.le_antisymm (half hx hy bx bY) (half hy hx bY bx)
theorem cmn_skip {t w : List Int} {b : List Ph} {a : Int} (h : ∀ x ∈ b, ¬ bgs t x.2.1 = true) : b.foldl (cmn1 t w) a = a := by
  induction b generalizing a with
  | nil => rfl
  | cons y b ih =>
    rw [List.foldl_cons]
    have : cmn1 t w a y = a := by unfold cmn1; rw [if_neg (h y (by simp))]
    rw [this]
    exact ih (fun x hx => h x (by simp [hx]))
theorem cmn_of {t : List Int} {b : List Ph} {x : Ph} (hx : x ∈ b) (bx : bgs t x.2.1 = true) : cmn t b = b.foldl (cmn1 t x.2.1) (x.2.1.length : Int) - t.length := by
  obtain ⟨y, h1, h2, h3⟩ := fo_some (c := cB t 0) hx (cB0.mpr bx)
  unfold cmn
  rw [h1]
  simp only
  rw [cmn_ind hx h2 bx (cB0.mp h3)]
theorem cmn_no {t : List Int} {b : List Ph} (h : ∀ x ∈ b, ¬ bgs t x.2.1 = true) : cmn t b = -1 := by
  unfold cmn
  rw [fo_none (fun x hx hc => h x hx (cB0.mp hc))]
/-! a word's phrase -/
theorem pw_inj {b : List Ph} (hp : b.Pairwise (fun x y => x.2.1 ≠ y.2.1)) {x y : Ph} (hx : x ∈ b) (hy : y ∈ b) (e : x.2.1 = y.2.1) : x = y := by
  obtain ⟨i, hi⟩ := List.getElem?_of_mem hx
  obtain ⟨j, hj⟩ := List.getElem?_of_mem hy
  obtain ⟨li, rfl⟩ := List.getElem?_eq_some_iff.mp hi
  obtain ⟨lj, rfl⟩ := List.getElem?_eq_some_iff.mp hj
  rw [List.pairwise_iff_getElem] at hp
  rcases Nat.lt_trichotomy i j with q | q | q
  · exact absurd e (hp i j li lj q)
  · subst q; rfl
  · exact absurd e.symm (hp j i lj li q)
theorem fnds_at {b : List Ph} {t : List Int} (hp : b.Pairwise (fun x y => x.2.1 ≠ y.2.1)) {x : Ph} (hx : x ∈ b) (e : x.2.1 = t) (hl : 1 ≤ x.2.1.length) : fnds t b = x.1 := by
  unfold fnds
  rw [if_neg (by rw [← e]; omega)]
  cases hf : List.find? (fun x => x.2.1 == t) b with
  | none => exact absurd (List.find?_eq_none.mp hf x hx) (by simp [e])
  | some y =>
    have h1 := List.find?_some hf
    have h2 := List.mem_of_find?_eq_some hf
    have h3 := pw_inj hp h2 hx (by rw [e]; simpa using h1)
    simp only [h3]
theorem fnds_no {o : Bo} {t : List Int} (h : hasB o t = false) : fnds t o.1 = -1 := by
  unfold fnds
  split
  · rfl
  · rw [List.find?_eq_none.mpr]
    intro x hx hc
    have : hasB o t = true := by
      unfold hasB
      rw [List.any_eq_true]
      exact ⟨x, hx, hc⟩
    rw [h] at this
    cases this
