/-! ===== Math.max, Math.min ===== -/
theorem i_mmax {X : Cxt} {K : KT} {l : Launch} {R : Room} {cc : ByteArray} {own : String} {Ts : List Cond} {nL k n pc q idx : Nat} {lv : Lv} {st : List Vl} {cs : List Wd} {a b : Int} (C : Cx X K l R cc own Ts nL) (ra : rI a) (rb : rI b) (h1 : Cond.methodLink own idx Lib.Math.max.name ∈ Ts) (h2 : Cond.static Lib.Math.max.name ∈ Ts) (h3 : Cond.initialized "java/lang/Math" ∈ Ts) (h4 : Cond.code Lib.Math.max.name Lib.Math.max.code 2 (some .int) ∈ Ts) (hfr : 1 ≤ R.frames ∧ ((st.map rv).map fun v => v.category).sum + 13 ≤ R.locals) (hf : k ≤ R.cells ∧ n ≤ R.slots) (d : decode cc pc = .ok (.invokestatic idx, 3)) (hq : pc + 3 = q) (kk : V X k n q lv (vI (max a b) :: st) cs) : V X k n pc lv (vI b :: vI a :: st) cs := by
  obtain ⟨p, l', e, R', s, m, args, below, meth, c, Q, A, K', nL'⟩ := X
  obtain ⟨rfl, rfl, rfl, rfl, hx, hb, hml, hown, hts, hK, hG, hA⟩ := C
  subst hq
  intro H locs ls hP hD hS hl
  refine va_mmax (x := zI a) (y := zI b) hx hb (hml.trans hl.1.symm) hown (hts _ h1) (hts _ h2) (hts _ h3) (hts _ h4) hfr.1 hfr.2 hf.1 hf.2 d ?_
  have e0 : (if zI a < zI b then zI b else zI a) = zI (max a b) := by
    simp only [zI_lt ra rb]
    split
    · rw [Int.max_eq_right (by omega)]
    · rw [Int.max_eq_left (by omega)]
  rw [e0]
  exact kk H locs ls hP hD hS hl
theorem i_mmin {X : Cxt} {K : KT} {l : Launch} {R : Room} {cc : ByteArray} {own : String} {Ts : List Cond} {nL k n pc q idx : Nat} {lv : Lv} {st : List Vl} {cs : List Wd} {a b : Int} (C : Cx X K l R cc own Ts nL) (ra : rI a) (rb : rI b) (h1 : Cond.methodLink own idx Lib.Math.min.name ∈ Ts) (h2 : Cond.static Lib.Math.min.name ∈ Ts) (h3 : Cond.initialized "java/lang/Math" ∈ Ts) (h4 : Cond.code Lib.Math.min.name Lib.Math.min.code 2 (some .int) ∈ Ts) (hfr : 1 ≤ R.frames ∧ ((st.map rv).map fun v => v.category).sum + 13 ≤ R.locals) (hf : k ≤ R.cells ∧ n ≤ R.slots) (d : decode cc pc = .ok (.invokestatic idx, 3)) (hq : pc + 3 = q) (kk : V X k n q lv (vI (min a b) :: st) cs) : V X k n pc lv (vI b :: vI a :: st) cs := by
  obtain ⟨p, l', e, R', s, m, args, below, meth, c, Q, A, K', nL'⟩ := X
  obtain ⟨rfl, rfl, rfl, rfl, hx, hb, hml, hown, hts, hK, hG, hA⟩ := C
  subst hq
  intro H locs ls hP hD hS hl
  refine va_mmin (x := zI a) (y := zI b) hx hb (hml.trans hl.1.symm) hown (hts _ h1) (hts _ h2) (hts _ h3) (hts _ h4) hfr.1 hfr.2 hf.1 hf.2 d ?_
  have e0 : (if zI b < zI a then zI b else zI a) = zI (min a b) := by
    simp only [zI_lt rb ra]
    split
    · rw [Int.min_eq_right (by omega)]
    · rw [Int.min_eq_left (by omega)]
  rw [e0]
  exact kk H locs ls hP hD hS hl
/-! ===== rows of numbers as lists ===== -/
def rg (f : Int → Int) (n : Int) : List Int := (List.range n.toNat).map (fun k : Nat => f (k : Int))
theorem rg_len (f : Int → Int) (n : Int) : (rg f n).length = n.toNat := by simp [rg]
theorem rg_0 (f : Int → Int) {n : Int} (h : n ≤ 0) : rg f n = [] := by
  have e : n.toNat = 0 := by omega
  simp [rg, e]
theorem rg_s (f : Int → Int) {n : Int} (h : 0 ≤ n) : rg f (n + 1) = rg f n ++ [f n] := by
  have e : (n + 1).toNat = n.toNat + 1 := by omega
  simp only [rg, e, List.range_succ, List.map_append, List.map_cons, List.map_nil]
  rw [Int.toNat_of_nonneg h]
theorem rg_at (f : Int → Int) {n : Int} {k : Nat} (h : (k : Int) < n) : (rg f n)[k]? = some (f k) := by
  simp only [rg, List.getElem?_map]
  rw [List.getElem?_range (by omega)]
  rfl
theorem rg_ext {f g : Int → Int} {n : Int} (h : ∀ k, 0 ≤ k → k < n → f k = g k) : rg f n = rg g n := by
  apply List.map_congr_left
  intro k hk
  have := List.mem_range.mp hk
  exact h k (by omega) (by omega)
theorem rg_inj {f g : Int → Int} {n m : Int} (hn : 0 ≤ n) (hm : 0 ≤ m) (h : rg f n = rg g m) : n = m ∧ ∀ k, 0 ≤ k → k < n → f k = g k := by
  have e : n = m := by
    have := congrArg List.length h
    rw [rg_len, rg_len] at this
    omega
  subst e
  refine ⟨rfl, fun k h0 h1 => ?_⟩
  have h2 := congrArg (fun l => l[k.toNat]?) h
  rw [rg_at f (k := k.toNat) (by omega), rg_at g (k := k.toNat) (by omega), Int.toNat_of_nonneg h0] at h2
  exact Option.some.inj h2
theorem rg_eq {f g : Int → Int} {n m : Int} (hn : 0 ≤ n) (hm : 0 ≤ m) : rg f n = rg g m ↔ n = m ∧ ∀ k, 0 ≤ k → k < n → f k = g k := ⟨rg_inj hn hm, fun h => by obtain ⟨rfl, h⟩ := h; exact rg_ext h⟩
theorem rg_take (f : Int → Int) {n : Int} (m : Nat) (h : (m : Int) ≤ n) : (rg f n).take m = rg f m := by
  simp only [rg, ← List.map_take, List.take_range]
  rw [Int.toNat_natCast, Nat.min_eq_left (by omega)]
theorem rg_mem {f : Int → Int} {n x : Int} (h : x ∈ rg f n) : ∃ k, 0 ≤ k ∧ k < n ∧ x = f k := by
  obtain ⟨k, hk, rfl⟩ := List.mem_map.mp h
  have := List.mem_range.mp hk
  exact ⟨k, by omega, by omega, rfl⟩
/-! copies -/
def cpy (f : Int → Int) (i : Int) (g : Int → Int) (j n : Int) : Int → Int := fun k => if j ≤ k ∧ k < j + n then f (i + (k - j)) else g k
theorem cpy_0 (f : Int → Int) (i : Int) (g : Int → Int) (j : Int) : cpy f i g j 0 = g := by
  funext k
  simp only [cpy]
  rw [if_neg (by omega)]
theorem cpy_s (f : Int → Int) (i : Int) (g : Int → Int) (j : Int) {n : Int} (h : 0 ≤ n) : up (cpy f i g j n) (j + n) (f (i + n)) = cpy f i g j (n + 1) := by
  funext k
  by_cases e : k = j + n
  · subst e
    rw [up_s]
    simp only [cpy]
    rw [if_pos (by omega), show i + (j + n - j) = i + n by omega]
  · rw [up_n _ _ e]
    simp only [cpy]
    by_cases h1 : j ≤ k ∧ k < j + n
    · rw [if_pos h1, if_pos (by omega)]
    · rw [if_neg h1, if_neg (by omega)]
theorem cpy_in (f : Int → Int) (i : Int) (g : Int → Int) (j n k : Int) (h : j ≤ k ∧ k < j + n) : cpy f i g j n k = f (i + (k - j)) := by simp only [cpy]; rw [if_pos h]
theorem cpy_out (f : Int → Int) (i : Int) (g : Int → Int) (j n k : Int) (h : k < j ∨ j + n ≤ k) : cpy f i g j n k = g k := by simp only [cpy]; rw [if_neg (by omega)]
/-! ===== phrases: number, letters, score, meaning, uses, last ===== -/
abbrev Ph : Type := Int × List Int × Int × Int × Int × Int
/-- the letters of phrase p in the reference's row -/
def lt (st : Int → Int) (p : Int) : List Int := rg (fun k => st (14 * p + 6 + k)) (st (14 * p + 3))
def mp (st : Int → Int) (p : Int) : Ph := (p, lt st p, st (14 * p + 1), st (14 * p + 2), st (14 * p + 4), st (14 * p + 5))
def ml (st : Int → Int) : Nat → List Ph
  | 0 => []
  | n + 1 => ml st n ++ (if st (14 * (n : Int)) = 1 then [mp st n] else [])
/-- the reference's row is in order: U bounds the uses -/
def okS (U : Int) (st : Int → Int) : Prop := (0 ≤ st 2800 ∧ st 2800 ≤ 200) ∧ (0 ≤ st 2801 ∧ st 2801 ≤ 4) ∧ (0 ≤ st 2802 ∧ st 2802 ≤ 1000) ∧ (0 ≤ U ∧ U ≤ 1000000) ∧ ∀ p, 0 ≤ p → p < st 2800 → (0 ≤ st (14 * p) ∧ st (14 * p) ≤ 1) ∧ (0 ≤ st (14 * p + 1) ∧ st (14 * p + 1) ≤ 1000) ∧ (0 ≤ st (14 * p + 2) ∧ st (14 * p + 2) ≤ 9) ∧ (1 ≤ st (14 * p + 3) ∧ st (14 * p + 3) ≤ 8) ∧ (0 ≤ st (14 * p + 4) ∧ st (14 * p + 4) ≤ U) ∧ (-1 ≤ st (14 * p + 5) ∧ st (14 * p + 5) ≤ 9999) ∧ ∀ k, 0 ≤ k → k < st (14 * p + 3) → 0 ≤ st (14 * p + 6 + k) ∧ st (14 * p + 6 + k) ≤ 7
theorem okS.gv {U : Int} {st : Int → Int} (h : okS U st) : 0 ≤ st 2800 ∧ st 2800 ≤ 200 := h.1
theorem okS.kd {U : Int} {st : Int → Int} (h : okS U st) : 0 ≤ st 2801 ∧ st 2801 ≤ 4 := h.2.1
theorem okS.sl {U : Int} {st : Int → Int} (h : okS U st) : 0 ≤ st 2802 ∧ st 2802 ≤ 1000 := h.2.2.1
theorem okS.k0 {U : Int} {st : Int → Int} (h : okS U st) (p : Int) (h0 : 0 ≤ p) (h1 : p < st 2800) : 0 ≤ st (14 * p) ∧ st (14 * p) ≤ 1 := (h.2.2.2.2 p h0 h1).1
theorem okS.k1 {U : Int} {st : Int → Int} (h : okS U st) (p : Int) (h0 : 0 ≤ p) (h1 : p < st 2800) : 0 ≤ st (14 * p + 1) ∧ st (14 * p + 1) ≤ 1000 := (h.2.2.2.2 p h0 h1).2.1
theorem okS.k2 {U : Int} {st : Int → Int} (h : okS U st) (p : Int) (h0 : 0 ≤ p) (h1 : p < st 2800) : 0 ≤ st (14 * p + 2) ∧ st (14 * p + 2) ≤ 9 := (h.2.2.2.2 p h0 h1).2.2.1
theorem okS.k3 {U : Int} {st : Int → Int} (h : okS U st) (p : Int) (h0 : 0 ≤ p) (h1 : p < st 2800) : 1 ≤ st (14 * p + 3) ∧ st (14 * p + 3) ≤ 8 := (h.2.2.2.2 p h0 h1).2.2.2.1
theorem okS.k4 {U : Int} {st : Int → Int} (h : okS U st) (p : Int) (h0 : 0 ≤ p) (h1 : p < st 2800) : (0 ≤ st (14 * p + 4) ∧ st (14 * p + 4) ≤ U) ∧ U ≤ 1000000 := ⟨(h.2.2.2.2 p h0 h1).2.2.2.2.1, h.2.2.2.1.2⟩
theorem okS.k5 {U : Int} {st : Int → Int} (h : okS U st) (p : Int) (h0 : 0 ≤ p) (h1 : p < st 2800) : -1 ≤ st (14 * p + 5) ∧ st (14 * p + 5) ≤ 9999 := (h.2.2.2.2 p h0 h1).2.2.2.2.2.1
theorem okS.k6 {U : Int} {st : Int → Int} (h : okS U st) (p : Int) (h0 : 0 ≤ p) (h1 : p < st 2800) (k : Int) (h2 : 0 ≤ k) (h3 : k < st (14 * p + 3)) : 0 ≤ st (14 * p + 6 + k) ∧ st (14 * p + 6 + k) ≤ 7 := (h.2.2.2.2 p h0 h1).2.2.2.2.2.2 k h2 h3
theorem ml_s (st : Int → Int) {i : Int} (h : 0 ≤ i) : ml st (i + 1).toNat = ml st i.toNat ++ (if st (14 * i) = 1 then [mp st i] else []) := by
  rw [show (i + 1).toNat = i.toNat + 1 by omega]
  simp only [ml]
  rw [Int.toNat_of_nonneg h]
theorem ml_mem {st : Int → Int} : ∀ {n : Nat} {x : Ph}, x ∈ ml st n → ∃ p : Int, 0 ≤ p ∧ p < n ∧ st (14 * p) = 1 ∧ x = mp st p := by
  intro n
  induction n with
  | zero => intro x h; simp [ml] at h
  | succ n ih =>
    intro x h
    simp only [ml, List.mem_append] at h
    rcases h with h | h
    · obtain ⟨p, h0, h1, h2, h3⟩ := ih h
      exact ⟨p, h0, by omega, h2, h3⟩
    · by_cases e : st (14 * (n : Int)) = 1
      · rw [if_pos e] at h
        rw [List.mem_singleton] at h
        exact ⟨n, by omega, by omega, e, h⟩
      · rw [if_neg e] at h
        simp at h
theorem mem_ml {st : Int → Int} {n : Nat} {p : Int} (h0 : 0 ≤ p) (h1 : p < n) (h2 : st (14 * p) = 1) : mp st p ∈ ml st n := by
  induction n with
  | zero => omega
  | succ n ih =>
    simp only [ml, List.mem_append]
    by_cases e : p = n
    · subst e
      rw [if_pos h2]
      exact Or.inr (List.mem_singleton.mpr rfl)
    · exact Or.inl (ih (by omega))
