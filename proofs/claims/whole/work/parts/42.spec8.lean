/-! ===== the questions, told of the list of phrases ===== -/
def cB (t : List Int) (m : Int) (x : Ph) : Bool := decide (m ≤ (x.2.1.length : Int)) && bgs t x.2.1
def tps (t : List Int) (b : List Ph) : Int := match fo (cB t 0) b with
  | none => -1
  | some x => x.2.2.1
def ahd (t : List Int) (b : List Ph) : Int := match fo (cB t (t.length + 1)) b with
  | none => -1
  | some x => x.2.1.getD t.length (-1)
def und (t : List Int) (b : List Ph) : Int := (b.filter (fun x => bgs t x.2.1)).length
def cls (t : List Int) (b : List Ph) : Int := (b.filter (fun x => clo t x.2.1)).length
def cmn1 (t w : List Int) (n : Int) (x : Ph) : Int := if bgs t x.2.1 = true then min n (cp w x.2.1) else n
def cmn (t : List Int) (b : List Ph) : Int := match fo (cB t 0) b with
  | none => -1
  | some x => b.foldl (cmn1 t x.2.1) (x.2.1.length : Int) - t.length
def fnds (t : List Int) (b : List Ph) : Int := if t.length = 0 then -1 else match b.find? (fun x => x.2.1 == t) with
  | none => -1
  | some x => x.1
def kys1 (x : Ph) (n : Int) (y : Ph) : Int := if y.1 ≠ x.1 ∧ (x.2.2.1 < y.2.2.1 ∨ (y.2.2.1 = x.2.2.1 ∧ y.1 < x.1)) then max n (cp x.2.1 y.2.1 + 1) else n
def kys (b : List Ph) (x : Ph) : Int := if (x.2.1.length : Int) < b.foldl (kys1 x) 0 then -1 else b.foldl (kys1 x) 0
def svd1 (b : List Ph) (n : Int) (x : Ph) : Int := n + (if kys b x = -1 then 0 else x.2.1.length - kys b x)
def svd (b : List Ph) : Int := b.foldl (svd1 b) 0
def twn (b : List Ph) (x : Ph) : Int := (b.filter (fun y => !(y.1 == x.1) && decide (0 < x.2.2.2.1) && (y.2.2.2.1 == x.2.2.2.1))).length
def sp_keys (p : Int) : AS → Int × AS
  | (o, h, t, c, x, b, n, f) => match fnd o p with
    | none => (-2, aBad (o, h, t, c, x, b, n, f))
    | some y => (kys o.1 y, (o, h, t, c, x, b, n, f))
def sp_twins (p : Int) : AS → Int × AS
  | (o, h, t, c, x, b, n, f) => match fnd o p with
    | none => (-2, aBad (o, h, t, c, x, b, n, f))
    | some y => (twn o.1 y, (o, h, t, c, x, b, n, f))
def sp_alike (p r : Int) : AS → Int × AS
  | (o, h, t, c, x, b, n, f) => match fnd o p with
    | none => (-2, aBad (o, h, t, c, x, b, n, f))
    | some y => match fnd o r with
      | none => (-2, aBad (o, h, t, c, x, b, n, f))
      | some z => (cp y.2.1 z.2.1, (o, h, t, c, x, b, n, f))
def tld (k : Int) : AS → Int
  | (o, h, t, c, x, b, n, f) => if k = 0 then o.1.length else if k = 1 then o.2.1 else if k = 2 then c else if k = 3 then o.2.2.1 else if k = 4 then o.2.2.2 else if k = 5 then t.length else if k = 6 then h.length else if k = 7 then x.length else if k = 8 then b else if k = 9 then n else f
def sp_told (k : Int) (A : AS) : Int × AS := if 0 ≤ k ∧ k ≤ 10 then (tld k A, A) else (-2, aBad A)
def mx (h v : Int) : Int := 31 * h + v
def dgT (A : AS) : Nat → Int
  | 0 => 2003
  | k + 1 => mx (dgT A k) (tld k A)
def dgP (h : Int) (y : Ph) : Int := y.2.1.foldl mx (mx (mx (mx (mx (mx (mx h y.1) y.2.2.1) y.2.2.2.1) y.2.1.length) y.2.2.2.2.1) y.2.2.2.2.2)
def dgs (A : AS) : Int := A.2.2.1.foldl mx (A.1.1.foldl dgP (dgT A 11))
theorem dgT_s (A : AS) {k : Int} (h : 0 ≤ k) : dgT A (k + 1).toNat = mx (dgT A k.toNat) (tld k A) := by
  rw [show (k + 1).toNat = k.toNat + 1 by omega]
  simp only [dgT]
  rw [Int.toNat_of_nonneg h]
theorem clo_iff {t w : List Int} : clo t w = true ↔ (∃ n : Nat, n ≤ w.length ∧ bec (w.take n) t = true) ∧ ¬ bgs t w = true := by
  unfold clo
  rw [Bool.and_eq_true, List.any_eq_true]
  constructor
  · rintro ⟨⟨n, h1, h2⟩, h3⟩
    exact ⟨⟨n, by have := List.mem_range.mp h1; omega, h2⟩, by intro z; rw [z] at h3; simp at h3⟩
  · rintro ⟨⟨n, h1, h2⟩, h3⟩
    refine ⟨⟨n, List.mem_range.mpr (by omega), h2⟩, ?_⟩
    cases e : bgs t w
    · rfl
    · exact absurd e h3
theorem lt_take {U : Int} {st : Int → Int} (hs : okS U st) {p n : Int} (h0 : 0 ≤ p) (h1 : p < st 2800) (hn : 0 ≤ n ∧ n ≤ st (14 * p + 3)) : (lt st p).take n.toNat = rg (fun k => st (14 * p + 6 + k)) n := by
  unfold lt
  rw [rg_take _ _ (by omega), Int.toNat_of_nonneg hn.1]
theorem fo_ml (c : Ph → Bool) (st : Int → Int) {p : Int} (h : 0 ≤ p) : fo c (ml st (p + 1).toNat) = if st (14 * p) = 1 then fo1d c (fo c (ml st p.toNat)) (mp st p) else fo c (ml st p.toNat) := by
  rw [ml_s st h]
  by_cases e : st (14 * p) = 1
  · rw [if_pos e, if_pos e, fo_app]
  · rw [if_neg e, if_neg e, List.append_nil]
theorem fil_ml (c : Ph → Bool) (st : Int → Int) {p : Int} (h : 0 ≤ p) : (((ml st (p + 1).toNat).filter c).length : Int) = ((ml st p.toNat).filter c).length + (if st (14 * p) = 1 ∧ c (mp st p) = true then 1 else 0) := by
  rw [ml_s st h, List.filter_append, List.length_append]
  by_cases e : st (14 * p) = 1
  · by_cases e2 : c (mp st p) = true
    · rw [if_pos e, if_pos ⟨e, e2⟩]; simp [e2]
    · rw [if_pos e, if_neg (fun z => e2 z.2)]; simp [e2]
  · rw [if_neg e, if_neg (fun z => e z.1)]; simp
theorem fold_ml {α : Type} (f : α → Ph → α) (a : α) (st : Int → Int) {p : Int} (h : 0 ≤ p) : (ml st (p + 1).toNat).foldl f a = if st (14 * p) = 1 then f ((ml st p.toNat).foldl f a) (mp st p) else (ml st p.toNat).foldl f a := by
  rw [ml_s st h, List.foldl_append]
  by_cases e : st (14 * p) = 1
  · rw [if_pos e, if_pos e]; rfl
  · rw [if_neg e, if_neg e]; rfl
theorem cB_mp {U : Int} {st : Int → Int} (hs : okS U st) {p m : Int} {t : List Int} (h0 : 0 ≤ p) (h1 : p < st 2800) : cB t m (mp st p) = true ↔ m ≤ st (14 * p + 3) ∧ bgs t (lt st p) = true := by
  unfold cB
  rw [Bool.and_eq_true, decide_eq_true_eq, show (mp st p).2.1 = lt st p from rfl, lt_len hs h0 h1]
