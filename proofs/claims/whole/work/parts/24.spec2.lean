/-! ===== what the document tells of, as one state: book (phrases, given, kind, slip), history (oldest first), typed, clock, text, refused ===== -/
abbrev Bo : Type := List Ph × Int × Int × Int
abbrev AS : Type := Bo × List Bo × List Int × Int × List Int × Int × Int × Int
def aBad : AS → AS
  | (o, h, t, c, x, b, n, f) => (o, h, t, c, x, b + 1, n, f)
def aNo : AS → AS
  | (o, h, t, c, x, b, n, f) => (o, h, t, c, x, b, n + 1, f)
def aFull : AS → AS
  | (o, h, t, c, x, b, n, f) => (o, h, t, c, x, b, n, f + 1)
def noteH (h : List Bo) (o : Bo) : List Bo := (if h.length = 12 then h.drop 1 else h) ++ [o]
def fnd (o : Bo) (p : Int) : Option Ph := o.1.find? (fun y => y.1 == p)
def addB (o : Bo) (w : List Int) (sc me : Int) : Bo := (o.1 ++ [(o.2.1, w, sc, me, 0, -1)], o.2.1 + 1, o.2.2.1, o.2.2.2)
def hasB (o : Bo) (w : List Int) : Bool := o.1.any (fun y => y.2.1 == w)
def roomB (o : Bo) : Bool := decide (o.1.length < 40) && decide (o.2.1 < 200)
def setB (o : Bo) (p : Int) (g : Ph → Ph) : Bo := (o.1.map (fun y => if y.1 = p then g y else y), o.2)
def outB (o : Bo) (p : Int) : Bo := (o.1.filter (fun y => !(y.1 == p)), o.2)
def halfB (o : Bo) : Bo := (o.1.map (fun y => (y.1, y.2.1, y.2.2.1 / 2, y.2.2.2.1, y.2.2.2.2.1, y.2.2.2.2.2)), o.2)
def hld (x : Int) : Int := max 0 (min x 1000)
def nsc (kd had us la t : Int) : Int :=
  if kd = 0 then had else if kd = 1 then hld (had + 10) else if kd = 2 then (if 0 ≤ la ∧ t - 3 ≤ la then hld (hld (had + 10) + 20) else hld (had + 10)) else if kd = 3 then hld (hld (had + 10) + min us 30) else hld (had + 2 * ((if 0 ≤ la ∧ t - 3 ≤ la then hld (hld (had + 10) + 20) else hld (had + 10)) - had))
def tick (c : Int) : Int := min (c + 1) 9999
def useB (o : Bo) (p c : Int) : Bo := setB o p (fun y => (y.1, y.2.1, nsc o.2.2.1 y.2.2.1 y.2.2.2.2.1 y.2.2.2.2.2 c, y.2.2.2.1, y.2.2.2.2.1 + 1, c))
def sp_start : Int × AS := (1, (([], 0, 0, 100), [], [], 0, [], 0, 0, 0))
def sp_type (z : Int) : AS → Int × AS
  | (o, h, t, c, x, b, n, f) => if ¬ (0 ≤ z ∧ z ≤ 7) then (-2, aBad (o, h, t, c, x, b, n, f)) else if t.length = 12 then (-4, aFull (o, h, t, c, x, b, n, f)) else ((t.length : Int) + 1, (o, h, t ++ [z], c, x, b, n, f))
def sp_rub : AS → Int × AS
  | (o, h, t, c, x, b, n, f) => if t.length = 0 then (-3, aNo (o, h, t, c, x, b, n, f)) else ((t.length : Int) - 1, (o, h, t.take (t.length - 1), c, x, b, n, f))
def sp_types (p z : Int) : AS → Int × AS
  | (o, h, t, c, x, b, n, f) => match fnd o p with
    | none => (-2, aBad (o, h, t, c, x, b, n, f))
    | some y => if 0 ≤ z ∧ z ≤ y.2.1.length then (z, (o, h, y.2.1.take z.toNat, c, x, b, n, f)) else (-2, aBad (o, h, t, c, x, b, n, f))
def sp_clear : AS → Int × AS
  | (o, h, t, c, x, b, n, f) => (t.length, (o, h, [], c, x, b, n, f))
def sp_adds (sc me : Int) : AS → Int × AS
  | (o, h, t, c, x, b, n, f) => if ¬ ((0 ≤ sc ∧ sc ≤ 1000) ∧ (0 ≤ me ∧ me ≤ 9)) then (-2, aBad (o, h, t, c, x, b, n, f)) else if ¬ (1 ≤ t.length ∧ t.length ≤ 8) ∨ hasB o t = true then (-3, aNo (o, h, t, c, x, b, n, f)) else if roomB o = false then (-4, aFull (o, h, t, c, x, b, n, f)) else (o.2.1, (addB o t sc me, noteH h o, [], c, x, b, n, f))
def ofP (y : Ph) (k : Int) : Int := if k = 0 then y.2.2.1 else if k = 1 then y.2.2.2.1 else if k = 2 then y.2.1.length else if k = 3 then y.2.2.2.2.1 else y.2.2.2.2.2
def sp_of (p k : Int) : AS → Int × AS
  | (o, h, t, c, x, b, n, f) => match fnd o p with
    | none => (-2, aBad (o, h, t, c, x, b, n, f))
    | some y => if 0 ≤ k ∧ k ≤ 4 then (ofP y k, (o, h, t, c, x, b, n, f)) else (-2, aBad (o, h, t, c, x, b, n, f))
def sp_letter (p k : Int) : AS → Int × AS
  | (o, h, t, c, x, b, n, f) => match fnd o p with
    | none => (-2, aBad (o, h, t, c, x, b, n, f))
    | some y => if k < 0 then (-2, aBad (o, h, t, c, x, b, n, f)) else (y.2.1.getD k.toNat (-1), (o, h, t, c, x, b, n, f))
def sp_use (p : Int) : AS → Int × AS
  | (o, h, t, c, x, b, n, f) => match fnd o p with
    | none => (-2, aBad (o, h, t, c, x, b, n, f))
    | some y => (nsc o.2.2.1 y.2.2.1 y.2.2.2.2.1 y.2.2.2.2.2 (tick c), (useB o p (tick c), noteH h o, t, tick c, x, b, n, f))
def scoB (o : Bo) (p v : Int) : Bo := setB o p (fun y => (y.1, y.2.1, v, y.2.2.2.1, y.2.2.2.2.1, y.2.2.2.2.2))
def sp_score (p v : Int) : AS → Int × AS
  | (o, h, t, c, x, b, n, f) => match fnd o p with
    | none => (-2, aBad (o, h, t, c, x, b, n, f))
    | some y => if 0 ≤ v ∧ v ≤ 1000 then (y.2.2.1, (scoB o p v, noteH h o, t, c, x, b, n, f)) else (-2, aBad (o, h, t, c, x, b, n, f))
def sp_drop (p : Int) : AS → Int × AS
  | (o, h, t, c, x, b, n, f) => match fnd o p with
    | none => (-2, aBad (o, h, t, c, x, b, n, f))
    | some y => (y.2.2.1, (outB o p, noteH h o, t, c, x, b, n, f))
def sp_rank (z : Int) : AS → Int × AS
  | (o, h, t, c, x, b, n, f) => if 0 ≤ z ∧ z ≤ 4 then (o.2.2.1, ((o.1, o.2.1, z, o.2.2.2), noteH h o, t, c, x, b, n, f)) else (-2, aBad (o, h, t, c, x, b, n, f))
def sp_slip (z : Int) : AS → Int × AS
  | (o, h, t, c, x, b, n, f) => if 0 ≤ z ∧ z ≤ 1000 then (o.2.2.2, ((o.1, o.2.1, o.2.2.1, z), noteH h o, t, c, x, b, n, f)) else (-2, aBad (o, h, t, c, x, b, n, f))
def sp_fades : AS → Int × AS
  | (o, h, t, c, x, b, n, f) => (o.1.length, (halfB o, noteH h o, t, c, x, b, n, f))
def sp_undo : AS → Int × AS
  | (o, h, t, c, x, b, n, f) => if h.length = 0 then (-3, aNo (o, h, t, c, x, b, n, f)) else ((h.length : Int) - 1, (h.getD (h.length - 1) o, h.take (h.length - 1), t, c, x, b, n, f))
def sp_write (z : Int) : AS → Int × AS
  | (o, h, t, c, x, b, n, f) => if ¬ (0 ≤ z ∧ z ≤ 127) then (-2, aBad (o, h, t, c, x, b, n, f)) else if x.length = 120 then (-4, aFull (o, h, t, c, x, b, n, f)) else ((x.length : Int) + 1, (o, h, t, c, x ++ [z], b, n, f))
def sp_erase : AS → Int × AS
  | (o, h, t, c, x, b, n, f) => (x.length, (o, h, t, c, [], b, n, f))
/-! draws -/
def nxt (x : Int) : Int := (x * 1103515245 + 12345) % 2147483648
/-- k letters drawn: the letters, and the number behind them -/
def drL : Nat → Int → List Int × Int
  | 0, x => ([], x)
  | k + 1, x => ((drL k x).1 ++ [nxt (drL k x).2 / 65536 % 8], nxt (drL k x).2)
def dr1 (q : Bo × Int × Int) : Bo × Int × Int :=
  let x1 := nxt q.2.1
  let L := drL (x1 / 65536 % 5 + 1).toNat x1
  let x2 := nxt L.2
  if hasB q.1 L.1 = false ∧ roomB q.1 = true then (addB q.1 L.1 (x2 / 65536 % 1001) (x2 / 1024 % 10), x2, q.2.2 + 1) else (q.1, x2, q.2.2)
def drN : Nat → Bo × Int × Int → Bo × Int × Int
  | 0, q => q
  | k + 1, q => dr1 (drN k q)
def sp_draw (sd z : Int) : AS → Int × AS
  | (o, h, t, c, x, b, n, f) => if (0 ≤ sd ∧ sd ≤ 999999) ∧ (1 ≤ z ∧ z ≤ 9) then ((drN z.toNat (o, sd, 0)).2.2, ((drN z.toNat (o, sd, 0)).1, noteH h o, t, c, x, b, n, f)) else (-2, aBad (o, h, t, c, x, b, n, f))
/-! ===== the reference's state as that state ===== -/
def bo (st : Int → Int) : Bo := (ml st (st 2800).toNat, st 2800, st 2801, st 2802)
def hs_ (bk : Int → Int) (un : Int) : List Bo := (List.range un.toNat).map (fun i : Nat => bo (fun k => bk (2803 * (i : Int) + k)))
def absM (st bk : Int → Int) (un ck : Int) (ty : Int → Int) (tm : Int) (tx : Int → Int) (ln : Int) (rf : Int → Int) : AS := (bo st, hs_ bk un, rg ty tm, ck, rg tx ln, rf 0, rf 1, rf 2)
def okM (N : Int) (st bk : Int → Int) (un ck : Int) (ty : Int → Int) (tm : Int) (tx : Int → Int) (ln : Int) (rf : Int → Int) : Prop :=
  (0 ≤ N ∧ N ≤ 512) ∧ okS (24 * N) st ∧ (0 ≤ un ∧ un ≤ 12) ∧ (∀ i, 0 ≤ i → i < un → okS (24 * N) (fun k => bk (2803 * i + k))) ∧ (0 ≤ ck ∧ ck ≤ 9999) ∧ (0 ≤ tm ∧ tm ≤ 12) ∧ (∀ k, 0 ≤ k → k < tm → 0 ≤ ty k ∧ ty k ≤ 7) ∧ (0 ≤ ln ∧ ln ≤ 120) ∧ (∀ k, 0 ≤ k → k < ln → 0 ≤ tx k ∧ tx k ≤ 127) ∧ (0 ≤ rf 0 ∧ rf 0 ≤ N) ∧ (0 ≤ rf 1 ∧ rf 1 ≤ N) ∧ (0 ≤ rf 2 ∧ rf 2 ≤ N)
theorem okS.up {U U2 : Int} {st : Int → Int} (h : okS U st) (h1 : U ≤ U2) (h2 : U2 ≤ 1000000) : okS U2 st := ⟨h.1, h.2.1, h.2.2.1, ⟨by have := h.2.2.2.1; omega, h2⟩, fun p g0 g1 => by
  obtain ⟨a0, a1, a2, a3, a4, a5, a6⟩ := h.2.2.2.2 p g0 g1
  exact ⟨a0, a1, a2, a3, ⟨a4.1, by omega⟩, a5, a6⟩⟩
theorem okS.ext {U : Int} {st st2 : Int → Int} (h : okS U st) (e : ∀ k, 0 ≤ k → k < 2803 → st2 k = st k) : okS U st2 := by
  obtain ⟨h1, h2, h3, h4, h5⟩ := h
  unfold okS
  rw [e 2800 (by omega) (by omega), e 2801 (by omega) (by omega), e 2802 (by omega) (by omega)]
  refine ⟨h1, h2, h3, h4, fun p g0 g1 => ?_⟩
  obtain ⟨a0, a1, a2, a3, a4, a5, a6⟩ := h5 p g0 g1
  rw [e (14 * p) (by omega) (by omega), e (14 * p + 1) (by omega) (by omega), e (14 * p + 2) (by omega) (by omega), e (14 * p + 3) (by omega) (by omega), e (14 * p + 4) (by omega) (by omega), e (14 * p + 5) (by omega) (by omega)]
  refine ⟨a0, a1, a2, a3, a4, a5, fun k b0 b1 => ?_⟩
  rw [e (14 * p + 6 + k) (by omega) (by omega)]
  exact a6 k b0 b1
theorem mp_ext {st st2 : Int → Int} {p : Int} (h8 : st (14 * p + 3) ≤ 8) (e : ∀ k, 14 * p + 1 ≤ k → k < 14 * p + 14 → st2 k = st k) : mp st2 p = mp st p := by
  unfold mp lt
  rw [e (14 * p + 1) (by omega) (by omega), e (14 * p + 2) (by omega) (by omega), e (14 * p + 3) (by omega) (by omega), e (14 * p + 4) (by omega) (by omega), e (14 * p + 5) (by omega) (by omega)]
  rw [rg_ext (f := fun k => st2 (14 * p + 6 + k)) (g := fun k => st (14 * p + 6 + k)) (fun k h0 h1 => e _ (by omega) (by omega))]
/-- rows that differ by a map of the phrases -/
theorem ml_map {st st2 : Int → Int} (g : Ph → Ph) : ∀ n : Nat, (∀ p : Int, 0 ≤ p → p < n → st2 (14 * p) = st (14 * p) ∧ (st (14 * p) = 1 → mp st2 p = g (mp st p))) → ml st2 n = (ml st n).map g := by
  intro n
  induction n with
  | zero => intro _; rfl
  | succ n ih =>
    intro h
    simp only [ml]
    rw [List.map_append, ih (fun p h0 h1 => h p h0 (by omega)), (h n (by omega) (by omega)).1]
    by_cases e : st (14 * (n : Int)) = 1
    · rw [if_pos e, if_pos e, (h n (by omega) (by omega)).2 e]; rfl
    · rw [if_neg e, if_neg e]; rfl
theorem ml_ext {st st2 : Int → Int} (n : Nat) (h8 : ∀ p : Int, 0 ≤ p → p < n → st (14 * p + 3) ≤ 8) (e : ∀ k, 0 ≤ k → k < 14 * (n : Int) → st2 k = st k) : ml st2 n = ml st n := by
  have := ml_map (st := st) (st2 := st2) id n (fun p h0 h1 => ⟨e _ (by omega) (by omega), fun _ => mp_ext (h8 p h0 h1) (fun k g0 g1 => e k (by omega) (by omega))⟩)
  rw [this]; simp
theorem ml_out {st st2 : Int → Int} (q : Int) : ∀ n : Nat, (∀ p : Int, 0 ≤ p → p < n → p ≠ q → st2 (14 * p) = st (14 * p) ∧ mp st2 p = mp st p) → (¬ st2 (14 * q) = 1) → ml st2 n = (ml st n).filter (fun y => !(y.1 == q)) := by
  intro n
  induction n with
  | zero => intro _ _; rfl
  | succ n ih =>
    intro h hq
    simp only [ml]
    rw [List.filter_append, ih (fun p h0 h1 => h p h0 (by omega)) hq]
    congr 1
    by_cases e : (n : Int) = q
    · rw [e, if_neg hq]
      by_cases e2 : st (14 * q) = 1
      · rw [if_pos e2]
        simp [mp]
      · rw [if_neg e2]; rfl
    · obtain ⟨h1, h2⟩ := h n (by omega) (by omega) e
      rw [h1, h2]
      by_cases e2 : st (14 * (n : Int)) = 1
      · rw [if_pos e2]
        simp [mp, e]
      · rw [if_neg e2]; rfl
theorem ml_find (st : Int → Int) (q : Int) : ∀ n : Nat, (ml st n).find? (fun y => y.1 == q) = if 0 ≤ q ∧ q < n ∧ st (14 * q) = 1 then some (mp st q) else none := by
  intro n
  induction n with
  | zero => rw [if_neg (by omega)]; rfl
  | succ n ih =>
    simp only [ml]
    rw [List.find?_append, ih]
    by_cases h : 0 ≤ q ∧ q < n ∧ st (14 * q) = 1
    · rw [if_pos h, if_pos (show 0 ≤ q ∧ q < ((n + 1 : Nat) : Int) ∧ st (14 * q) = 1 by omega)]; rfl
    · rw [if_neg h]
      by_cases e : (n : Int) = q
      · rw [e]
        by_cases e2 : st (14 * q) = 1
        · rw [if_pos e2, if_pos (show 0 ≤ q ∧ q < ((n + 1 : Nat) : Int) ∧ st (14 * q) = 1 by omega)]
          simp [mp]
        · rw [if_neg e2, if_neg (show ¬ (0 ≤ q ∧ q < ((n + 1 : Nat) : Int) ∧ st (14 * q) = 1) by omega)]; rfl
      · rw [if_neg (show ¬ (0 ≤ q ∧ q < ((n + 1 : Nat) : Int) ∧ st (14 * q) = 1) by omega)]
        by_cases e2 : st (14 * (n : Int)) = 1
        · rw [if_pos e2]
          simp [mp, e]
        · rw [if_neg e2]; rfl
theorem fnd_bo {U : Int} {st : Int → Int} (hs : okS U st) (q : Int) : fnd (bo st) q = if 0 ≤ q ∧ q < st 2800 ∧ st (14 * q) = 1 then some (mp st q) else none := by
  unfold fnd bo
  simp only
  rw [ml_find, Int.toNat_of_nonneg hs.gv.1]
theorem has_bo {st : Int → Int} (w : List Int) : hasB (bo st) w = true ↔ ∃ x ∈ ml st (st 2800).toNat, x.2.1 = w := by
  unfold hasB bo
  simp only [List.any_eq_true, beq_iff_eq]
theorem bo_ext {U : Int} {st st2 : Int → Int} (h : okS U st) (e : ∀ k, 0 ≤ k → k < 2803 → st2 k = st k) : bo st2 = bo st := by
  unfold bo
  have hg := h.gv
  rw [e 2800 (by omega) (by omega), e 2801 (by omega) (by omega), e 2802 (by omega) (by omega)]
  rw [ml_ext (st := st) (st2 := st2) (st 2800).toNat (fun p h0 h1 => (h.k3 p h0 (by omega)).2) (fun k h0 h1 => e k h0 (by omega))]
theorem hs_ext {bk bk2 : Int → Int} {un : Int} (h8 : ∀ i, 0 ≤ i → i < un → ∃ U, okS U (fun k => bk (2803 * i + k))) (e : ∀ k, 0 ≤ k → k < 2803 * un → bk2 k = bk k) : hs_ bk2 un = hs_ bk un := by
  unfold hs_
  apply List.map_congr_left
  intro i hi
  have hi2 := List.mem_range.mp hi
  obtain ⟨U, hU⟩ := h8 i (by omega) (by omega)
  have key : ∀ k, 0 ≤ k → k < 2803 → (fun k => bk2 (2803 * (i : Int) + k)) k = (fun k => bk (2803 * (i : Int) + k)) k := fun k h0 h1 => e _ (by omega) (by omega)
  exact bo_ext hU key
