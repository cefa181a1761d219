/-! ===== the digest ===== -/
theorem rg_5 (f : Int → Int) {n : Int} (h : 0 ≤ n) : rg f (5 + n) = [f 0, f 1, f 2, f 3, f 4] ++ rg (fun j => f (5 + j)) n := by
  apply List.ext_getElem?
  intro k
  by_cases h5 : k < 5
  · rw [List.getElem?_append_left (by simpa using h5), rg_at _ (by omega)]
    rcases (show k = 0 ∨ k = 1 ∨ k = 2 ∨ k = 3 ∨ k = 4 by omega) with rfl | rfl | rfl | rfl | rfl <;> rfl
  · rw [List.getElem?_append_right (by simpa using h5)]
    by_cases hk : (k : Int) < 5 + n
    · rw [rg_at _ hk, rg_at _ (by simp; omega)]
      congr 2; simp; omega
    · rw [List.getElem?_eq_none (by rw [rg_len]; omega), List.getElem?_eq_none (by rw [rg_len]; simp; omega)]
theorem dgP_mp {U : Int} {st : Int → Int} (hs : okS U st) {p h : Int} (h0 : 0 ≤ p) (h1 : p < st 2800) : (rg (fun j => st (14 * p + 1 + j)) (5 + st (14 * p + 3))).foldl mx (mx h p) = dgP h (mp st p) := by
  have k3 := hs.k3 p h0 h1
  have hl := lt_len hs h0 h1
  rw [rg_5 _ (by omega), List.foldl_append]
  unfold dgP
  simp only [List.foldl_cons, List.foldl_nil]
  rw [show ((mp st p).2.1.length : Int) = st (14 * p + 3) from hl]
  have e : rg (fun j => st (14 * p + 1 + (5 + j))) (st (14 * p + 3)) = (mp st p).2.1 := rg_ext (f := fun j => st (14 * p + 1 + (5 + j))) (g := fun k => st (14 * p + 6 + k)) (fun k _ _ => by show st _ = st _; congr 1; omega)
  rw [e, show 14 * p + 1 + 0 = 14 * p + 1 by omega, show 14 * p + 1 + 1 = 14 * p + 2 by omega, show 14 * p + 1 + 2 = 14 * p + 3 by omega, show 14 * p + 1 + 3 = 14 * p + 4 by omega, show 14 * p + 1 + 4 = 14 * p + 5 by omega]
  rfl
theorem okS.kk {U : Int} {st : Int → Int} (h : okS U st) (p : Int) (h0 : 0 ≤ p) (h1 : p < st 2800) (k : Int) (g0 : 0 ≤ k) (g1 : k < 5 + st (14 * p + 3)) : -1 ≤ st (14 * p + 1 + k) ∧ st (14 * p + 1 + k) ≤ 1000000 := by
  have k1 := h.k1 p h0 h1
  have k2 := h.k2 p h0 h1
  have k3 := h.k3 p h0 h1
  have k4 := h.k4 p h0 h1
  have k5 := h.k5 p h0 h1
  by_cases hk : k < 5
  · rcases (show k = 0 ∨ k = 1 ∨ k = 2 ∨ k = 3 ∨ k = 4 by omega) with rfl | rfl | rfl | rfl | rfl
    · rw [show 14 * p + 1 + 0 = 14 * p + 1 by omega]; omega
    · rw [show 14 * p + 1 + 1 = 14 * p + 2 by omega]; omega
    · rw [show 14 * p + 1 + 2 = 14 * p + 3 by omega]; omega
    · rw [show 14 * p + 1 + 3 = 14 * p + 4 by omega]; omega
    · rw [show 14 * p + 1 + 4 = 14 * p + 5 by omega]; omega
  · have k6 := h.k6 p h0 h1 (k - 5) (by omega) (by omega)
    rw [show 14 * p + 6 + (k - 5) = 14 * p + 1 + k by omega] at k6
    omega
theorem tld_in {N : Int} {st bk : Int → Int} {un ck : Int} {ty : Int → Int} {tm : Int} {tx : Int → Int} {ln : Int} {rf : Int → Int} (h : okM N st bk un ck ty tm tx ln rf) (k : Int) : rI (tld k (absM st bk un ck ty tm tx ln rf)) := by
  have h1 := ml_len st (st 2800).toNat
  have h2 := h.hs.gv
  have h3 := h.hs.kd
  have h4 := h.hs.sl
  have h5 := h.hck
  have h6 := h.htm
  have h7 := h.hln
  have h8 := h.hH.1
  have h9 := h.hrf
  have h0 := h.hN
  unfold absM bo tld
  simp only [rg_len, hs_len]
  repeat' split
  all_goals omega
/-! ===== ranks ===== -/
abbrev Rk : Type := Int × Int × Int
def ahR (x y : Rk) : Bool := decide (y.2.1 < x.2.1) || (decide (x.2.1 = y.2.1) && decide (x.1 < y.1))
def toR (L : List Rk) (x : Rk) : Bool := decide (x.2.2 ≤ 0) || L.all (fun y => decide (y.1 = x.1) || decide (y.2.2 ≠ x.2.2) || ahR x y)
def cnR (L : List Rk) (x : Rk) : Int := (L.filter (fun y => decide (y.1 ≠ x.1) && toR L y && ahR y x)).length
def bst (L : List Rk) (k : Int) : Int := if k = -1 then (L.filter (toR L)).length else L.foldl (fun f x => if toR L x = true ∧ cnR L x = k then x.1 else f) (-5)
def rkl (st rk : Int → Int) : Nat → List Rk
  | 0 => []
  | n + 1 => rkl st rk n ++ (if rk (n : Int) = -100000 then [] else [((n : Int), rk n, st (14 * (n : Int) + 2))])
theorem rkl_s (st rk : Int → Int) {p : Int} (h : 0 ≤ p) : rkl st rk (p + 1).toNat = rkl st rk p.toNat ++ (if rk p = -100000 then [] else [(p, rk p, st (14 * p + 2))]) := by
  rw [show (p + 1).toNat = p.toNat + 1 by omega]
  simp only [rkl]
  rw [Int.toNat_of_nonneg h]
theorem rkl_all (st rk : Int → Int) (P : Rk → Prop) : ∀ n : Nat, (∀ y ∈ rkl st rk n, P y) ↔ ∀ q : Int, 0 ≤ q → q < n → rk q ≠ -100000 → P (q, rk q, st (14 * q + 2)) := by
  intro n
  induction n with
  | zero => simp [rkl]; omega
  | succ n ih =>
    simp only [rkl, List.mem_append]
    constructor
    · intro h q h0 h1 h2
      by_cases e : q = n
      · subst e
        exact h _ (Or.inr (by rw [if_neg h2]; exact List.mem_singleton.mpr rfl))
      · exact ih.mp (fun y hy => h y (Or.inl hy)) q h0 (by omega) h2
    · intro h y hy
      rcases hy with hy | hy
      · exact ih.mpr (fun q h0 h1 h2 => h q h0 (by omega) h2) y hy
      · by_cases e : rk (n : Int) = -100000
        · rw [if_pos e] at hy; simp at hy
        · rw [if_neg e, List.mem_singleton] at hy
          subst hy
          exact h n (by omega) (by omega) e
def rkF (z : Int) (st : Int → Int) (t : List Int) (p : Int) : Int := if st (14 * p) = 1 ∧ bgs t (lt st p) = true then st (14 * p + 1) else if st (14 * p) = 1 ∧ z ≠ 0 ∧ clo t (lt st p) = true then st (14 * p + 1) - st 2802 else -100000
/-- ranks of phrases: near (z not 0) or best -/
def rnk (z : Int) (t : List Int) (sl : Int) (x : Ph) : Option Rk := if bgs t x.2.1 = true then some (x.1, x.2.2.1, x.2.2.2.1) else if z ≠ 0 ∧ clo t x.2.1 = true then some (x.1, x.2.2.1 - sl, x.2.2.2.1) else none
def rks (z : Int) (t : List Int) (o : Bo) : List Rk := o.1.filterMap (rnk z t o.2.2.2)
theorem rkl_rks {U : Int} {st rk : Int → Int} {z : Int} {t : List Int} (hs : okS U st) (h : ∀ p, 0 ≤ p → p < st 2800 → rk p = rkF z st t p) : rkl st rk (st 2800).toNat = rks z t (bo st) := by
  have key : ∀ n : Nat, (n : Int) ≤ st 2800 → rkl st rk n = (ml st n).filterMap (rnk z t (st 2802)) := by
    intro n
    induction n with
    | zero => intro _; rfl
    | succ n ih =>
      intro hn
      simp only [rkl, ml]
      rw [List.filterMap_append, ih (by omega), h n (by omega) (by omega)]
      congr 1
      have k1 := hs.k1 n (by omega) (by omega)
      have sl := hs.sl
      by_cases e : st (14 * (n : Int)) = 1
      · rw [if_pos e]
        simp only [List.filterMap_cons, List.filterMap_nil]
        have hR : rnk z t (st 2802) (mp st n) = if bgs t (lt st n) = true then some ((n : Int), st (14 * (n : Int) + 1), st (14 * (n : Int) + 2)) else if z ≠ 0 ∧ clo t (lt st n) = true then some ((n : Int), st (14 * (n : Int) + 1) - st 2802, st (14 * (n : Int) + 2)) else none := rfl
        rw [hR]
        by_cases e2 : bgs t (lt st n) = true
        · have hF : rkF z st t n = st (14 * (n : Int) + 1) := by unfold rkF; rw [if_pos ⟨e, e2⟩]
          rw [hF, if_neg (show ¬ st (14 * (n : Int) + 1) = -100000 by omega), if_pos e2]
        · rw [if_neg e2]
          by_cases e3 : z ≠ 0 ∧ clo t (lt st n) = true
          · have hF : rkF z st t n = st (14 * (n : Int) + 1) - st 2802 := by unfold rkF; rw [if_neg (fun z => e2 z.2), if_pos ⟨e, e3⟩]
            rw [hF, if_neg (show ¬ st (14 * (n : Int) + 1) - st 2802 = -100000 by omega), if_pos e3]
          · have hF : rkF z st t n = -100000 := by unfold rkF; rw [if_neg (fun z => e2 z.2), if_neg (fun z => e3 z.2)]
            rw [hF, if_pos rfl, if_neg e3]
      · have hF : rkF z st t n = -100000 := by unfold rkF; rw [if_neg (fun z => e z.1), if_neg (fun z => e z.1)]
        rw [hF, if_pos rfl, if_neg e]
        rfl
  have := key (st 2800).toNat (by have := hs.gv; omega)
  rw [this]
  rfl
def sp_best (z k : Int) : AS → Int × AS
  | (o, h, t, c, x, b, n, f) => if k < -1 then (-10, aBad (o, h, t, c, x, b, n, f)) else (bst (rks z t o) k, (o, h, t, c, x, b, n, f))
theorem fil_rkl (c : Rk → Bool) (st rk : Int → Int) {p : Int} (h : 0 ≤ p) : (((rkl st rk (p + 1).toNat).filter c).length : Int) = ((rkl st rk p.toNat).filter c).length + (if rk p ≠ -100000 ∧ c (p, rk p, st (14 * p + 2)) = true then 1 else 0) := by
  rw [rkl_s st rk h, List.filter_append, List.length_append]
  by_cases e : rk p = -100000
  · rw [if_pos e, if_neg (fun z => z.1 e)]; simp
  · by_cases e2 : c (p, rk p, st (14 * p + 2)) = true
    · rw [if_neg e, if_pos ⟨e, e2⟩]; simp [e2]
    · rw [if_neg e, if_neg (fun z => e2 z.2)]; simp [e2]
theorem fold_rkl {α : Type} (f : α → Rk → α) (a : α) (st rk : Int → Int) {p : Int} (h : 0 ≤ p) : (rkl st rk (p + 1).toNat).foldl f a = if rk p ≠ -100000 then f ((rkl st rk p.toNat).foldl f a) (p, rk p, st (14 * p + 2)) else (rkl st rk p.toNat).foldl f a := by
  rw [rkl_s st rk h, List.foldl_append]
  by_cases e : rk p = -100000
  · rw [if_pos e, if_neg (fun z => z e)]; rfl
  · rw [if_neg e, if_pos e]; rfl
