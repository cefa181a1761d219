/-! ===== the text of orders ===== -/
def twl (P : Int → Bool) (T : List Int) (p : Int) : Int := (((T.drop p.toNat).takeWhile P).length : Int)
def nb (T : List Int) (p : Int) : Int := p + twl (fun c => c == 32) T p
def rn (a b : Int) (T : List Int) (p : Int) : Int := twl (fun c => decide (a ≤ c) && decide (c ≤ b)) T p
def sli (T : List Int) (p n : Int) : List Int := (T.drop p.toNat).take n.toNat
theorem tw_rg {P : Int → Bool} {g : Int → Int} {m j : Int} (h0 : 0 ≤ j) (h1 : j ≤ m) (hin : ∀ k, 0 ≤ k → k < j → P (g k) = true) (hst : j = m ∨ P (g j) = false) : (rg g m).takeWhile P = rg g j := by
  have e : rg g m = rg g j ++ rg (fun k => g (j + k)) (m - j) := by
    have h := (List.take_append_drop j.toNat (rg g m)).symm
    rw [rg_take g j.toNat (by omega), rg_drop g j.toNat (by omega), Int.toNat_of_nonneg h0] at h
    exact h
  rw [e, List.takeWhile_append_of_pos]
  · by_cases hj : j = m
    · rw [rg_0 (fun k => g (j + k)) (by omega)]; simp
    · have h2 : P (g j) = false := by
        rcases hst with h | h
        · exact absurd h hj
        · exact h
      obtain ⟨n, hn⟩ : ∃ n : Nat, (m - j).toNat = n + 1 := ⟨(m - j).toNat - 1, by omega⟩
      have e2 : rg (fun k => g (j + k)) (m - j) = g j :: (List.range n).map (fun k : Nat => g (j + ((k + 1 : Nat) : Int))) := by
        unfold rg
        rw [hn, List.range_succ_eq_map, List.map_cons, List.map_map]
        congr 1
        show g (j + ((0 : Nat) : Int)) = g j
        congr 1; omega
      rw [e2, List.takeWhile_cons, h2]; simp
  · intro x hx
    obtain ⟨k, k0, k1, rfl⟩ := rg_mem hx
    exact hin k k0 k1
theorem twl_rg {P : Int → Bool} {f : Int → Int} {n p q : Int} (hp : 0 ≤ p) (h1 : p ≤ q) (h2 : q ≤ n) (hin : ∀ k, p ≤ k → k < q → P (f k) = true) (hst : q = n ∨ P (f q) = false) : twl P (rg f n) p = q - p := by
  unfold twl
  rw [rg_drop f p.toNat (by omega), Int.toNat_of_nonneg hp, tw_rg (j := q - p) (by omega) (by omega) (fun k k0 k1 => hin (p + k) (by omega) (by omega)) (by
    rcases hst with h | h
    · exact Or.inl (by omega)
    · exact Or.inr (by rw [show p + (q - p) = q by omega]; exact h)), rg_len]
  omega
theorem twl_b (P : Int → Bool) (T : List Int) {p : Int} (h0 : 0 ≤ p) (h1 : p ≤ T.length) : 0 ≤ twl P T p ∧ p + twl P T p ≤ T.length := by
  unfold twl
  have := (List.takeWhile_sublist P (l := T.drop p.toNat)).length_le
  rw [List.length_drop] at this
  omega
theorem nb_b (T : List Int) {p : Int} (h0 : 0 ≤ p) (h1 : p ≤ T.length) : p ≤ nb T p ∧ nb T p ≤ T.length := by
  have := twl_b (fun c => c == 32) T h0 h1
  unfold nb
  omega
theorem nb_rg {f : Int → Int} {n p q : Int} (hp : 0 ≤ p) (h1 : p ≤ q) (h2 : q ≤ n) (hin : ∀ k, p ≤ k → k < q → f k = 32) (hst : q = n ∨ f q ≠ 32) : nb (rg f n) p = q := by
  unfold nb
  rw [twl_rg hp h1 h2 (fun k k0 k1 => by simp [hin k k0 k1]) (by
    rcases hst with h | h
    · exact Or.inl h
    · exact Or.inr (by simpa using h))]
  omega
theorem rn_rg {a b : Int} {f : Int → Int} {n p q : Int} (hp : 0 ≤ p) (h1 : p ≤ q) (h2 : q ≤ n) (hin : ∀ k, p ≤ k → k < q → a ≤ f k ∧ f k ≤ b) (hst : q = n ∨ ¬ (a ≤ f q ∧ f q ≤ b)) : rn a b (rg f n) p = q - p := by
  unfold rn
  refine twl_rg hp h1 h2 (fun k k0 k1 => ?_) ?_
  · rw [Bool.and_eq_true, decide_eq_true_eq, decide_eq_true_eq]; exact hin k k0 k1
  · rcases hst with h | h
    · exact Or.inl h
    · refine Or.inr ?_
      rw [Bool.eq_false_iff]
      intro z
      rw [Bool.and_eq_true, decide_eq_true_eq, decide_eq_true_eq] at z
      exact h z
theorem tw_idem (P : Int → Bool) : ∀ l : List Int, ((l.drop (l.takeWhile P).length).takeWhile P) = [] := by
  intro l
  induction l with
  | nil => rfl
  | cons x l ih =>
    rw [List.takeWhile_cons]
    by_cases h : P x = true
    · rw [if_pos h]; simpa using ih
    · rw [if_neg h]; simp [h]
theorem nb_nb (T : List Int) {p : Int} (h0 : 0 ≤ p) : nb T (nb T p) = nb T p := by
  have h : twl (fun c => c == 32) T (nb T p) = 0 := by
    unfold twl
    have e : (nb T p).toNat = p.toNat + ((T.drop p.toNat).takeWhile (fun c => c == 32)).length := by unfold nb twl; omega
    rw [e, ← List.drop_drop, tw_idem]
    rfl
  show nb T p + twl (fun c => c == 32) T (nb T p) = nb T p
  rw [h]; omega
theorem sli_rg {f : Int → Int} {n p k : Int} (hp : 0 ≤ p) (hk : 0 ≤ k) (h : p + k ≤ n) : sli (rg f n) p k = rg (fun j => f (p + j)) k := by
  unfold sli
  rw [rg_drop f p.toNat (by omega), Int.toNat_of_nonneg hp, rg_take _ _ (by omega), Int.toNat_of_nonneg hk]
def nmv (w : List Int) : Int := if w = [97, 100, 100] then 1 else if w = [117, 115, 101] then 2 else if w = [115, 99, 111, 114, 101] then 3 else if w = [100, 114, 111, 112] then 4 else if w = [114, 97, 110, 107] then 5 else if w = [115, 108, 105, 112] then 6 else if w = [102, 97, 100, 101] then 7 else 0
abbrev Or3 : Type := Int × List Int × Int × Int
def pV (T : List Int) (p : Int) : Int × Int × Int := if nmv (sli T (nb T p) (rn 97 122 T (nb T p))) = 0 then (1, nb T p, 0) else (0, nb T p + rn 97 122 T (nb T p), nmv (sli T (nb T p) (rn 97 122 T (nb T p))))
def allB (a b : Int) (w : List Int) : Bool := w.all (fun c => decide (a ≤ c) && decide (c ≤ b))
def pW (T : List Int) (p : Int) : Int × Int × List Int := if (1 ≤ rn 97 122 T (nb T p) ∧ rn 97 122 T (nb T p) ≤ 8) ∧ allB 97 104 (sli T (nb T p) (rn 97 122 T (nb T p))) = true then (0, nb T p + rn 97 122 T (nb T p), (sli T (nb T p) (rn 97 122 T (nb T p))).map (fun c => c - 97)) else (1, nb T p, [])
def numv (w : List Int) : Int := w.foldl (fun v c => 10 * v + c - 48) 0
def pN (most : Int) (T : List Int) (p : Int) : Int × Int × Int := if (1 ≤ rn 48 57 T (nb T p) ∧ rn 48 57 T (nb T p) ≤ 4) ∧ numv (sli T (nb T p) (rn 48 57 T (nb T p))) ≤ most then (0, nb T p + rn 48 57 T (nb T p), numv (sli T (nb T p) (rn 48 57 T (nb T p)))) else (1, nb T p, 0)
def pE (T : List Int) (p : Int) : Int × Int := if T.getD (nb T p).toNat (-1) = 59 then (0, nb T p + 1) else (1, nb T p)
def sW (T : List Int) (p : Int) : Int × Int × List Int := if (pV T p).1 = 0 ∧ (pV T p).2.2 ≤ 4 then pW T (pV T p).2.1 else ((pV T p).1, (pV T p).2.1, [])
def s1 (T : List Int) (p : Int) : Int × Int × Int := if (sW T p).1 = 0 ∧ ((pV T p).2.2 = 1 ∨ (pV T p).2.2 = 3 ∨ (pV T p).2.2 = 6) then pN 1000 T (sW T p).2.1 else if (sW T p).1 = 0 ∧ (pV T p).2.2 = 5 then pN 4 T (sW T p).2.1 else ((sW T p).1, (sW T p).2.1, 0)
def s2 (T : List Int) (p : Int) : Int × Int × Int := if (s1 T p).1 = 0 ∧ (pV T p).2.2 = 1 then pN 9 T (s1 T p).2.1 else ((s1 T p).1, (s1 T p).2.1, 0)
def s3 (T : List Int) (p : Int) : Int × Int := if (s2 T p).1 = 0 then pE T (s2 T p).2.1 else ((s2 T p).1, (s2 T p).2.1)
def oR (T : List Int) (p : Int) : Or3 := ((pV T p).2.2, (sW T p).2.2, (s1 T p).2.2, (s2 T p).2.2)
def pA (T : List Int) : Nat → Int → List Or3 → Int × List Or3
  | 0, _, acc => (-1, acc)
  | k + 1, p, acc => if (s3 T p).1 = 0 then (if nb T (s3 T p).2 < T.length then pA T k (nb T (s3 T p).2) (acc ++ [oR T p]) else (-1, acc ++ [oR T p])) else ((s3 T p).2, [])
/-! places and flags -/
theorem nmv_len {w : List Int} (h : nmv w ≠ 0) : (1 ≤ nmv w ∧ nmv w ≤ 7) ∧ (w.length : Int) = if nmv w ≤ 2 then 3 else if nmv w = 3 then 5 else 4 := by
  unfold nmv at h ⊢
  repeat' split at h
  all_goals first | (subst_vars; exact ⟨by decide, by decide⟩) | exact absurd rfl h
theorem sli_len {T : List Int} {p k : Int} (hp : 0 ≤ p) (hk : 0 ≤ k) (h : p + k ≤ T.length) : ((sli T p k).length : Int) = k := by
  unfold sli
  rw [List.length_take, List.length_drop]
  omega
theorem pV_b {T : List Int} {p : Int} (h0 : 0 ≤ p) (h1 : p ≤ T.length) : ((pV T p).1 = 0 ∧ (1 ≤ (pV T p).2.2 ∧ (pV T p).2.2 ≤ 7) ∧ (p + (if (pV T p).2.2 ≤ 2 then 3 else if (pV T p).2.2 = 3 then 5 else 4) ≤ (pV T p).2.1 ∧ (pV T p).2.1 ≤ T.length)) ∨ ((pV T p).1 = 1 ∧ (pV T p).2.2 = 0 ∧ p ≤ (pV T p).2.1 ∧ (pV T p).2.1 ≤ T.length) := by
  have hn := nb_b T h0 h1
  have hr := twl_b (fun c => decide (97 ≤ c) && decide (c ≤ 122)) T (p := nb T p) (by omega) hn.2
  unfold pV
  by_cases e : nmv (sli T (nb T p) (rn 97 122 T (nb T p))) = 0
  · rw [if_pos e]; exact Or.inr ⟨rfl, rfl, hn⟩
  · rw [if_neg e]
    obtain ⟨g1, g2⟩ := nmv_len e
    have g3 := sli_len (T := T) (p := nb T p) (k := rn 97 122 T (nb T p)) (by omega) hr.1 hr.2
    have hr2 : nb T p + rn 97 122 T (nb T p) ≤ T.length := hr.2
    refine Or.inl ⟨rfl, g1, ?_, hr2⟩
    simp only
    omega
theorem pW_b {T : List Int} {p : Int} (h0 : 0 ≤ p) (h1 : p ≤ T.length) : ((pW T p).1 = 0 ∧ (p + 1 ≤ (pW T p).2.1 ∧ (pW T p).2.1 ≤ T.length) ∧ okL (pW T p).2.2 ∧ (1 ≤ (pW T p).2.2.length ∧ (pW T p).2.2.length ≤ 8)) ∨ ((pW T p).1 = 1 ∧ (pW T p).2.2 = [] ∧ p ≤ (pW T p).2.1 ∧ (pW T p).2.1 ≤ T.length) := by
  have hn := nb_b T h0 h1
  have hr := twl_b (fun c => decide (97 ≤ c) && decide (c ≤ 122)) T (p := nb T p) (by omega) hn.2
  have hr2 : 0 ≤ rn 97 122 T (nb T p) ∧ nb T p + rn 97 122 T (nb T p) ≤ T.length := hr
  unfold pW
  split
  · rename_i e
    have g3 := sli_len (T := T) (p := nb T p) (k := rn 97 122 T (nb T p)) (by omega) hr2.1 hr2.2
    refine Or.inl ⟨rfl, by simp only; omega, ?_, by simp only [List.length_map]; omega⟩
    intro y hy
    obtain ⟨c, hc, rfl⟩ := List.mem_map.mp hy
    have h := e.2
    unfold allB at h
    rw [List.all_eq_true] at h
    have := h c hc
    rw [Bool.and_eq_true, decide_eq_true_eq, decide_eq_true_eq] at this
    omega
  · exact Or.inr ⟨rfl, rfl, hn⟩
theorem numv_b : ∀ (w : List Int) (a : Int), (∀ c ∈ w, 48 ≤ c ∧ c ≤ 57) → 0 ≤ a → 0 ≤ w.foldl (fun v c => 10 * v + c - 48) a := by
  intro w
  induction w with
  | nil => intro a _ h; exact h
  | cons x w ih =>
    intro a h ha
    rw [List.foldl_cons]
    have := h x (by simp)
    exact ih _ (fun c hc => h c (by simp [hc])) (by omega)
theorem tw_mem (P : Int → Bool) : ∀ {l : List Int} {c : Int}, c ∈ l.takeWhile P → P c = true := by
  intro l
  induction l with
  | nil => intro c h; simp at h
  | cons x l ih =>
    intro c h
    rw [List.takeWhile_cons] at h
    by_cases e : P x = true
    · rw [if_pos e] at h
      rcases List.mem_cons.mp h with rfl | h
      · exact e
      · exact ih h
    · rw [if_neg e] at h; simp at h
theorem sli_rn {T : List Int} {a b p : Int} : ∀ c ∈ sli T p (rn a b T p), a ≤ c ∧ c ≤ b := by
  intro c hc
  unfold sli rn twl at hc
  rw [Int.toNat_natCast] at hc
  have hpre := List.takeWhile_prefix (fun c => decide (a ≤ c) && decide (c ≤ b)) (l := T.drop p.toNat)
  rw [← List.prefix_iff_eq_take.mp hpre] at hc
  have := tw_mem _ hc
  rw [Bool.and_eq_true, decide_eq_true_eq, decide_eq_true_eq] at this
  exact this
theorem pN_b {T : List Int} {p : Int} (most : Int) (h0 : 0 ≤ p) (h1 : p ≤ T.length) : ((pN most T p).1 = 0 ∧ (p + 1 ≤ (pN most T p).2.1 ∧ (pN most T p).2.1 ≤ T.length) ∧ (0 ≤ (pN most T p).2.2 ∧ (pN most T p).2.2 ≤ most)) ∨ ((pN most T p).1 = 1 ∧ (pN most T p).2.2 = 0 ∧ p ≤ (pN most T p).2.1 ∧ (pN most T p).2.1 ≤ T.length) := by
  have hn := nb_b T h0 h1
  have hr := twl_b (fun c => decide (48 ≤ c) && decide (c ≤ 57)) T (p := nb T p) (by omega) hn.2
  have hr2 : 0 ≤ rn 48 57 T (nb T p) ∧ nb T p + rn 48 57 T (nb T p) ≤ T.length := hr
  unfold pN
  split
  · rename_i e
    refine Or.inl ⟨rfl, by simp only; omega, numv_b _ 0 sli_rn (Int.le_refl _), e.2⟩
  · exact Or.inr ⟨rfl, rfl, hn⟩
theorem pE_b {T : List Int} {p : Int} (h0 : 0 ≤ p) (h1 : p ≤ T.length) : ((pE T p).1 = 0 ∧ p + 1 ≤ (pE T p).2 ∧ (pE T p).2 ≤ T.length) ∨ ((pE T p).1 = 1 ∧ p ≤ (pE T p).2 ∧ (pE T p).2 ≤ T.length) := by
  have hn := nb_b T h0 h1
  unfold pE
  split
  · rename_i e
    refine Or.inl ⟨rfl, by simp only; omega, ?_⟩
    have : (nb T p).toNat < T.length := by
      rcases Nat.lt_or_ge (nb T p).toNat T.length with h | h
      · exact h
      · rw [List.getD_eq_getElem?_getD, List.getElem?_eq_none h] at e
        simp at e
    simp only; omega
  · exact Or.inr ⟨rfl, hn⟩
/-- an order as it may be done -/
def okOr (r : Or3) : Prop := (1 ≤ r.1 ∧ r.1 ≤ 7) ∧ okL r.2.1 ∧ (r.1 ≤ 4 → 1 ≤ r.2.1.length ∧ r.2.1.length ≤ 8) ∧ (0 ≤ r.2.2.1 ∧ r.2.2.1 ≤ 1000) ∧ (r.1 = 5 → r.2.2.1 ≤ 4) ∧ (0 ≤ r.2.2.2 ∧ r.2.2.2 ≤ 9)
theorem sW_b {T : List Int} {p : Int} (h0 : 0 ≤ p) (h1 : p ≤ T.length) : ((sW T p).1 = 0 ∧ (pV T p).1 = 0 ∧ ((pV T p).2.1 + (if (pV T p).2.2 ≤ 4 then 1 else 0) ≤ (sW T p).2.1 ∧ (sW T p).2.1 ≤ T.length) ∧ okL (sW T p).2.2 ∧ ((pV T p).2.2 ≤ 4 → 1 ≤ (sW T p).2.2.length ∧ (sW T p).2.2.length ≤ 8)) ∨ ((sW T p).1 = 1 ∧ p ≤ (sW T p).2.1 ∧ (sW T p).2.1 ≤ T.length ∧ okL (sW T p).2.2 ∧ (sW T p).2.2.length ≤ 8) := by
  unfold sW
  rcases pV_b h0 h1 with ⟨g1, g2, g3, g4⟩ | ⟨g1, g2, g3, g4⟩
  · by_cases e : (pV T p).2.2 ≤ 4
    · rw [if_pos ⟨g1, e⟩, if_pos e]
      have gp : 0 ≤ (pV T p).2.1 := by split at g3 <;> (try split at g3) <;> omega
      have gp2 : p ≤ (pV T p).2.1 := by split at g3 <;> (try split at g3) <;> omega
      rcases pW_b (p := (pV T p).2.1) gp g4 with ⟨w1, w2, w3, w4⟩ | ⟨w1, w2, w3, w4⟩
      · exact Or.inl ⟨w1, g1, w2, w3, fun _ => w4⟩
      · exact Or.inr ⟨w1, by omega, w4, by rw [w2]; exact fun y hy => by simp at hy, by rw [w2]; simp⟩
    · rw [if_neg (fun z => e z.2), if_neg e]
      exact Or.inl ⟨g1, g1, by simp only; omega, fun y hy => by simp at hy, fun z => absurd z e⟩
  · rw [if_neg (fun z => by omega)]
    exact Or.inr ⟨g1, g3, g4, fun y hy => by simp at hy, by simp⟩
theorem s1_b {T : List Int} {p : Int} (h0 : 0 ≤ p) (h1 : p ≤ T.length) : ((s1 T p).1 = 0 ∧ (sW T p).1 = 0 ∧ ((sW T p).2.1 + (if (pV T p).2.2 = 1 ∨ (pV T p).2.2 = 3 ∨ (pV T p).2.2 = 6 ∨ (pV T p).2.2 = 5 then 1 else 0) ≤ (s1 T p).2.1 ∧ (s1 T p).2.1 ≤ T.length) ∧ (0 ≤ (s1 T p).2.2 ∧ (s1 T p).2.2 ≤ 1000) ∧ ((pV T p).2.2 = 5 → (s1 T p).2.2 ≤ 4)) ∨ ((s1 T p).1 = 1 ∧ p ≤ (s1 T p).2.1 ∧ (s1 T p).2.1 ≤ T.length) := by
  unfold s1
  rcases sW_b h0 h1 with ⟨g1, g2, g3, g4, g5⟩ | ⟨g1, g2, g3, g4⟩
  · have gv := pV_b h0 h1
    have gp : p ≤ (sW T p).2.1 := by
      rcases gv with ⟨v1, v2, v3, v4⟩ | ⟨v1, v2, v3, v4⟩
      · split at v3 <;> (try split at v3) <;> split at g3 <;> omega
      · split at g3 <;> omega
    by_cases e : (pV T p).2.2 = 1 ∨ (pV T p).2.2 = 3 ∨ (pV T p).2.2 = 6
    · rw [if_pos ⟨g1, e⟩, if_pos (by omega)]
      rcases pN_b (p := (sW T p).2.1) 1000 (by omega) g3.2 with ⟨w1, w2, w3⟩ | ⟨w1, w2, w3, w4⟩
      · exact Or.inl ⟨w1, g1, w2, w3, fun z => by omega⟩
      · exact Or.inr ⟨w1, by omega, w4⟩
    · rw [if_neg (fun z => e z.2)]
      by_cases e2 : (pV T p).2.2 = 5
      · rw [if_pos ⟨g1, e2⟩, if_pos (by omega)]
        rcases pN_b (p := (sW T p).2.1) 4 (by omega) g3.2 with ⟨w1, w2, w3⟩ | ⟨w1, w2, w3, w4⟩
        · exact Or.inl ⟨w1, g1, w2, by omega, fun z => w3.2⟩
        · exact Or.inr ⟨w1, by omega, w4⟩
      · rw [if_neg (fun z => e2 z.2), if_neg (by omega)]
        exact Or.inl ⟨g1, g1, by simp only; omega, by simp only; omega, fun z => absurd z e2⟩
  · rw [if_neg (fun z => by omega), if_neg (fun z => by omega)]
    exact Or.inr ⟨g1, g2, g3⟩
theorem s2_b {T : List Int} {p : Int} (h0 : 0 ≤ p) (h1 : p ≤ T.length) : ((s2 T p).1 = 0 ∧ (s1 T p).1 = 0 ∧ ((s1 T p).2.1 ≤ (s2 T p).2.1 ∧ (s2 T p).2.1 ≤ T.length) ∧ (0 ≤ (s2 T p).2.2 ∧ (s2 T p).2.2 ≤ 9)) ∨ ((s2 T p).1 = 1 ∧ p ≤ (s2 T p).2.1 ∧ (s2 T p).2.1 ≤ T.length) := by
  unfold s2
  rcases s1_b h0 h1 with ⟨g1, g2, g3, g4, g5⟩ | ⟨g1, g2, g3⟩
  · have gw := sW_b h0 h1
    have gv := pV_b h0 h1
    have gp : p ≤ (s1 T p).2.1 := by
      rcases gw with ⟨w1, w2, w3, w4⟩ | ⟨w1, w2, w3⟩
      · rcases gv with ⟨v1, v2, v3, v4⟩ | ⟨v1, v2, v3, v4⟩
        · split at v3 <;> (try split at v3) <;> split at w3 <;> split at g3 <;> omega
        · omega
      · omega
    by_cases e : (pV T p).2.2 = 1
    · rw [if_pos ⟨g1, e⟩]
      rcases pN_b (p := (s1 T p).2.1) 9 (by omega) g3.2 with ⟨w1, w2, w3⟩ | ⟨w1, w2, w3, w4⟩
      · exact Or.inl ⟨w1, g1, by omega, w3⟩
      · exact Or.inr ⟨w1, by omega, w4⟩
    · rw [if_neg (fun z => e z.2)]
      exact Or.inl ⟨g1, g1, by simp only; omega, by simp only; omega⟩
  · rw [if_neg (fun z => by omega)]
    exact Or.inr ⟨g1, g2, g3⟩
theorem s3_b {T : List Int} {p : Int} (h0 : 0 ≤ p) (h1 : p ≤ T.length) : ((s3 T p).1 = 0 ∧ (p + 5 ≤ (s3 T p).2 ∧ (s3 T p).2 ≤ T.length) ∧ okOr (oR T p)) ∨ ((s3 T p).1 = 1 ∧ p ≤ (s3 T p).2 ∧ (s3 T p).2 ≤ T.length) := by
  unfold s3
  rcases s2_b h0 h1 with ⟨g1, g2, g3, g4⟩ | ⟨g1, g2, g3⟩
  · rw [if_pos g1]
    rcases s1_b h0 h1 with ⟨a1, a2, a3, a4, a5⟩ | ⟨a1, a2, a3⟩
    · rcases sW_b h0 h1 with ⟨b1, b2, b3, b4, b5⟩ | ⟨b1, b2, b3⟩
      · rcases pV_b h0 h1 with ⟨v1, v2, v3, v4⟩ | ⟨v1, v2, v3, v4⟩
        · have gp : p + 4 ≤ (s2 T p).2.1 := by
            split at v3 <;> (try split at v3) <;> split at b3 <;> split at a3 <;> omega
          rcases pE_b (p := (s2 T p).2.1) (by omega) g3.2 with ⟨w1, w2, w3⟩ | ⟨w1, w2, w3⟩
          · exact Or.inl ⟨w1, by omega, v2, b4, b5, a4, a5, g4⟩
          · exact Or.inr ⟨w1, by omega, w3⟩
        · omega
      · omega
    · omega
  · rw [if_neg (by omega)]
    exact Or.inr ⟨g1, g2, g3⟩
theorem pV_nb (T : List Int) {p : Int} (h : 0 ≤ p) : pV T (nb T p) = pV T p := by unfold pV; rw [nb_nb T h]
theorem s3_nb (T : List Int) {p : Int} (h : 0 ≤ p) : s3 T (nb T p) = s3 T p ∧ oR T (nb T p) = oR T p := by
  have e0 := pV_nb T h
  have e1 : sW T (nb T p) = sW T p := by unfold sW; rw [e0]
  have e2 : s1 T (nb T p) = s1 T p := by unfold s1; rw [e0, e1]
  have e3 : s2 T (nb T p) = s2 T p := by unfold s2; rw [e0, e2]
  exact ⟨by unfold s3; rw [e3], by unfold oR; rw [e0, e1, e2, e3]⟩
theorem pA_nb (T : List Int) (k : Nat) {p : Int} (h : 0 ≤ p) (acc : List Or3) : pA T (k + 1) (nb T p) acc = pA T (k + 1) p acc := by
  simp only [pA]
  rw [(s3_nb T h).1, (s3_nb T h).2]
/-! doing the orders -/
def fw (o : Bo) (w : List Int) : Option Ph := o.1.find? (fun y => y.2.1 == w)
def dO (q : Bo × Int × Int) (r : Or3) : Bo × Int × Int :=
  if r.1 = 1 then (if hasB q.1 r.2.1 = false ∧ roomB q.1 = true then (addB q.1 r.2.1 r.2.2.1 r.2.2.2, q.2.1, q.2.2 + 1) else q)
  else if r.1 = 5 then ((q.1.1, q.1.2.1, r.2.2.1, q.1.2.2.2), q.2.1, q.2.2 + 1)
  else if r.1 = 6 then ((q.1.1, q.1.2.1, q.1.2.2.1, r.2.2.1), q.2.1, q.2.2 + 1)
  else if r.1 = 7 then (halfB q.1, q.2.1, q.2.2 + 1)
  else match fw q.1 r.2.1 with
    | none => q
    | some y => if r.1 = 2 then (useB q.1 y.1 (tick q.2.1), tick q.2.1, q.2.2 + 1) else if r.1 = 3 then (scoB q.1 y.1 r.2.2.1, q.2.1, q.2.2 + 1) else (outB q.1 y.1, q.2.1, q.2.2 + 1)
def sp_runs : AS → Int × AS
  | (o, h, t, c, x, b, n, f) => if (pA x 24 0 []).1 = -1 then (((pA x 24 0 []).2.foldl dO (o, c, 0)).2.2, (((pA x 24 0 []).2.foldl dO (o, c, 0)).1, noteH h o, t, ((pA x 24 0 []).2.foldl dO (o, c, 0)).2.1, x, b, n, f)) else (-10 - (pA x 24 0 []).1, (o, h, t, c, x, b, n, f))
