/-! ===== names of orders as String constants; the class's reader ===== -/
def nmz (i : Nat) : List Int := ([[97, 100, 100], [117, 115, 101], [115, 99, 111, 114, 101], [100, 114, 111, 112], [114, 97, 110, 107], [115, 108, 105, 112], [102, 97, 100, 101]] : List (List Int)).getD i []
theorem nmz_len : ∀ i, i < 7 → (nmz i).length = sN.getD i 0 := by decide
theorem sN_le : ∀ i, i < 7 → sN.getD i 0 ≤ 5 := by decide
theorem nmz_by : ∀ i, i < 7 → ∀ j, j < 5 → (zI ((sB.getD i []).getD j 0).toInt &&& zI 255 = zI ((nmz i).getD j 0)) ∧ ((zI ((nmz i).getD j 0)).toUInt32 % 65536).toInt32 = zI ((nmz i).getD j 0) ∧ 0 ≤ (nmz i).getD j 0 ∧ (nmz i).getD j 0 < 65536 := by decide +kernel
theorem sh0 : ∀ i, i < 7 → zI ((sN.getD i 0 : Nat) : Int) >>> (zI 0 &&& 31) = zI ((sN.getD i 0 : Nat) : Int) := by decide +kernel
theorem nmv_z : ∀ i, i < 7 → nmv (nmz i) = (i : Int) + 1 := by decide +kernel
theorem nmv_n {w : List Int} (h : ∀ i, i < 7 → ¬ w = nmz i) : nmv w = 0 := by
  unfold nmv
  rw [if_neg (show ¬ w = [97, 100, 100] from h 0 (by decide)), if_neg (show ¬ w = [117, 115, 101] from h 1 (by decide)), if_neg (show ¬ w = [115, 99, 111, 114, 101] from h 2 (by decide)), if_neg (show ¬ w = [100, 114, 111, 112] from h 3 (by decide)), if_neg (show ¬ w = [114, 97, 110, 107] from h 4 (by decide)), if_neg (show ¬ w = [115, 108, 105, 112] from h 5 (by decide)), if_neg (show ¬ w = [102, 97, 100, 101] from h 6 (by decide))]
/-- a later fault does not hide the first -/
def ff (fa fl p : Int) : Int := if fa = -1 ∧ fl = 1 then p else fa
/-- as far as it has come: well, and at p; or a fault at p -/
abbrev gd (fa pl fl p : Int) : Prop := (fa = -1 ∧ fl = 0 ∧ pl = p) ∨ (fl = 1 ∧ fa = p ∧ 0 ≤ fa)
theorem gd_ff {fa pl fl p fl2 p2 : Int} (h : gd fa pl fl p) (hf : fl2 = 0 ∨ fl2 = 1) (hp : 0 ≤ p2) : gd (ff fa fl2 p2) p2 (if fl = 0 then fl2 else fl) (if fl = 0 then p2 else p) := by
  unfold ff
  rcases h with ⟨a, b, c⟩ | ⟨a, b, c⟩
  · rw [if_pos b, if_pos b]
    rcases hf with e | e
    · rw [if_neg (by omega)]; exact Or.inl ⟨a, e, rfl⟩
    · rw [if_pos ⟨a, e⟩]; exact Or.inr ⟨e, rfl, hp⟩
  · rw [if_neg (by omega), if_neg (by omega), if_neg (by omega)]
    exact Or.inr ⟨a, b, c⟩
theorem rg_eqL {f : Int → Int} {n : Int} {l : List Int} (h0 : 0 ≤ n) (hl : (l.length : Int) = n) : rg f n = l ↔ ∀ j, 0 ≤ j → j < n → f j = l.getD j.toNat 0 := by
  constructor
  · intro h j j0 j1
    rw [← h, rg_getD f 0 j0, if_pos j1]
  · intro h
    apply List.ext_getElem?
    intro i
    by_cases hi : (i : Int) < n
    · rw [rg_at f (by omega), h i (by omega) hi, Int.toNat_natCast, List.getD_eq_getElem?_getD, List.getElem?_eq_getElem (by omega)]
      rfl
    · rw [List.getElem?_eq_none (by rw [rg_len]; omega), List.getElem?_eq_none (by omega)]
theorem sli_nmz {by_ : Int → Int} {le x n : Int} {l : List Int} (hx : 0 ≤ x) (hn : 0 ≤ n) (h : x + n ≤ le) (hl : (l.length : Int) = n) : sli (rg by_ le) x n = l ↔ ∀ j, x ≤ j → j < x + n → by_ j = l.getD (j - x).toNat 0 := by
  rw [sli_rg hx hn h, rg_eqL hn hl]
  constructor
  · intro z j j0 j1
    have := z (j - x) (by omega) (by omega)
    rw [← this]
    congr 1
    omega
  · intro z j j0 j1
    have := z (x + j) (by omega) (by omega)
    rw [this]
    congr 2
    omega
theorem rn_in {a b : Int} {f : Int → Int} {n p k : Int} (hp : 0 ≤ p) (hn : p ≤ n) (h0 : p ≤ k) (h1 : k < p + rn a b (rg f n) p) : a ≤ f k ∧ f k ≤ b := by
  have hr := twl_b (fun c => decide (a ≤ c) && decide (c ≤ b)) (rg f n) (p := p) hp (by rw [rg_len]; omega)
  have hr2 : 0 ≤ rn a b (rg f n) p ∧ p + rn a b (rg f n) p ≤ n := ⟨hr.1, by have := hr.2; rw [rg_len] at this; unfold rn; omega⟩
  have hm : f k ∈ sli (rg f n) p (rn a b (rg f n) p) := by
    rw [sli_rg hp hr2.1 hr2.2]
    exact List.mem_of_getElem? (i := (k - p).toNat) (by rw [rg_at _ (by omega), show p + ((k - p).toNat : Int) = k by omega])
  exact sli_rn _ hm
theorem tw_two {P Q : Int → Bool} (hPQ : ∀ c, P c = true → Q c = true) : ∀ l : List Int, (l.takeWhile P).length = (l.takeWhile Q).length ↔ (l.takeWhile Q).all P = true := by
  intro l
  induction l with
  | nil => simp
  | cons x l ih =>
    by_cases hp : P x = true
    · rw [List.takeWhile_cons_of_pos hp, List.takeWhile_cons_of_pos (hPQ x hp)]
      simp only [List.length_cons, List.all_cons, hp, Bool.true_and]
      rw [← ih]
      omega
    · rw [List.takeWhile_cons_of_neg hp]
      by_cases hq : Q x = true
      · rw [List.takeWhile_cons_of_pos hq]
        simp [hp]
      · rw [List.takeWhile_cons_of_neg hq]
        simp
theorem rn_all (T : List Int) (p : Int) : rn 97 104 T p = rn 97 122 T p ↔ allB 97 104 (sli T p (rn 97 122 T p)) = true := by
  have h := tw_two (P := fun c => decide (97 ≤ c) && decide (c ≤ 104)) (Q := fun c => decide (97 ≤ c) && decide (c ≤ 122)) (fun c hc => by
    rw [Bool.and_eq_true, decide_eq_true_eq, decide_eq_true_eq] at hc ⊢
    omega) (T.drop p.toNat)
  have e : sli T p (rn 97 122 T p) = (T.drop p.toNat).takeWhile (fun c => decide (97 ≤ c) && decide (c ≤ 122)) := by
    unfold sli rn twl
    rw [Int.toNat_natCast]
    exact (List.prefix_iff_eq_take.mp (List.takeWhile_prefix _)).symm
  rw [e]
  unfold allB
  rw [← h]
  unfold rn twl
  omega
/-- orders as the class's rows hold them -/
def cor (L : List Or3) (ve ow fi se : Int → Int) : Prop := ∀ (i : Nat) (r : Or3), L[i]? = some r → ve i = r.1 - 1 ∧ ow i = ((pck r.2.1 : Nat) : Int) ∧ fi i = r.2.2.1 ∧ se i = r.2.2.2
theorem cor_app {L : List Or3} {ve ow fi se : Int → Int} {n : Int} {r : Or3} {w a b : Int} (h : cor L ve ow fi se) (hl : (L.length : Int) = n) (hw : w = ((pck r.2.1 : Nat) : Int)) (ha : a = r.2.2.1) (hb : b = r.2.2.2) : cor (L ++ [r]) (up ve n (r.1 - 1)) (up ow n w) (up fi n a) (up se n b) := by
  intro i x hx
  by_cases hi : i < L.length
  · rw [List.getElem?_append_left hi] at hx
    rw [up_n _ _ (by omega), up_n _ _ (by omega), up_n _ _ (by omega), up_n _ _ (by omega)]
    exact h i x hx
  · have hi2 : i = L.length := by
      have := (List.getElem?_eq_some_iff.mp hx).1
      simp at this
      omega
    subst hi2
    rw [List.getElem?_append_right (Nat.le_refl _), Nat.sub_self] at hx
    have e : r = x := by simpa using hx
    subst e
    rw [hl, up_s, up_s, up_s, up_s]
    exact ⟨rfl, hw, ha, hb⟩
