def nme (a b c d e k : Int) : Int := if k = 0 then a else if k = 1 then b else if k = 2 then c else if k = 3 then d else e
theorem nme_eq {tx : Int → Int} {ln pl n a b c d e : Int} (h0 : 0 ≤ pl) (hn : 0 ≤ n) (h : pl + n ≤ ln) : sli (rg tx ln) pl n = rg (nme a b c d e) n ↔ ∀ k, 0 ≤ k → k < n → tx (pl + k) = nme a b c d e k := by
  rw [sli_rg h0 hn h, rg_eq hn hn]
  exact ⟨fun z => z.2, fun z => ⟨rfl, z⟩⟩
theorem allB_iff {tx : Int → Int} {ln pl n : Int} (h0 : 0 ≤ pl) (hn : 0 ≤ n) (h : pl + n ≤ ln) : allB 97 104 (sli (rg tx ln) pl n) = true ↔ ∀ k, 0 ≤ k → k < n → 97 ≤ tx (pl + k) ∧ tx (pl + k) ≤ 104 := by
  rw [sli_rg h0 hn h]
  unfold allB
  rw [List.all_eq_true]
  constructor
  · intro z k k0 k1
    have := z (tx (pl + k)) (List.mem_of_getElem? (i := k.toNat) (by rw [rg_at _ (by omega), Int.toNat_of_nonneg k0]))
    rw [Bool.and_eq_true, decide_eq_true_eq, decide_eq_true_eq] at this
    exact this
  · intro z x hx
    obtain ⟨k, k0, k1, rfl⟩ := rg_mem hx
    rw [Bool.and_eq_true, decide_eq_true_eq, decide_eq_true_eq]
    exact z k k0 k1
theorem rg_map (f : Int → Int) (n : Int) (g : Int → Int) : (rg f n).map g = rg (fun k => g (f k)) n := by
  unfold rg
  rw [List.map_map]; rfl
theorem numv_s (f : Int → Int) {k : Int} (h : 0 ≤ k) : numv (rg f (k + 1)) = 10 * numv (rg f k) + f k - 48 := by
  unfold numv
  rw [rg_s f h, List.foldl_append]; rfl
/-- an order in the reference's row -/
def orA (od : Int → Int) (i : Int) : Or3 := (od (12 * i), rg (fun k => od (12 * i + 4 + k)) (od (12 * i + 3)), od (12 * i + 1), od (12 * i + 2))
def orL (od : Int → Int) (oc : Int) : List Or3 := (List.range oc.toNat).map (fun i : Nat => orA od i)
theorem orL_s (od : Int → Int) {oc : Int} (h : 0 ≤ oc) : orL od (oc + 1) = orL od oc ++ [orA od oc] := by
  unfold orL
  rw [show (oc + 1).toNat = oc.toNat + 1 by omega, List.range_succ, List.map_append, List.map_cons, List.map_nil, Int.toNat_of_nonneg h]
theorem orL_ext {od od2 : Int → Int} {oc : Int} (h : ∀ i, 0 ≤ i → i < oc → od (12 * i + 3) ≤ 8) (e : ∀ k, k < 12 * oc → od2 k = od k) : orL od2 oc = orL od oc := by
  unfold orL
  apply List.map_congr_left
  intro i hi
  have hi := List.mem_range.mp hi
  have h8 := h i (by omega) (by omega)
  unfold orA
  rw [e (12 * (i : Int)) (by omega), e (12 * (i : Int) + 3) (by omega), e (12 * (i : Int) + 1) (by omega), e (12 * (i : Int) + 2) (by omega)]
  rw [rg_ext (f := fun k => od2 (12 * (i : Int) + 4 + k)) (g := fun k => od (12 * (i : Int) + 4 + k)) (fun k k0 k1 => e _ (by omega))]
theorem orL_len (od : Int → Int) (oc : Int) : (orL od oc).length = oc.toNat := by simp [orL]
theorem nmv_r (w : List Int) : rI (nmv w) := by
  unfold nmv
  repeat' split
  all_goals omega
