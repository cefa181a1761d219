/-! ===== pure rows for the reference's calls ===== -/
theorem rg_push (f : Int → Int) {n : Int} (h : 0 ≤ n) (z : Int) : rg (up f n z) (n + 1) = rg f n ++ [z] := by
  rw [rg_s _ h, up_s, rg_ext (g := f) (fun k h0 h1 => up_n f z (by omega))]
def okH (U : Int) (bk : Int → Int) (un : Int) : Prop := (0 ≤ un ∧ un ≤ 12) ∧ ∀ i, 0 ≤ i → i < un → okS U (fun k => bk (2803 * i + k))
theorem hs_len (bk : Int → Int) (un : Int) : (hs_ bk un).length = un.toNat := by simp [hs_]
theorem hs_s (bk : Int → Int) {un : Int} (h : 0 ≤ un) : hs_ bk (un + 1) = hs_ bk un ++ [bo (fun k => bk (2803 * un + k))] := by
  unfold hs_
  rw [show (un + 1).toNat = un.toNat + 1 by omega, List.range_succ, List.map_append]
  simp only [List.map_cons, List.map_nil]
  rw [Int.toNat_of_nonneg h]
theorem hs_push {U : Int} {st bk : Int → Int} {un : Int} (hs : okS U st) (hH : okH U bk un) (h12 : un < 12) : hs_ (cpy st 0 bk (2803 * un) 2803) (un + 1) = hs_ bk un ++ [bo st] ∧ okH U (cpy st 0 bk (2803 * un) 2803) (un + 1) := by
  have h0 := hH.1.1
  have key : ∀ k, 0 ≤ k → k < 2803 → (fun k => cpy st 0 bk (2803 * un) 2803 (2803 * un + k)) k = st k := fun k g0 g1 => by
    show cpy st 0 bk (2803 * un) 2803 (2803 * un + k) = st k
    rw [cpy_in _ _ _ _ _ _ (by omega)]
    congr 1; omega
  refine ⟨?_, ⟨by omega, by omega⟩, fun i g0 g1 => ?_⟩
  · rw [hs_s _ h0, bo_ext hs key, hs_ext (bk := bk) (fun i g0 g1 => ⟨U, hH.2 i g0 g1⟩) (fun k g0 g1 => cpy_out _ _ _ _ _ _ (by omega))]
  · by_cases e : i = un
    · subst e
      exact hs.ext key
    · exact (hH.2 i g0 (by omega)).ext (fun k b0 b1 => cpy_out _ _ _ _ _ _ (by omega))
theorem hs_shift {U : Int} {bk : Int → Int} (hH : okH U bk 12) : hs_ (cpy bk 2803 bk 0 30833) 11 = (hs_ bk 12).drop 1 ∧ okH U (cpy bk 2803 bk 0 30833) 11 := by
  have key : ∀ i : Int, 0 ≤ i → i < 11 → ∀ k, 0 ≤ k → k < 2803 → (fun k => cpy bk 2803 bk 0 30833 (2803 * i + k)) k = (fun k => bk (2803 * (i + 1) + k)) k := fun i h0 h1 k g0 g1 => by
    show cpy bk 2803 bk 0 30833 (2803 * i + k) = bk (2803 * (i + 1) + k)
    rw [cpy_in _ _ _ _ _ _ (by omega)]
    congr 1; omega
  refine ⟨?_, ⟨by omega, by omega⟩, fun i g0 g1 => (hH.2 (i + 1) (by omega) (by omega)).ext (key i g0 g1)⟩
  unfold hs_
  have e1 : (List.range (12 : Int).toNat).drop 1 = (List.range 11).map (fun i => i + 1) := by decide
  rw [← List.map_drop, e1, List.map_map]
  apply List.map_congr_left
  intro i hi
  have hi2 := List.mem_range.mp hi
  have := bo_ext (hH.2 ((i : Int) + 1) (by omega) (by omega)) (key i (by omega) (by simp at hi2; omega))
  simpa using this
theorem okM.hH {N : Int} {st bk : Int → Int} {un ck : Int} {ty : Int → Int} {tm : Int} {tx : Int → Int} {ln : Int} {rf : Int → Int} (h : okM N st bk un ck ty tm tx ln rf) : okH (24 * N) bk un := ⟨h.2.2.1, h.2.2.2.1⟩
theorem okH.up {U U2 : Int} {bk : Int → Int} {un : Int} (h : okH U bk un) (h1 : U ≤ U2) (h2 : U2 ≤ 1000000) : okH U2 bk un := ⟨h.1, fun i g0 g1 => (h.2 i g0 g1).up h1 h2⟩
theorem okM.s {N : Int} {st bk : Int → Int} {un ck : Int} {ty : Int → Int} {tm : Int} {tx : Int → Int} {ln : Int} {rf : Int → Int} (h : okM N st bk un ck ty tm tx ln rf) (hN : N < 512) : okM (N + 1) st bk un ck ty tm tx ln rf := by
  obtain ⟨a1, a2, a3, a4, a5, a6, a7, a8, a9, a10, a11, a12⟩ := h
  exact ⟨by omega, a2.up (by omega) (by omega), a3, fun i g0 g1 => (a4 i g0 g1).up (by omega) (by omega), a5, a6, a7, a8, a9, by omega, by omega, by omega⟩
theorem okM.refuse {N : Int} {st bk : Int → Int} {un ck : Int} {ty : Int → Int} {tm : Int} {tx : Int → Int} {ln : Int} {rf rf2 : Int → Int} (h : okM N st bk un ck ty tm tx ln rf) (hN : N < 512) (e : (rf2 0 = rf 0 ∨ rf2 0 = rf 0 + 1) ∧ (rf2 1 = rf 1 ∨ rf2 1 = rf 1 + 1) ∧ (rf2 2 = rf 2 ∨ rf2 2 = rf 2 + 1)) : okM (N + 1) st bk un ck ty tm tx ln rf2 := by
  obtain ⟨a1, a2, a3, a4, a5, a6, a7, a8, a9, a10, a11, a12⟩ := h
  exact ⟨by omega, a2.up (by omega) (by omega), a3, fun i g0 g1 => (a4 i g0 g1).up (by omega) (by omega), a5, a6, a7, a8, a9, by omega, by omega, by omega⟩
section AM
variable {st bk : Int → Int} {un ck : Int} {ty : Int → Int} {tm : Int} {tx : Int → Int} {ln : Int} {rf : Int → Int} {N : Int}
theorem absM_bad : absM st bk un ck ty tm tx ln (up rf 0 (rf 0 + 1)) = aBad (absM st bk un ck ty tm tx ln rf) := by simp [absM, aBad, up]
theorem absM_no : absM st bk un ck ty tm tx ln (up rf 1 (rf 1 + 1)) = aNo (absM st bk un ck ty tm tx ln rf) := by simp [absM, aNo, up]
theorem absM_full : absM st bk un ck ty tm tx ln (up rf 2 (rf 2 + 1)) = aFull (absM st bk un ck ty tm tx ln rf) := by simp [absM, aFull, up]
theorem okM_bad (h : okM N st bk un ck ty tm tx ln rf) (hN : N < 512) : okM (N + 1) st bk un ck ty tm tx ln (up rf 0 (rf 0 + 1)) := h.refuse hN (by simp [up])
theorem okM_no (h : okM N st bk un ck ty tm tx ln rf) (hN : N < 512) : okM (N + 1) st bk un ck ty tm tx ln (up rf 1 (rf 1 + 1)) := h.refuse hN (by simp [up])
theorem okM_full (h : okM N st bk un ck ty tm tx ln rf) (hN : N < 512) : okM (N + 1) st bk un ck ty tm tx ln (up rf 2 (rf 2 + 1)) := h.refuse hN (by simp [up])
end AM
/-! a phrase comes -/
def cmS (st row : Int → Int) (n sc me : Int) : Int → Int := up (cpy row 0 (up (up (up (up (up (up st (14 * st 2800) 1) (14 * st 2800 + 1) sc) (14 * st 2800 + 2) me) (14 * st 2800 + 3) n) (14 * st 2800 + 4) 0) (14 * st 2800 + 5) (-1)) (14 * st 2800 + 6) n) 2800 (st 2800 + 1)
theorem cmS_ok {U : Int} {st row : Int → Int} {n sc me : Int} (hs : okS U st) (hg : st 2800 < 200) (hn : 1 ≤ n ∧ n ≤ 8) (hsc : 0 ≤ sc ∧ sc ≤ 1000) (hme : 0 ≤ me ∧ me ≤ 9) (hr : ∀ k, 0 ≤ k → k < n → 0 ≤ row k ∧ row k ≤ 7) : bo (cmS st row n sc me) = addB (bo st) (rg row n) sc me ∧ okS U (cmS st row n sc me) := by
  have hgv := hs.gv
  have old : ∀ k, 0 ≤ k → k < 14 * st 2800 → cmS st row n sc me k = st k := fun k g0 g1 => by
    unfold cmS
    rw [up_n _ _ (by omega), cpy_out _ _ _ _ _ _ (by omega), up_n _ _ (by omega), up_n _ _ (by omega), up_n _ _ (by omega), up_n _ _ (by omega), up_n _ _ (by omega), up_n _ _ (by omega)]
  have f0 : cmS st row n sc me (14 * st 2800) = 1 := by
    unfold cmS
    rw [up_n _ _ (by omega), cpy_out _ _ _ _ _ _ (by omega), up_n _ _ (by omega), up_n _ _ (by omega), up_n _ _ (by omega), up_n _ _ (by omega), up_n _ _ (by omega), up_s]
  have f1 : cmS st row n sc me (14 * st 2800 + 1) = sc := by
    unfold cmS
    rw [up_n _ _ (by omega), cpy_out _ _ _ _ _ _ (by omega), up_n _ _ (by omega), up_n _ _ (by omega), up_n _ _ (by omega), up_n _ _ (by omega), up_s]
  have f2 : cmS st row n sc me (14 * st 2800 + 2) = me := by
    unfold cmS
    rw [up_n _ _ (by omega), cpy_out _ _ _ _ _ _ (by omega), up_n _ _ (by omega), up_n _ _ (by omega), up_n _ _ (by omega), up_s]
  have f3 : cmS st row n sc me (14 * st 2800 + 3) = n := by
    unfold cmS
    rw [up_n _ _ (by omega), cpy_out _ _ _ _ _ _ (by omega), up_n _ _ (by omega), up_n _ _ (by omega), up_s]
  have f4 : cmS st row n sc me (14 * st 2800 + 4) = 0 := by
    unfold cmS
    rw [up_n _ _ (by omega), cpy_out _ _ _ _ _ _ (by omega), up_n _ _ (by omega), up_s]
  have f5 : cmS st row n sc me (14 * st 2800 + 5) = -1 := by
    unfold cmS
    rw [up_n _ _ (by omega), cpy_out _ _ _ _ _ _ (by omega), up_s]
  have f6 : ∀ k, 0 ≤ k → k < n → cmS st row n sc me (14 * st 2800 + 6 + k) = row k := fun k g0 g1 => by
    unfold cmS
    rw [up_n _ _ (by omega), cpy_in _ _ _ _ _ _ (by omega)]
    congr 1; omega
  have f7 : cmS st row n sc me 2800 = st 2800 + 1 := by unfold cmS; rw [up_s]
  have f8 : cmS st row n sc me 2801 = st 2801 := by
    unfold cmS
    rw [up_n _ _ (by omega), cpy_out _ _ _ _ _ _ (by omega), up_n _ _ (by omega), up_n _ _ (by omega), up_n _ _ (by omega), up_n _ _ (by omega), up_n _ _ (by omega), up_n _ _ (by omega)]
  have f9 : cmS st row n sc me 2802 = st 2802 := by
    unfold cmS
    rw [up_n _ _ (by omega), cpy_out _ _ _ _ _ _ (by omega), up_n _ _ (by omega), up_n _ _ (by omega), up_n _ _ (by omega), up_n _ _ (by omega), up_n _ _ (by omega), up_n _ _ (by omega)]
  generalize cmS st row n sc me = s2 at *
  constructor
  · unfold bo addB
    simp only
    rw [f7, f8, f9, ml_s s2 hgv.1, f0, if_pos rfl, ml_ext (st := st) (st2 := s2) (st 2800).toNat (fun p h0 h1 => (hs.k3 p h0 (by omega)).2) (fun k h0 h1 => old k h0 (by omega))]
    unfold mp lt
    rw [f1, f2, f3, f4, f5, rg_ext (g := row) f6]
  · refine ⟨by rw [f7]; omega, by rw [f8]; exact hs.kd, by rw [f9]; exact hs.sl, hs.2.2.2.1, fun p h0 h1 => ?_⟩
    rw [f7] at h1
    by_cases e : p = st 2800
    · subst e
      rw [f0, f1, f2, f3, f4, f5]
      have := hs.2.2.2.1
      refine ⟨by omega, hsc, hme, hn, by omega, by omega, fun k g0 g1 => ?_⟩
      rw [f6 k g0 g1]
      exact hr k g0 g1
    · have h2 : p < st 2800 := by omega
      obtain ⟨a0, a1, a2, a3, a4, a5, a6⟩ := hs.2.2.2.2 p h0 h2
      rw [old (14 * p) (by omega) (by omega), old (14 * p + 1) (by omega) (by omega), old (14 * p + 2) (by omega) (by omega), old (14 * p + 3) (by omega) (by omega), old (14 * p + 4) (by omega) (by omega), old (14 * p + 5) (by omega) (by omega)]
      refine ⟨a0, a1, a2, a3, a4, a5, fun k g0 g1 => ?_⟩
      rw [old (14 * p + 6 + k) (by omega) (by omega)]
      exact a6 k g0 g1
/-! one phrase changes in score, uses, last: a row that is the same elsewhere -/
theorem set_ok {U U2 : Int} {st s2 : Int → Int} {q : Int} (hs : okS U st) (hU : U ≤ U2) (hU2 : U2 ≤ 1000000) (hq : 0 ≤ q ∧ q < st 2800) (g : Ph → Ph) (same : ∀ k, 0 ≤ k → k < 2803 → k ≠ 14 * q + 1 → k ≠ 14 * q + 4 → k ≠ 14 * q + 5 → s2 k = st k) (h1 : 0 ≤ s2 (14 * q + 1) ∧ s2 (14 * q + 1) ≤ 1000) (h4 : 0 ≤ s2 (14 * q + 4) ∧ s2 (14 * q + 4) ≤ U2) (h5 : -1 ≤ s2 (14 * q + 5) ∧ s2 (14 * q + 5) ≤ 9999)
    (hg : st (14 * q) = 1 → g (mp st q) = (q, lt st q, s2 (14 * q + 1), st (14 * q + 2), s2 (14 * q + 4), s2 (14 * q + 5))) : bo s2 = setB (bo st) q g ∧ okS U2 s2 := by
  have hgv := hs.gv
  have e0 : s2 2800 = st 2800 := same _ (by omega) (by omega) (by omega) (by omega) (by omega)
  have e1 : s2 2801 = st 2801 := same _ (by omega) (by omega) (by omega) (by omega) (by omega)
  have e2 : s2 2802 = st 2802 := same _ (by omega) (by omega) (by omega) (by omega) (by omega)
  have k3 := hs.k3 q hq.1 hq.2
  have elt : lt s2 q = lt st q := by
    unfold lt
    rw [same (14 * q + 3) (by omega) (by omega) (by omega) (by omega) (by omega)]
    exact rg_ext (fun k g0 g1 => same _ (by omega) (by omega) (by omega) (by omega) (by omega))
  constructor
  · unfold bo setB
    simp only
    rw [e0, e1, e2]
    congr 1
    refine ml_map (fun y => if y.1 = q then g y else y) _ (fun p p0 p1 => ⟨same _ (by omega) (by omega) (by omega) (by omega) (by omega), fun hp => ?_⟩)
    by_cases e : p = q
    · subst e
      rw [if_pos (show (mp st p).1 = p from rfl), hg hp]
      unfold mp
      rw [elt, same (14 * p + 2) (by omega) (by omega) (by omega) (by omega) (by omega)]
    · rw [if_neg (show ¬ (mp st p).1 = q from e)]
      exact mp_ext (hs.k3 p p0 (by omega)).2 (fun k g0 g1 => same _ (by omega) (by omega) (by omega) (by omega) (by omega))
  · refine ⟨by rw [e0]; exact hgv, by rw [e1]; exact hs.kd, by rw [e2]; exact hs.sl, ⟨by have := hs.2.2.2.1; omega, hU2⟩, fun p p0 p1 => ?_⟩
    rw [e0] at p1
    obtain ⟨a0, a1, a2, a3, a4, a5, a6⟩ := hs.2.2.2.2 p p0 p1
    rw [same (14 * p) (by omega) (by omega) (by omega) (by omega) (by omega), same (14 * p + 2) (by omega) (by omega) (by omega) (by omega) (by omega), same (14 * p + 3) (by omega) (by omega) (by omega) (by omega) (by omega)]
    refine ⟨a0, ?_, a2, a3, ?_, ?_, fun k g0 g1 => ?_⟩
    · by_cases e : p = q
      · subst e; exact h1
      · rw [same _ (by omega) (by omega) (by omega) (by omega) (by omega)]; exact a1
    · by_cases e : p = q
      · subst e; exact h4
      · rw [same _ (by omega) (by omega) (by omega) (by omega) (by omega)]; omega
    · by_cases e : p = q
      · subst e; exact h5
      · rw [same _ (by omega) (by omega) (by omega) (by omega) (by omega)]; exact a5
    · rw [same _ (by omega) (by omega) (by omega) (by omega) (by omega)]; exact a6 k g0 g1
/-! a phrase is gone -/
theorem out_ok {U : Int} {st : Int → Int} {q : Int} (hs : okS U st) (hq : 0 ≤ q ∧ q < st 2800) : bo (up st (14 * q) 0) = outB (bo st) q ∧ okS U (up st (14 * q) 0) := by
  have hgv := hs.gv
  have same : ∀ k, k ≠ 14 * q → up st (14 * q) 0 k = st k := fun k h => up_n _ _ h
  constructor
  · unfold bo outB
    simp only
    rw [same 2800 (by omega), same 2801 (by omega), same 2802 (by omega)]
    congr 1
    refine ml_out q _ (fun p p0 p1 pq => ⟨same _ (by omega), mp_ext (hs.k3 p p0 (by omega)).2 (fun k g0 g1 => same _ (by omega))⟩) (by rw [up_s]; omega)
  · refine ⟨by rw [same 2800 (by omega)]; exact hgv, by rw [same 2801 (by omega)]; exact hs.kd, by rw [same 2802 (by omega)]; exact hs.sl, hs.2.2.2.1, fun p p0 p1 => ?_⟩
    rw [same 2800 (by omega)] at p1
    obtain ⟨a0, a1, a2, a3, a4, a5, a6⟩ := hs.2.2.2.2 p p0 p1
    rw [same (14 * p + 1) (by omega), same (14 * p + 2) (by omega), same (14 * p + 3) (by omega), same (14 * p + 4) (by omega), same (14 * p + 5) (by omega)]
    refine ⟨?_, a1, a2, a3, a4, a5, fun k g0 g1 => ?_⟩
    · by_cases e : p = q
      · subst e; rw [up_s]; omega
      · rw [same _ (by omega)]; exact a0
    · rw [same _ (by omega)]; exact a6 k g0 g1
/-! all scores halved -/
theorem half_ok {U : Int} {st s2 : Int → Int} (hs : okS U st) (h1 : ∀ p, 0 ≤ p → p < st 2800 → s2 (14 * p + 1) = st (14 * p + 1) / 2) (same : ∀ k, (∀ p, 0 ≤ p → p < st 2800 → k ≠ 14 * p + 1) → s2 k = st k) : bo s2 = halfB (bo st) ∧ okS U s2 := by
  have hgv := hs.gv
  have e0 : s2 2800 = st 2800 := same _ (fun p _ _ => by omega)
  have e1 : s2 2801 = st 2801 := same _ (fun p _ _ => by omega)
  have e2 : s2 2802 = st 2802 := same _ (fun p _ _ => by omega)
  constructor
  · unfold bo halfB
    simp only
    rw [e0, e1, e2]
    congr 1
    refine ml_map _ _ (fun p p0 p1 => ⟨same _ (fun q _ _ => by omega), fun _ => ?_⟩)
    unfold mp
    have elt : lt s2 p = lt st p := by
      have k3 := hs.k3 p p0 (by omega)
      unfold lt
      rw [same (14 * p + 3) (fun q _ _ => by omega)]
      exact rg_ext (fun k g0 g1 => same _ (fun q _ _ => by omega))
    rw [elt, h1 p p0 (by omega), same (14 * p + 2) (fun q _ _ => by omega), same (14 * p + 4) (fun q _ _ => by omega), same (14 * p + 5) (fun q _ _ => by omega)]
  · refine ⟨by rw [e0]; exact hgv, by rw [e1]; exact hs.kd, by rw [e2]; exact hs.sl, hs.2.2.2.1, fun p p0 p1 => ?_⟩
    rw [e0] at p1
    obtain ⟨a0, a1, a2, a3, a4, a5, a6⟩ := hs.2.2.2.2 p p0 p1
    rw [same (14 * p) (fun q _ _ => by omega), same (14 * p + 2) (fun q _ _ => by omega), same (14 * p + 3) (fun q _ _ => by omega), same (14 * p + 4) (fun q _ _ => by omega), same (14 * p + 5) (fun q _ _ => by omega), h1 p p0 p1]
    refine ⟨a0, by omega, a2, a3, a4, a5, fun k g0 g1 => ?_⟩
    rw [same _ (fun q _ _ => by omega)]
    exact a6 k g0 g1
