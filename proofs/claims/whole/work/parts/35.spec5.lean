section OKM
variable {st bk : Int → Int} {un ck : Int} {ty : Int → Int} {tm : Int} {tx : Int → Int} {ln : Int} {rf : Int → Int} {N : Int}
theorem okM.upd {st2 bk2 : Int → Int} {un2 ck2 : Int} (h : okM N st bk un ck ty tm tx ln rf) (hN : N < 512) (hs : okS (24 * (N + 1)) st2) (hH : okH (24 * (N + 1)) bk2 un2) (hc : 0 ≤ ck2 ∧ ck2 ≤ 9999) : okM (N + 1) st2 bk2 un2 ck2 ty tm tx ln rf := by
  obtain ⟨a1, a2, a3, a4, a5, a6, a7, a8, a9, a10, a11, a12⟩ := h
  exact ⟨by omega, hs, hH.1, hH.2, hc, a6, a7, a8, a9, by omega, by omega, by omega⟩
theorem okM.typ {ty2 : Int → Int} {tm2 : Int} (h : okM N st bk un ck ty tm tx ln rf) (h1 : 0 ≤ tm2 ∧ tm2 ≤ 12) (h2 : ∀ k, 0 ≤ k → k < tm2 → 0 ≤ ty2 k ∧ ty2 k ≤ 7) : okM N st bk un ck ty2 tm2 tx ln rf := by
  obtain ⟨a1, a2, a3, a4, a5, a6, a7, a8, a9, a10, a11, a12⟩ := h
  exact ⟨a1, a2, a3, a4, a5, h1, h2, a8, a9, a10, a11, a12⟩
theorem okM.txt {tx2 : Int → Int} {ln2 : Int} (h : okM N st bk un ck ty tm tx ln rf) (h1 : 0 ≤ ln2 ∧ ln2 ≤ 120) (h2 : ∀ k, 0 ≤ k → k < ln2 → 0 ≤ tx2 k ∧ tx2 k ≤ 127) : okM N st bk un ck ty tm tx2 ln2 rf := by
  obtain ⟨a1, a2, a3, a4, a5, a6, a7, a8, a9, a10, a11, a12⟩ := h
  exact ⟨a1, a2, a3, a4, a5, a6, a7, h1, h2, a10, a11, a12⟩
theorem okM.hN (h : okM N st bk un ck ty tm tx ln rf) : 0 ≤ N ∧ N ≤ 512 := h.1
theorem okM.hs (h : okM N st bk un ck ty tm tx ln rf) : okS (24 * N) st := h.2.1
theorem okM.hck (h : okM N st bk un ck ty tm tx ln rf) : 0 ≤ ck ∧ ck ≤ 9999 := h.2.2.2.2.1
theorem okM.htm (h : okM N st bk un ck ty tm tx ln rf) : 0 ≤ tm ∧ tm ≤ 12 := h.2.2.2.2.2.1
theorem okM.hty (h : okM N st bk un ck ty tm tx ln rf) : ∀ k, 0 ≤ k → k < tm → 0 ≤ ty k ∧ ty k ≤ 7 := h.2.2.2.2.2.2.1
theorem okM.hln (h : okM N st bk un ck ty tm tx ln rf) : 0 ≤ ln ∧ ln ≤ 120 := h.2.2.2.2.2.2.2.1
theorem okM.htx (h : okM N st bk un ck ty tm tx ln rf) : ∀ k, 0 ≤ k → k < ln → 0 ≤ tx k ∧ tx k ≤ 127 := h.2.2.2.2.2.2.2.2.1
theorem okM.hrf (h : okM N st bk un ck ty tm tx ln rf) : (0 ≤ rf 0 ∧ rf 0 ≤ N) ∧ (0 ≤ rf 1 ∧ rf 1 ≤ N) ∧ (0 ≤ rf 2 ∧ rf 2 ≤ N) := h.2.2.2.2.2.2.2.2.2
end OKM
theorem rg_getD (f : Int → Int) {n k : Int} (d : Int) (h : 0 ≤ k) : (rg f n).getD k.toNat d = if k < n then f k else d := by
  rw [List.getD_eq_getElem?_getD]
  by_cases e : k < n
  · rw [if_pos e, rg_at f (k := k.toNat) (by omega), Int.toNat_of_nonneg h]; rfl
  · rw [if_neg e, List.getElem?_eq_none (by rw [rg_len]; omega)]; rfl
theorem nxt_in {x : Int} (h : 0 ≤ x) : 0 ≤ nxt x ∧ nxt x < 2147483648 := by
  unfold nxt
  omega
theorem drL_s (x : Int) {k : Int} (h : 0 ≤ k) : drL (k + 1).toNat x = ((drL k.toNat x).1 ++ [nxt (drL k.toNat x).2 / 65536 % 8], nxt (drL k.toNat x).2) := by
  rw [show (k + 1).toNat = k.toNat + 1 by omega]; rfl
theorem drN_s (q : Bo × Int × Int) {k : Int} (h : 0 ≤ k) : drN (k + 1).toNat q = dr1 (drN k.toNat q) := by
  rw [show (k + 1).toNat = k.toNat + 1 by omega]; rfl
theorem start_ok {N : Int} {st3 bk ty tx rf3 : Int → Int} (hN : 0 ≤ N ∧ N ≤ 512) (h1 : ∀ k, 0 ≤ k → k < 2803 → k ≠ 2802 → st3 k = 0) (h2 : st3 2802 = 100) (h3 : rf3 0 = 0 ∧ rf3 1 = 0 ∧ rf3 2 = 0) : absM st3 bk 0 0 ty 0 tx 0 rf3 = sp_start.2 ∧ okM N st3 bk 0 0 ty 0 tx 0 rf3 := by
  have e0 : st3 2800 = 0 := h1 _ (by omega) (by omega) (by omega)
  have e1 : st3 2801 = 0 := h1 _ (by omega) (by omega) (by omega)
  constructor
  · unfold absM bo hs_ sp_start
    rw [e0, e1, h2, rg_0 _ (by omega), rg_0 _ (by omega), h3.1, h3.2.1, h3.2.2]
    rfl
  · refine ⟨hN, ⟨by omega, by omega, by omega, by omega, fun p g0 g1 => by omega⟩, by omega, fun i _ _ => by omega, by omega, by omega, fun k _ _ => by omega, by omega, fun k _ _ => by omega, by omega, by omega, by omega⟩
theorem ctl_ok {U : Int} {st s2 : Int → Int} (hs : okS U st) (same : ∀ k, 0 ≤ k → k < 2801 → s2 k = st k) (h1 : 0 ≤ s2 2801 ∧ s2 2801 ≤ 4) (h2 : 0 ≤ s2 2802 ∧ s2 2802 ≤ 1000) : bo s2 = ((bo st).1, (bo st).2.1, s2 2801, s2 2802) ∧ okS U s2 := by
  have hgv := hs.gv
  have e0 : s2 2800 = st 2800 := same _ (by omega) (by omega)
  constructor
  · unfold bo
    simp only
    rw [e0, ml_ext (st := st) (st2 := s2) (st 2800).toNat (fun p p0 p1 => (hs.k3 p p0 (by omega)).2) (fun k g0 g1 => same k g0 (by omega))]
  · refine ⟨by rw [e0]; exact hgv, h1, h2, hs.2.2.2.1, fun p p0 p1 => ?_⟩
    rw [e0] at p1
    obtain ⟨a0, a1, a2, a3, a4, a5, a6⟩ := hs.2.2.2.2 p p0 p1
    rw [same (14 * p) (by omega) (by omega), same (14 * p + 1) (by omega) (by omega), same (14 * p + 2) (by omega) (by omega), same (14 * p + 3) (by omega) (by omega), same (14 * p + 4) (by omega) (by omega), same (14 * p + 5) (by omega) (by omega)]
    refine ⟨a0, a1, a2, a3, a4, a5, fun k g0 g1 => ?_⟩
    rw [same _ (by omega) (by omega)]
    exact a6 k g0 g1
theorem rank_ok {U x : Int} {st : Int → Int} (hs : okS U st) (hx : 0 ≤ x ∧ x ≤ 4) : bo (up st 2801 x) = ((bo st).1, (bo st).2.1, x, (bo st).2.2.2) ∧ okS U (up st 2801 x) := by
  obtain ⟨g1, g2⟩ := ctl_ok (s2 := up st 2801 x) hs (fun k g0 g1 => up_n _ _ (by omega)) (by rw [up_s]; exact hx) (by rw [up_n _ _ (by omega)]; exact hs.sl)
  refine ⟨?_, g2⟩
  rw [g1, up_s, up_n _ _ (by omega)]
  rfl
theorem slip_ok {U x : Int} {st : Int → Int} (hs : okS U st) (hx : 0 ≤ x ∧ x ≤ 1000) : bo (up st 2802 x) = ((bo st).1, (bo st).2.1, (bo st).2.2.1, x) ∧ okS U (up st 2802 x) := by
  obtain ⟨g1, g2⟩ := ctl_ok (s2 := up st 2802 x) hs (fun k g0 g1 => up_n _ _ (by omega)) (by rw [up_n _ _ (by omega)]; exact hs.kd) (by rw [up_s]; exact hx)
  refine ⟨?_, g2⟩
  rw [g1, up_s, up_n _ _ (by omega)]
  rfl
theorem undo_ok {U un : Int} {st bk : Int → Int} (hH : okH U bk un) (h : 0 < un) : (∀ o, (hs_ bk un).getD ((hs_ bk un).length - 1) o = bo (cpy bk (2803 * (un - 1)) st 0 2803)) ∧ (hs_ bk un).take ((hs_ bk un).length - 1) = hs_ bk (un - 1) ∧ okS U (cpy bk (2803 * (un - 1)) st 0 2803) ∧ okH U bk (un - 1) := by
  have key : ∀ k, 0 ≤ k → k < 2803 → cpy bk (2803 * (un - 1)) st 0 2803 k = (fun k => bk (2803 * (un - 1) + k)) k := fun k g0 g1 => by
    rw [cpy_in _ _ _ _ _ _ (by omega)]
    show bk _ = bk _
    congr 1; omega
  have hu := hH.1
  have e : hs_ bk un = hs_ bk (un - 1) ++ [bo (fun k => bk (2803 * (un - 1) + k))] := by
    have := hs_s bk (un := un - 1) (by omega)
    rwa [show un - 1 + 1 = un by omega] at this
  have hl : (hs_ bk un).length - 1 = (hs_ bk (un - 1)).length := by rw [hs_len, hs_len]; omega
  have ho := hH.2 (un - 1) (by omega) (by omega)
  refine ⟨fun o => ?_, ?_, ho.ext key, ⟨by omega, fun i g0 g1 => hH.2 i g0 (by omega)⟩⟩
  · rw [hl, e, List.getD_eq_getElem?_getD, List.getElem?_append_right (Nat.le_refl _), Nat.sub_self, bo_ext ho key]
    rfl
  · rw [hl, e, List.take_append_of_le_length (Nat.le_refl _), List.take_length]
