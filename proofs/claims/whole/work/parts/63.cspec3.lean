/-! ===== changes of the class's book ===== -/
theorem okP.up {U U2 g g2 : Int} {x : Ph} (h : okP U g x) (h1 : U ≤ U2) (h2 : g ≤ g2) : okP U2 g2 x := by
  obtain ⟨a1, a2, a3, a4, a5, a6, a7⟩ := h
  exact ⟨a1, a2, by omega, a4, a5, by omega, a7⟩
theorem okO.up {U U2 : Int} {o : Bo} (h : okO U o) (h1 : U ≤ U2) (h2 : U2 ≤ 1000000) : okO U2 o := by
  obtain ⟨a1, a2, a3, a4, a5, a6, a7, a8⟩ := h
  exact ⟨a1, a2, a3, a4, by omega, fun x hx => (a6 x hx).up h1 (Int.le_refl _), a7, a8⟩
theorem atP_app_l {b c : List Ph} {j : Int} (h0 : 0 ≤ j) (h1 : j < b.length) : atP (b ++ c) j = atP b j := by
  unfold atP
  rw [List.getD_eq_getElem?_getD, List.getD_eq_getElem?_getD, List.getElem?_append_left (by omega)]
theorem atP_app_r {b : List Ph} {x : Ph} {j : Int} (h : j = b.length) : atP (b ++ [x]) j = x := by
  unfold atP
  rw [List.getD_eq_getElem?_getD, List.getElem?_append_right (by omega), h, Int.toNat_natCast, Nat.sub_self]; rfl
theorem atP_map {b : List Ph} (f : Ph → Ph) {j : Int} (h0 : 0 ≤ j) (h1 : j < b.length) : atP (b.map f) j = f (atP b j) := by
  unfold atP
  rw [List.getD_eq_getElem?_getD, List.getD_eq_getElem?_getD, List.getElem?_map, List.getElem?_eq_getElem (by omega)]; rfl
abbrev okPp (U gv : Int) (x : Ph) : Prop := okP U gv x
section RPB2
variable {U : Int} {nu wo sc me us la : Int → Int} {ct gv kd sl : Int} {o : Bo}
theorem rpB.grow (h : rpB U nu wo sc me us la ct gv kd sl o) {U2 : Int} (h1 : U ≤ U2) (h2 : U2 ≤ 1000000) : rpB U2 nu wo sc me us la ct gv kd sl o := ⟨h.1.up h1 h2, h.2⟩
theorem rpB.ext (h : rpB U nu wo sc me us la ct gv kd sl o) {nu2 wo2 sc2 me2 us2 la2 : Int → Int} (e : ∀ j, 0 ≤ j → j < ct → nu2 j = nu j ∧ wo2 j = wo j ∧ sc2 j = sc j ∧ me2 j = me j ∧ us2 j = us j ∧ la2 j = la j) : rpB U nu2 wo2 sc2 me2 us2 la2 ct gv kd sl o := by
  refine ⟨h.1, h.2.1, h.2.2.1, h.2.2.2.1, h.2.2.2.2.1, fun j h0 h1 => ?_⟩
  obtain ⟨e1, e2, e3, e4, e5, e6⟩ := e j h0 h1
  unfold sixP
  rw [e1, e2, e3, e4, e5, e6]
  exact h.six j h0 h1
theorem rpB.add (h : rpB U nu wo sc me us la ct gv kd sl o) {w : List Int} {y z : Int} (hw : okL w) (hl : 1 ≤ w.length ∧ w.length ≤ 8) (hh : hasB o w = false) (hr : roomB o = true) (hy : 0 ≤ y ∧ y ≤ 1000) (hz : 0 ≤ z ∧ z ≤ 9) : rpB U (up nu ct gv) (up wo ct ((pck w : Nat) : Int)) (up sc ct y) (up me ct z) (up us ct 0) (up la ct (-1)) (ct + 1) (gv + 1) kd sl (addB o w y z) := by
  have hct := h.xct
  have hgv := h.xgv
  unfold roomB at hr
  simp only [Bool.and_eq_true, decide_eq_true_eq] at hr
  obtain ⟨a1, a2, a3, a4, a5, a6, a7, a8⟩ := h.1
  refine ⟨⟨by simp [addB]; omega, by simp only [addB]; omega, a3, a4, a5, fun x hx => ?_, ?_, ?_⟩, by simp only [addB, List.length_append, List.length_cons, List.length_nil]; omega, by simp only [addB]; omega, h.2.2.2.1, h.2.2.2.2.1, fun j h0 h1 => ?_⟩
  · simp only [addB, List.mem_append, List.mem_singleton] at hx ⊢
    rcases hx with hx | rfl
    · exact (a6 x hx).up (Int.le_refl _) (by omega)
    · exact ⟨hw, hl, by simp only; omega, hy, hz, by simp only; omega, by simp only; omega⟩
  · simp only [addB]
    rw [List.pairwise_append]
    refine ⟨a7, List.pairwise_singleton _ _, fun x hx q hq => ?_⟩
    rw [List.mem_singleton.mp hq]
    exact (a6 x hx).2.2.1.2
  · simp only [addB]
    rw [List.pairwise_append]
    refine ⟨a8, List.pairwise_singleton _ _, fun x hx q hq => ?_⟩
    rw [List.mem_singleton.mp hq]
    intro e
    have : hasB o w = true := by
      unfold hasB
      rw [List.any_eq_true]
      exact ⟨x, hx, by simpa using e⟩
    rw [hh] at this
    cases this
  · by_cases e : j = ct
    · subst e
      have : atP (addB o w y z).1 j = (o.2.1, w, y, z, 0, -1) := atP_app_r hct.2
      rw [this]
      unfold sixP
      simp only [up_s]
      exact ⟨hgv.2, trivial, trivial, trivial, trivial, trivial⟩
    · have : atP (addB o w y z).1 j = atP o.1 j := atP_app_l h0 (by omega)
      rw [this]
      unfold sixP
      simp only [up_n _ _ e]
      exact h.six j h0 (by omega)
theorem rpB.set (h : rpB U nu wo sc me us la ct gv kd sl o) {x U2 s2 u2 l2 : Int} {sc2 us2 la2 : Int → Int} (hx : 0 ≤ x ∧ x < ct) (hU : U ≤ U2) (hU2 : U2 ≤ 1000000) (hs : 0 ≤ s2 ∧ s2 ≤ 1000) (hu : 0 ≤ u2 ∧ u2 ≤ U2) (hl : -1 ≤ l2 ∧ l2 ≤ 9999) (ex : sc2 x = s2 ∧ us2 x = u2 ∧ la2 x = l2) (en : ∀ j, j ≠ x → sc2 j = sc j ∧ us2 j = us j ∧ la2 j = la j) (g : Ph → Ph) (hg : g (atP o.1 x) = ((atP o.1 x).1, (atP o.1 x).2.1, s2, (atP o.1 x).2.2.2.1, u2, l2)) : rpB U2 nu wo sc2 me us2 la2 ct gv kd sl (setB o (nu x) g) := by
  have hct := h.xct
  have hnx := h.xnu x hx.1 hx.2
  obtain ⟨a1, a2, a3, a4, a5, a6, a7, a8⟩ := h.1
  have inj : ∀ j, 0 ≤ j → j < ct → (atP o.1 j).1 = nu x → j = x := fun j j0 j1 e => by
    rw [← (h.xnu j j0 j1).2] at e
    rcases Int.lt_trichotomy j x with q | q | q
    · have := h.lt j x j0 q hx.2; omega
    · exact q
    · have := h.lt x j hx.1 q j1; omega
  have val : ∀ q ∈ o.1, (if q.1 = nu x then g q else q).1 = q.1 ∧ (if q.1 = nu x then g q else q).2.1 = q.2.1 ∧ okPp U2 o.2.1 (if q.1 = nu x then g q else q) := fun q hq => by
    obtain ⟨j, j0, j1, rfl⟩ := mem_atP hq
    have jc : j < ct := by omega
    have hp := a6 _ hq
    by_cases e : (atP o.1 j).1 = nu x
    · have ej := inj j j0 jc e
      subst ej
      rw [if_pos e, hg]
      obtain ⟨b1, b2, b3, b4, b5, b6, b7⟩ := hp
      exact ⟨rfl, rfl, b1, b2, b3, hs, b5, hu, hl⟩
    · rw [if_neg e]
      exact ⟨rfl, rfl, hp.up hU (Int.le_refl _)⟩
  refine ⟨⟨by simp only [setB, List.length_map]; exact a1, a2, a3, a4, by omega, fun q hq => ?_, ?_, ?_⟩, by simp only [setB, List.length_map]; exact h.2.1, h.2.2.1, h.2.2.2.1, h.2.2.2.2.1, fun j h0 h1 => ?_⟩
  · obtain ⟨q0, hq0, rfl⟩ := List.mem_map.mp hq
    exact (val q0 hq0).2.2
  · simp only [setB]
    rw [List.pairwise_map]
    refine a7.imp_of_mem (fun {p q} hp hq hpq => ?_)
    rw [(val p hp).1, (val q hq).1]; exact hpq
  · simp only [setB]
    rw [List.pairwise_map]
    refine a8.imp_of_mem (fun {p q} hp hq hpq => ?_)
    rw [(val p hp).2.1, (val q hq).2.1]; exact hpq
  · have e1 : atP (setB o (nu x) g).1 j = if (atP o.1 j).1 = nu x then g (atP o.1 j) else atP o.1 j := atP_map _ h0 (by omega)
    have h6 := h.six j h0 h1
    rw [e1]
    by_cases e : j = x
    · subst e
      rw [if_pos hnx.2.symm, hg]
      exact ⟨h6.1, h6.2.1, ex.1, h6.2.2.2.1, ex.2.1, ex.2.2⟩
    · rw [if_neg (fun z => e (inj j h0 h1 z))]
      obtain ⟨c1, c2, c3⟩ := en j e
      unfold sixP
      rw [c1, c2, c3]
      exact h6
theorem rpB.half (h : rpB U nu wo sc me us la ct gv kd sl o) {sc2 : Int → Int} (e : ∀ j, 0 ≤ j → j < ct → sc2 j = sc j / 2) : rpB U nu wo sc2 me us la ct gv kd sl (halfB o) := by
  have hct := h.xct
  obtain ⟨a1, a2, a3, a4, a5, a6, a7, a8⟩ := h.1
  refine ⟨⟨by simp only [halfB, List.length_map]; exact a1, a2, a3, a4, a5, fun q hq => ?_, ?_, ?_⟩, by simp only [halfB, List.length_map]; exact h.2.1, h.2.2.1, h.2.2.2.1, h.2.2.2.2.1, fun j h0 h1 => ?_⟩
  · obtain ⟨q0, hq0, rfl⟩ := List.mem_map.mp hq
    obtain ⟨b1, b2, b3, b4, b5, b6, b7⟩ := a6 q0 hq0
    exact ⟨b1, b2, b3, by simp only; omega, b5, b6, b7⟩
  · simp only [halfB]
    rw [List.pairwise_map]
    exact a7
  · simp only [halfB]
    rw [List.pairwise_map]
    exact a8
  · have e1 : atP (halfB o).1 j = _ := atP_map (b := o.1) _ h0 (by omega)
    obtain ⟨c1, c2, c3, c4, c5, c6⟩ := h.six j h0 h1
    rw [e1]
    exact ⟨c1, c2, by rw [e j h0 h1, c3], c4, c5, c6⟩
theorem filter_num {b : List Ph} (hp : b.Pairwise (fun x y => x.1 < y.1)) (i : Nat) (hi : i < b.length) : b.filter (fun y => !(y.1 == (b[i]).1)) = b.eraseIdx i := by
  rw [List.eraseIdx_eq_take_drop_succ]
  have e : b = b.take i ++ b[i] :: b.drop (i + 1) := by rw [← List.drop_eq_getElem_cons hi, List.take_append_drop]
  have hp2 := hp
  rw [e, List.pairwise_append] at hp2
  obtain ⟨p1, p2, p3⟩ := hp2
  have p4 := (List.pairwise_cons.mp p2).1
  generalize b[i] = x at *
  generalize b.take i = l at *
  generalize b.drop (i + 1) = m at *
  rw [e, List.filter_append, List.filter_cons]
  rw [if_neg (by simp)]
  congr 1
  · rw [List.filter_eq_self]
    intro y hy
    have := p3 y hy x List.mem_cons_self
    simp; omega
  · rw [List.filter_eq_self]
    intro y hy
    have := p4 y hy
    simp; omega
theorem rpB.out (h : rpB U nu wo sc me us la ct gv kd sl o) {x : Int} {nu2 wo2 sc2 me2 us2 la2 : Int → Int} (hx : 0 ≤ x ∧ x < ct) (e1 : ∀ j, 0 ≤ j → j < x → nu2 j = nu j ∧ wo2 j = wo j ∧ sc2 j = sc j ∧ me2 j = me j ∧ us2 j = us j ∧ la2 j = la j) (e2 : ∀ j, x ≤ j → j < ct - 1 → nu2 j = nu (j + 1) ∧ wo2 j = wo (j + 1) ∧ sc2 j = sc (j + 1) ∧ me2 j = me (j + 1) ∧ us2 j = us (j + 1) ∧ la2 j = la (j + 1)) : rpB U nu2 wo2 sc2 me2 us2 la2 (ct - 1) gv kd sl (outB o (nu x)) := by
  have hct := h.xct
  obtain ⟨a1, a2, a3, a4, a5, a6, a7, a8⟩ := h.1
  have hi : x.toNat < o.1.length := by omega
  have hnx : nu x = (o.1[x.toNat]).1 := by
    rw [(h.xnu x hx.1 hx.2).2]
    have := atP_get (b := o.1) hx.1 (by omega)
    rw [List.getElem?_eq_getElem hi] at this
    rw [Option.some.inj this]
  have ef : (outB o (nu x)).1 = o.1.eraseIdx x.toNat := by
    show o.1.filter (fun y => !(y.1 == nu x)) = _
    rw [hnx]
    exact filter_num a7 x.toNat hi
  have hlen : ((outB o (nu x)).1.length : Int) = ct - 1 := by rw [ef, List.length_eraseIdx_of_lt hi]; omega
  refine ⟨⟨by omega, a2, a3, a4, a5, fun q hq => ?_, ?_, ?_⟩, hlen.symm, h.2.2.1, h.2.2.2.1, h.2.2.2.2.1, fun j h0 h1 => ?_⟩
  · exact a6 q (List.mem_filter.mp hq).1
  · exact a7.filter _
  · exact a8.filter _
  · by_cases hj : j < x
    · have : atP (outB o (nu x)).1 j = atP o.1 j := by
        rw [ef]; unfold atP
        rw [List.getD_eq_getElem?_getD, List.getD_eq_getElem?_getD, List.getElem?_eraseIdx_of_lt (by omega)]
      rw [this]
      obtain ⟨c1, c2, c3, c4, c5, c6⟩ := e1 j h0 hj
      unfold sixP
      rw [c1, c2, c3, c4, c5, c6]
      exact h.six j h0 (by omega)
    · have : atP (outB o (nu x)).1 j = atP o.1 (j + 1) := by
        rw [ef]; unfold atP
        rw [List.getD_eq_getElem?_getD, List.getD_eq_getElem?_getD, List.getElem?_eraseIdx_of_ge (by omega), show (j + 1).toNat = j.toNat + 1 by omega]
      rw [this]
      obtain ⟨c1, c2, c3, c4, c5, c6⟩ := e2 j (by omega) h1
      unfold sixP
      rw [c1, c2, c3, c4, c5, c6]
      exact h.six (j + 1) (by omega) (by omega)
theorem rpB.ctl (h : rpB U nu wo sc me us la ct gv kd sl o) {k2 s2 : Int} (hk : 0 ≤ k2 ∧ k2 ≤ 4) (hs : 0 ≤ s2 ∧ s2 ≤ 1000) : rpB U nu wo sc me us la ct gv k2 s2 (o.1, o.2.1, k2, s2) := by
  obtain ⟨a1, a2, a3, a4, a5, a6, a7, a8⟩ := h.1
  exact ⟨⟨a1, a2, hk, hs, a5, a6, a7, a8⟩, h.2.1, h.2.2.1, rfl, rfl, h.2.2.2.2.2⟩
end RPB2
/-! ===== the twelve kept books ===== -/
def kbW (h : Int → Nat → Nat) (Bs : Int → Bk) : Wd := (List.range 12).flatMap (fun i : Nat => bkW (h i) (Bs i))
def kbR (i : Int) (h : Int → Nat → Nat) (Bs : Int → Bk) : Wd := ((List.range 12).erase i.toNat).flatMap (fun i : Nat => bkW (h i) (Bs i))
theorem kb_split {i : Int} (h0 : 0 ≤ i) (h1 : i < 12) (h : Int → Nat → Nat) (Bs : Int → Bk) : (kbW h Bs).Perm (bkW (h i) (Bs i) ++ kbR i h Bs) := by
  have hp : (List.range 12).Perm (i.toNat :: (List.range 12).erase i.toNat) := List.perm_cons_erase (List.mem_range.mpr (by omega))
  have := hp.flatMap_right (fun i : Nat => bkW (h i) (Bs i))
  rw [List.flatMap_cons, Int.toNat_of_nonneg h0] at this
  exact this
theorem kb_same (i : Int) (h0 : 0 ≤ i) (h : Int → Nat → Nat) (Bs : Int → Bk) (B : Bk) : kbR i h (up Bs i B) = kbR i h Bs := by
  unfold kbR
  have key : ∀ j ∈ (List.range 12).erase i.toNat, bkW (h (j : Int)) (up Bs i B (j : Int)) = bkW (h (j : Int)) (Bs (j : Int)) := by
    intro j hj
    have hne : j ≠ i.toNat := ((List.nodup_range (n := 12)).mem_erase_iff.mp hj).1
    rw [up_n _ _ (by omega)]
  rw [List.flatMap_def, List.flatMap_def, List.map_congr_left key]
theorem kb_join {i : Int} (h0 : 0 ≤ i) (h1 : i < 12) (h : Int → Nat → Nat) (Bs : Int → Bk) (B : Bk) : (bkW (h i) B ++ kbR i h Bs).Perm (kbW h (up Bs i B)) := by
  have := (kb_split h0 h1 h (up Bs i B)).symm
  rwa [up_s, kb_same i h0] at this
theorem kb_open {a b : Wd} {i : Int} (h0 : 0 ≤ i) (h1 : i < 12) (h : Int → Nat → Nat) (Bs : Int → Bk) {B : Bk} (hB : Bs i = B) : ([a, b, kbW h Bs] : List Wd).flatten.Perm ([a, b, bkW (h i) B, kbR i h Bs] : List Wd).flatten := by
  subst hB
  simp only [List.flatten_cons, List.flatten_nil, List.append_nil]
  exact ((kb_split h0 h1 h Bs).append_left b).append_left a
theorem kb_close {a b : Wd} {i : Int} (h0 : 0 ≤ i) (h1 : i < 12) (h : Int → Nat → Nat) (Bs : Int → Bk) (B : Bk) : ([a, b, bkW (h i) B, kbR i h Bs] : List Wd).flatten.Perm ([a, b, kbW h (up Bs i B)] : List Wd).flatten := by
  simp only [List.flatten_cons, List.flatten_nil, List.append_nil]
  exact ((kb_join h0 h1 h Bs B).append_left b).append_left a
