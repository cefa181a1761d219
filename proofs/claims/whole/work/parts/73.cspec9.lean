/-! ===== the sorted listing gives what the ranks ask ===== -/
theorem ahR_iff {x y : Rk} : ahR x y = true ↔ (y.2.1 < x.2.1 ∨ (x.2.1 = y.2.1 ∧ x.1 < y.1)) := by
  unfold ahR
  simp only [Bool.or_eq_true, Bool.and_eq_true, decide_eq_true_eq]
theorem toR_iff {L : List Rk} {x : Rk} : toR L x = true ↔ (x.2.2 ≤ 0 ∨ ∀ y ∈ L, y.1 = x.1 ∨ y.2.2 ≠ x.2.2 ∨ ahR x y = true) := by
  unfold toR
  rw [Bool.or_eq_true, decide_eq_true_eq, List.all_eq_true]
  simp only [Bool.or_eq_true, decide_eq_true_eq, or_assoc]
theorem pick_no {L : List Rk} {P : Rk → Prop} [DecidablePred P] : ∀ (M : List Rk) (a : Int), (∀ y ∈ M, ¬ P y) → M.foldl (fun f x => if P x then x.1 else f) a = a := by
  intro M
  induction M with
  | nil => intro a _; rfl
  | cons y M ih =>
    intro a h
    rw [List.foldl_cons, if_neg (h y (by simp))]
    exact ih a (fun z hz => h z (by simp [hz]))
theorem pick_yes {P : Rk → Prop} [DecidablePred P] {v : Int} : ∀ (M : List Rk) (a : Int), (∀ y ∈ M, P y → y.1 = v) → (a = v ∨ ∃ y ∈ M, P y) → M.foldl (fun f x => if P x then x.1 else f) a = v := by
  intro M
  induction M with
  | nil =>
    intro a _ h
    rcases h with h | ⟨y, hy, -⟩
    · exact h
    · simp at hy
  | cons y M ih =>
    intro a h1 h2
    rw [List.foldl_cons]
    by_cases hp : P y
    · rw [if_pos hp]
      exact ih _ (fun z hz => h1 z (by simp [hz])) (Or.inl (h1 y (by simp) hp))
    · rw [if_neg hp]
      refine ih _ (fun z hz => h1 z (by simp [hz])) ?_
      rcases h2 with h2 | ⟨z, hz, pz⟩
      · exact Or.inl h2
      · rcases List.mem_cons.mp hz with rfl | hz
        · exact absurd pz hp
        · exact Or.inr ⟨z, hz, pz⟩
theorem cut_len {K : List Rk} (hs : K.Pairwise (fun x y => ahR x y = true)) (hd : K.Pairwise (fun x y => x.1 ≠ y.1)) (i : Nat) (hi : i < K.length) : (K.filter (fun z => decide (z.1 ≠ (K[i]).1) && ahR z K[i])).length = i := by
  have e : K = K.take i ++ K[i] :: K.drop (i + 1) := by rw [← List.drop_eq_getElem_cons hi, List.take_append_drop]
  have hs2 := hs
  have hd2 := hd
  rw [e, List.pairwise_append] at hs2 hd2
  obtain ⟨-, s2, s3⟩ := hs2
  obtain ⟨-, -, d3⟩ := hd2
  have s4 := (List.pairwise_cons.mp s2).1
  have hl : (K.take i).length = i := by rw [List.length_take]; omega
  generalize K[i] = x at *
  generalize K.take i = l at *
  generalize K.drop (i + 1) = m at *
  rw [e, List.filter_append, List.filter_cons]
  have h1 : l.filter (fun z => decide (z.1 ≠ x.1) && ahR z x) = l := by
    rw [List.filter_eq_self]
    intro y hy
    rw [Bool.and_eq_true, decide_eq_true_eq]
    exact ⟨d3 y hy x List.mem_cons_self, s3 y hy x List.mem_cons_self⟩
  have h2 : m.filter (fun z => decide (z.1 ≠ x.1) && ahR z x) = [] := by
    rw [List.filter_eq_nil_iff]
    intro y hy
    have := ahR_iff.mp (s4 y hy)
    rw [Bool.and_eq_true, decide_eq_true_eq]
    rintro ⟨-, z⟩
    have := ahR_iff.mp z
    omega
  rw [h1, h2, if_neg (by simp)]
  simpa using hl
theorem cnR_eq {L S : List Rk} (hp : S.Perm L) (y : Rk) : cnR L y = (((S.filter (toR L)).filter (fun z => decide (z.1 ≠ y.1) && ahR z y)).length : Int) := by
  unfold cnR
  rw [← (hp.filter _).length_eq, List.filter_filter]
  congr 2
  apply List.filter_congr
  intro z _
  cases decide (z.1 ≠ y.1) <;> cases toR L z <;> cases ahR z y <;> rfl
theorem bst_eq {L S : List Rk} (hp : S.Perm L) (hs : S.Pairwise (fun x y => ahR x y = true)) (hd : S.Pairwise (fun x y => x.1 ≠ y.1)) {k : Int} (hk : -1 ≤ k) : bst L k = if k = -1 then ((S.filter (toR L)).length : Int) else if k < (S.filter (toR L)).length then ((S.filter (toR L)).map (fun x => x.1)).getD k.toNat 0 else -5 := by
  unfold bst
  by_cases e : k = -1
  · rw [if_pos e, if_pos e, (hp.filter _).length_eq]
  · rw [if_neg e, if_neg e]
    have hs1 : (S.filter (toR L)).Pairwise (fun x y => ahR x y = true) := hs.filter _
    have hd1 : (S.filter (toR L)).Pairwise (fun x y => x.1 ≠ y.1) := hd.filter _
    have hin : ∀ y, y ∈ S.filter (toR L) ↔ y ∈ L ∧ toR L y = true := fun y => by rw [List.mem_filter, hp.mem_iff]
    have hcn : ∀ i (hi : i < (S.filter (toR L)).length), cnR L (S.filter (toR L))[i] = (i : Int) := fun i hi => by
      rw [cnR_eq hp, cut_len hs1 hd1 i hi]
    by_cases hlt : k < (S.filter (toR L)).length
    · rw [if_pos hlt]
      have hi : k.toNat < (S.filter (toR L)).length := by omega
      have hv : ((S.filter (toR L)).map (fun x => x.1)).getD k.toNat 0 = ((S.filter (toR L))[k.toNat]).1 := by
        rw [List.getD_eq_getElem?_getD, List.getElem?_map, List.getElem?_eq_getElem hi]; rfl
      rw [hv]
      refine pick_yes L (-5) (fun y hy py => ?_) (Or.inr ⟨(S.filter (toR L))[k.toNat], ((hin _).mp (List.getElem_mem hi)).1, ((hin _).mp (List.getElem_mem hi)).2, by rw [hcn]; omega⟩)
      obtain ⟨j, hj⟩ := List.getElem?_of_mem ((hin y).mpr ⟨hy, py.1⟩)
      obtain ⟨lj, ej⟩ := List.getElem?_eq_some_iff.mp hj
      have h3 := hcn j lj
      rw [ej, py.2] at h3
      have : j = k.toNat := by omega
      subst this
      rw [ej]
    · rw [if_neg hlt]
      refine pick_no (L := L) L (-5) (fun y hy py => ?_)
      obtain ⟨j, hj⟩ := List.getElem?_of_mem ((hin y).mpr ⟨hy, py.1⟩)
      obtain ⟨lj, ej⟩ := List.getElem?_eq_some_iff.mp hj
      have h3 := hcn j lj
      rw [ej, py.2] at h3
      omega
/-- slots and ranks of those that count -/
def prs (z : Int) (t : List Int) (o : Bo) : Nat → List (Int × Int)
  | 0 => []
  | n + 1 => prs z t o n ++ (match rnk z t o.2.2.2 (atP o.1 n) with
    | none => []
    | some r => [((n : Int), r.2.1)])
theorem prs_y {z : Int} {t : List Int} {o : Bo} {i : Int} {r : Rk} (h : 0 ≤ i) (e : rnk z t o.2.2.2 (atP o.1 i) = some r) : prs z t o (i + 1).toNat = prs z t o i.toNat ++ [(i, r.2.1)] := by
  rw [show (i + 1).toNat = i.toNat + 1 by omega]
  simp only [prs]
  rw [Int.toNat_of_nonneg h, e]
theorem prs_n {z : Int} {t : List Int} {o : Bo} {i : Int} (h : 0 ≤ i) (e : rnk z t o.2.2.2 (atP o.1 i) = none) : prs z t o (i + 1).toNat = prs z t o i.toNat := by
  rw [show (i + 1).toNat = i.toNat + 1 by omega]
  simp only [prs]
  rw [Int.toNat_of_nonneg h, e]
  exact List.append_nil _
theorem rnk_1 {z : Int} {t : List Int} {sl : Int} {x : Ph} {r : Rk} (h : rnk z t sl x = some r) : r.1 = x.1 ∧ r.2.2 = x.2.2.2.1 := by
  unfold rnk at h
  split at h
  · cases h; exact ⟨rfl, rfl⟩
  · split at h
    · cases h; exact ⟨rfl, rfl⟩
    · cases h
section LST
variable {U : Int} {nu wo sc me us la : Int → Int} {ct gv kd sl : Int} {o : Bo}
theorem prs_rks (hb : rpB U nu wo sc me us la ct gv kd sl o) (z : Int) (t : List Int) : rks z t o = (prs z t o ct.toNat).map (fun q => (nu q.1, q.2, me q.1)) := by
  have hct := hb.xct
  have key : ∀ n : Nat, (n : Int) ≤ ct → (prs z t o n).map (fun q => (nu q.1, q.2, me q.1)) = (o.1.take n).filterMap (rnk z t o.2.2.2) := by
    intro n
    induction n with
    | zero => intro _; rfl
    | succ n ih =>
      intro hn
      have h1 := tk_s (b := o.1) (i := (n : Int)) (by omega) (by omega)
      rw [show ((n : Int) + 1).toNat = n + 1 by omega, Int.toNat_natCast] at h1
      rw [h1, List.filterMap_append, ← ih (by omega)]
      simp only [prs]
      rw [List.map_append]
      congr 1
      have hnu := hb.xnu n (by omega) (by omega)
      have hme := hb.xme n (by omega) (by omega)
      simp only [List.filterMap_cons, List.filterMap_nil]
      cases e : rnk z t o.2.2.2 (atP o.1 (n : Int)) with
      | none => rfl
      | some r =>
        obtain ⟨e1, e2⟩ := rnk_1 e
        simp only [List.map_cons, List.map_nil]
        rw [hnu.2, hme.2, ← e1, ← e2]
  have := key ct.toNat (by omega)
  rw [this]
  unfold rks
  rw [List.take_of_length_le (by omega)]
theorem rks_d (hb : rpB U nu wo sc me us la ct gv kd sl o) (z : Int) (t : List Int) : (rks z t o).Pairwise (fun x y => x.1 ≠ y.1) := by
  unfold rks
  rw [List.pairwise_filterMap]
  refine hb.1.2.2.2.2.2.2.1.imp (fun {x y} hxy a ha b hb2 => ?_)
  rw [(rnk_1 ha).1, (rnk_1 hb2).1]
  omega
theorem lst_fin (hb : rpB U nu wo sc me us la ct gv kd sl o) {z : Int} {t : List Int} {so ra : Int → Int} {lc k : Int} (hlc : 0 ≤ lc) (hs : srt so ra lc) (hin : ∀ j, 0 ≤ j → j < lc → 0 ≤ so j ∧ so j < ct) (hp : (rgp so ra lc).Perm (prs z t o ct.toNat)) (hk : -1 ≤ k) : (if k = -1 then ((kfl me so lc.toNat).length : Int) else if 0 ≤ k ∧ k < (kfl me so lc.toNat).length then nu ((kfl me so lc.toNat).getD k.toNat 0) else -5) = bst (rks z t o) k := by
  obtain ⟨S, hS⟩ : ∃ S, S = (rgp so ra lc).map (fun q => (nu q.1, q.2, me q.1)) := ⟨_, rfl⟩
  have hat : ∀ j : Nat, (j : Int) < lc → S[j]? = some (nu (so j), ra j, me (so j)) := fun j hj => by
    rw [hS, List.getElem?_map, rgp_at _ _ hj]; rfl
  have hlen : S.length = lc.toNat := by rw [hS, List.length_map, rgp_len]
  have hSp : S.Perm (rks z t o) := by rw [prs_rks hb, hS]; exact hp.map _
  have hSd : S.Pairwise (fun x y => x.1 ≠ y.1) := (hSp.pairwise_iff (fun {a b} h => h.symm)).mpr (rks_d hb z t)
  have nlt : ∀ a b, 0 ≤ a → a < b → b < ct → nu a < nu b := hb.lt
  have hSs : S.Pairwise (fun x y => ahR x y = true) := by
    rw [List.pairwise_iff_getElem]
    intro i j hi hj hij
    have e1 := hat i (by omega)
    have e2 := hat j (by omega)
    rw [List.getElem?_eq_getElem hi] at e1
    rw [List.getElem?_eq_getElem hj] at e2
    rw [Option.some.inj e1, Option.some.inj e2, ahR_iff]
    have h1 := hin i (by omega) (by omega)
    have h2 := hin j (by omega) (by omega)
    rcases hs i j (by omega) (by omega) (by omega) with h | h
    · exact Or.inl h
    · exact Or.inr ⟨h.1, nlt _ _ h1.1 h.2 h2.2⟩
  have hmem : ∀ j : Int, 0 ≤ j → j < lc → (nu (so j), ra j, me (so j)) ∈ rks z t o := fun j h0 h1 => by
    have := hat j.toNat (by omega)
    rw [Int.toNat_of_nonneg h0] at this
    exact hSp.mem_iff.mp (List.mem_of_getElem? this)
  have fresh : ∀ n : Int, 0 ≤ n → n < lc → (toR (rks z t o) (nu (so n), ra n, me (so n)) = true ↔ fsh me so n) := by
    intro n h0 h1
    have hn := hin n h0 h1
    have hmn := hb.xme (so n) hn.1 hn.2
    rw [toR_iff]
    unfold fsh
    constructor
    · rintro (h | h)
      · exact Or.inl (by simp only at h; omega)
      · refine Or.inr fun j j0 j1 e => ?_
        have hj := hin j j0 (by omega)
        rcases h _ (hmem j j0 (by omega)) with q | q | q
        · simp only at q
          rcases Int.lt_trichotomy (so j) (so n) with g | g | g
          · have := nlt _ _ hj.1 g hn.2; omega
          · have := hs j n j0 j1 h1
            have hx : S.Pairwise (fun x y => x.1 ≠ y.1) := hSd
            rw [List.pairwise_iff_getElem] at hx
            have e1 := hat j.toNat (by omega)
            have e2 := hat n.toNat (by omega)
            rw [List.getElem?_eq_getElem (by omega), Int.toNat_of_nonneg (by omega)] at e1 e2
            have h9 := hx j.toNat n.toNat (by omega) (by omega) (by omega)
            rw [Option.some.inj e1, Option.some.inj e2] at h9
            exact h9 q
          · have := nlt _ _ hn.1 g hj.2; omega
        · exact q e
        · rw [ahR_iff] at q
          simp only at q
          rcases hs j n j0 j1 h1 with g | g
          · omega
          · have := nlt _ _ hj.1 g.2 hn.2
            omega
    · rintro (h | h)
      · exact Or.inl (by simp only; omega)
      · refine Or.inr fun y hy => ?_
        obtain ⟨j, hj⟩ := List.getElem?_of_mem (hSp.mem_iff.mpr hy)
        have lj := (List.getElem?_eq_some_iff.mp hj).1
        have e1 := hat j (by omega)
        rw [hj] at e1
        rw [Option.some.inj e1]
        have hjj := hin j (by omega) (by omega)
        rcases Int.lt_trichotomy (j : Int) n with g | g | g
        · exact Or.inr (Or.inl (h j (by omega) g))
        · exact Or.inl (by rw [g])
        · refine Or.inr (Or.inr ?_)
          rw [ahR_iff]
          rcases hs n j h0 g (by omega) with q | q
          · exact Or.inl q
          · exact Or.inr ⟨q.1, nlt _ _ hn.1 q.2 hjj.2⟩
  have kf : ∀ n : Nat, (n : Int) ≤ lc → (kfl me so n).map nu = ((S.take n).filter (toR (rks z t o))).map (fun x => x.1) := by
    intro n
    induction n with
    | zero => intro _; rfl
    | succ n ih =>
      intro hn
      have h1 := hat n (by omega)
      rw [List.take_add_one, h1, List.filter_append, List.map_append, ← ih (by omega)]
      simp only [kfl, Option.toList_some, List.filter_cons, List.filter_nil]
      rw [List.map_append]
      congr 1
      by_cases hf : fsh me so n
      · rw [if_pos (fshB_iff.mpr hf), if_pos ((fresh n (by omega) (by omega)).mpr hf)]; rfl
      · rw [if_neg (fun q => hf (fshB_iff.mp q)), if_neg (fun q => hf ((fresh n (by omega) (by omega)).mp q))]; rfl
  have kall := kf lc.toNat (by omega)
  rw [List.take_of_length_le (by omega)] at kall
  rw [bst_eq hSp hSs hSd hk, ← kall]
  have kl : (kfl me so lc.toNat).length = (S.filter (toR (rks z t o))).length := by
    have := congrArg List.length kall
    simpa using this
  rw [← kl]
  by_cases e : k = -1
  · rw [if_pos e, if_pos e]
  · rw [if_neg e, if_neg e]
    by_cases hlt : k < (kfl me so lc.toNat).length
    · rw [if_pos (by omega), if_pos hlt]
      rw [List.getD_eq_getElem?_getD, List.getD_eq_getElem?_getD, List.getElem?_map, List.getElem?_eq_getElem (by omega)]
      rfl
    · rw [if_neg (by omega), if_neg hlt]
end LST
