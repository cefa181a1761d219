/-! ===== doing an order keeps a book in order ===== -/
theorem fw_y {U : Int} {o : Bo} (h : okO U o) {y : Ph} {w : List Int} (hy : y ∈ o.1) (e : y.2.1 = w) : fw o w = some y := by
  unfold fw
  cases hf : List.find? (fun y => y.2.1 == w) o.1 with
  | none => exact absurd (List.find?_eq_none.mp hf y hy) (by simp [e])
  | some z =>
    have h1 := List.find?_some hf
    have h2 := List.mem_of_find?_eq_some hf
    rw [pw_inj h.2.2.2.2.2.2.2 h2 hy (by rw [e]; simpa using h1)]
theorem fw_n {o : Bo} {w : List Int} : fw o w = none ↔ hasB o w = false := by
  unfold fw hasB
  rw [List.find?_eq_none, Bool.eq_false_iff]
  constructor
  · intro h z
    rw [List.any_eq_true] at z
    obtain ⟨x, hx, hc⟩ := z
    exact h x hx hc
  · intro h x hx hc
    exact h (List.any_eq_true.mpr ⟨x, hx, hc⟩)
theorem fw_has {o : Bo} {w : List Int} {y : Ph} (h : fw o w = some y) : hasB o w = true := by
  cases e : hasB o w with
  | true => rfl
  | false => rw [fw_n.mpr e] at h; cases h
theorem fw_mem {o : Bo} {w : List Int} {y : Ph} (h : fw o w = some y) : y ∈ o.1 ∧ y.2.1 = w := by
  unfold fw at h
  exact ⟨List.mem_of_find?_eq_some h, by simpa using List.find?_some h⟩
theorem can_rpB {U : Int} {o : Bo} (h : okO U o) : rpB U (fun j => (atP o.1 j).1) (fun j => ((pck (atP o.1 j).2.1 : Nat) : Int)) (fun j => (atP o.1 j).2.2.1) (fun j => (atP o.1 j).2.2.2.1) (fun j => (atP o.1 j).2.2.2.2.1) (fun j => (atP o.1 j).2.2.2.2.2) o.1.length o.2.1 o.2.2.1 o.2.2.2 o := ⟨h, rfl, rfl, rfl, rfl, fun j _ _ => ⟨rfl, rfl, rfl, rfl, rfl, rfl⟩⟩
theorem okO_dO {U c n : Int} {o : Bo} {r : Or3} (h : okO U o) (hr : okOr r) (hc : 0 ≤ c ∧ c ≤ 9999) (hU : U < 1000000) : okO (U + 1) (dO (o, c, n) r).1 := by
  have hb := can_rpB h
  have hg : okO (U + 1) o := h.up (by omega) (by omega)
  have hb1 := hb.grow (U2 := U + 1) (by omega) (by omega)
  obtain ⟨r1, r2, r3, r4, r5, r6⟩ := hr
  unfold dO
  by_cases e1 : r.1 = 1
  · rw [if_pos e1]
    by_cases e2 : hasB o r.2.1 = false ∧ roomB o = true
    · rw [if_pos e2]
      exact (hb1.add r2 (r3 (by omega)) e2.1 e2.2 r4 r6).1
    · rw [if_neg e2]; exact hg
  · rw [if_neg e1]
    by_cases e5 : r.1 = 5
    · rw [if_pos e5]
      exact (hb1.ctl ⟨r4.1, r5 e5⟩ hb.xsl.1).1
    · rw [if_neg e5]
      by_cases e6 : r.1 = 6
      · rw [if_pos e6]
        exact (hb1.ctl hb.xkd.1 r4).1
      · rw [if_neg e6]
        by_cases e7 : r.1 = 7
        · rw [if_pos e7]
          exact (hb1.half (sc2 := fun j => (atP o.1 j).2.2.1 / 2) (fun j _ _ => rfl)).1
        · rw [if_neg e7]
          cases hf : fw o r.2.1 with
          | none => exact hg
          | some y =>
            simp only
            obtain ⟨hy, ey⟩ := fw_mem hf
            obtain ⟨j, j0, j1, rfl⟩ := mem_atP hy
            have ha := h.2.2.2.2.2.1 _ hy
            obtain ⟨p1, p2, p3, p4, p5, p6, p7⟩ := ha
            have htk : 0 ≤ tick c ∧ tick c ≤ 9999 := by unfold tick; omega
            by_cases e2 : r.1 = 2
            · rw [if_pos e2]
              exact (hb.set (U2 := U + 1) (sc2 := up (fun j => (atP o.1 j).2.2.1) j (nsc o.2.2.1 (atP o.1 j).2.2.1 (atP o.1 j).2.2.2.2.1 (atP o.1 j).2.2.2.2.2 (tick c))) (us2 := up (fun j => (atP o.1 j).2.2.2.2.1) j ((atP o.1 j).2.2.2.2.1 + 1)) (la2 := up (fun j => (atP o.1 j).2.2.2.2.2) j (tick c)) ⟨j0, j1⟩ (by omega) (by omega) (nsc_in _ _ _ _ _ p4) (by omega) (by omega) ⟨up_s _ _ _, up_s _ _ _, up_s _ _ _⟩ (fun k hk => ⟨up_n _ _ hk, up_n _ _ hk, up_n _ _ hk⟩) _ rfl).1
            · rw [if_neg e2]
              by_cases e3 : r.1 = 3
              · rw [if_pos e3]
                exact (hb.set (U2 := U + 1) (sc2 := up (fun j => (atP o.1 j).2.2.1) j r.2.2.1) (us2 := fun j => (atP o.1 j).2.2.2.2.1) (la2 := fun j => (atP o.1 j).2.2.2.2.2) ⟨j0, j1⟩ (by omega) (by omega) r4 (by omega) p7 ⟨up_s _ _ _, rfl, rfl⟩ (fun k hk => ⟨up_n _ _ hk, rfl, rfl⟩) _ rfl).1
              · rw [if_neg e3]
                have ho := hb1.out (x := j) (nu2 := fun i => if i < j then (atP o.1 i).1 else (atP o.1 (i + 1)).1) (wo2 := fun i => if i < j then ((pck (atP o.1 i).2.1 : Nat) : Int) else ((pck (atP o.1 (i + 1)).2.1 : Nat) : Int)) (sc2 := fun i => if i < j then (atP o.1 i).2.2.1 else (atP o.1 (i + 1)).2.2.1) (me2 := fun i => if i < j then (atP o.1 i).2.2.2.1 else (atP o.1 (i + 1)).2.2.2.1) (us2 := fun i => if i < j then (atP o.1 i).2.2.2.2.1 else (atP o.1 (i + 1)).2.2.2.2.1) (la2 := fun i => if i < j then (atP o.1 i).2.2.2.2.2 else (atP o.1 (i + 1)).2.2.2.2.2) ⟨j0, j1⟩ (fun i _ g => ⟨if_pos g, if_pos g, if_pos g, if_pos g, if_pos g, if_pos g⟩) (fun i g _ => ⟨if_neg (by omega), if_neg (by omega), if_neg (by omega), if_neg (by omega), if_neg (by omega), if_neg (by omega)⟩)
                exact ho.1
theorem dO_n (o : Bo) (c n : Int) (r : Or3) : dO (o, c, n) r = ((dO (o, c, 0) r).1, (dO (o, c, 0) r).2.1, n + (dO (o, c, 0) r).2.2) := by
  unfold dO
  simp only
  cases fw o r.2.1 with
  | none => repeat' split
            all_goals simp
  | some y => repeat' split
              all_goals simp
theorem dO_01 (o : Bo) (c : Int) (r : Or3) : (dO (o, c, 0) r).2.2 = 0 ∨ (dO (o, c, 0) r).2.2 = 1 := by
  unfold dO
  simp only
  cases fw o r.2.1 with
  | none => repeat' split
            all_goals simp
  | some y => repeat' split
              all_goals simp
theorem orL_fold {α : Type} (f : α → Or3 → α) (a : α) (od : Int → Int) {k : Int} (h : 0 ≤ k) : (orL od (k + 1)).foldl f a = f ((orL od k).foldl f a) (orA od k) := by
  rw [orL_s od h, List.foldl_append]; rfl
theorem orL_mem {od : Int → Int} {oc k : Int} (h0 : 0 ≤ k) (h1 : k < oc) : orA od k ∈ orL od oc := by
  unfold orL
  refine List.mem_map.mpr ⟨k.toNat, List.mem_range.mpr (by omega), by rw [Int.toNat_of_nonneg h0]⟩
