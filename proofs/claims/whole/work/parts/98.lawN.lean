theorem nx1 : ∀ i, i < 7 → (Cond.exactly (.string RX3 (73 + 2 * i)) "java/lang/String") ∈ flatC (Jvm.Cond.and given_1 narrow_1) := by decide +kernel
theorem nx2 : ∀ i, i < 7 → (Cond.eq (.field (.string RX3 (73 + 2 * i)) "java/lang/String" "coder" "B") (.int 0)) ∈ flatC (Jvm.Cond.and given_1 narrow_1) := by decide +kernel
theorem nx3 : ∀ i, i < 7 → (Cond.arrayOf (.field (.string RX3 (73 + 2 * i)) "java/lang/String" "value" "[B") .byte) ∈ flatC (Jvm.Cond.and given_1 narrow_1) := by decide +kernel
theorem nx4 : ∀ i, i < 7 → (Cond.eq (.length (.field (.string RX3 (73 + 2 * i)) "java/lang/String" "value" "[B")) (.int (Int32.ofNat (sN.getD i 0)))) ∈ flatC (Jvm.Cond.and given_1 narrow_1) := by decide +kernel
theorem nx5 : ∀ i, i < 7 → ∀ j, j < sN.getD i 0 → (Cond.eq (.elem (.field (.string RX3 (73 + 2 * i)) "java/lang/String" "value" "[B") (.int (Int32.ofNat j))) (.int ((sB.getD i []).getD j 0))) ∈ flatC (Jvm.Cond.and given_1 narrow_1) := by decide +kernel
theorem nx6 : ∀ i, i < 7 → ∀ j, j < 7 → i ≠ j → ((Cond.not (Cond.eq (.string RX3 (73 + 2 * i)) (.string RX3 (73 + 2 * j)))) ∈ flatC (Jvm.Cond.and given_1 narrow_1) ∨ (Cond.not (Cond.eq (.string RX3 (73 + 2 * j)) (.string RX3 (73 + 2 * i)))) ∈ flatC (Jvm.Cond.and given_1 narrow_1)) := by decide +kernel
theorem nx7 : (Cond.eq (.static "java/lang/String" "COMPACT_STRINGS" "Z") (.int 1)) ∈ flatC (Jvm.Cond.and given_1 narrow_1) := by decide +kernel
theorem nx8 : (Cond.isRef (.static "jdk/internal/util/Preconditions" "SIOOBE_FORMATTER" "Ljava/util/function/BiFunction;")) ∈ flatC (Jvm.Cond.and given_1 narrow_1) := by decide +kernel
theorem sr_in : ∀ i, i < 7 → Cond.stringRef RX3 (73 + 2 * i) (sT.getD i "") ∈ lw_tbl := by
  intro i hi
  rcases (show i = 0 ∨ i = 1 ∨ i = 2 ∨ i = 3 ∨ i = 4 ∨ i = 5 ∨ i = 6 by omega) with rfl | rfl | rfl | rfl | rfl | rfl | rfl
  · exact List.mem_of_getElem? (i := 586) (by decide +kernel)
  · exact List.mem_of_getElem? (i := 587) (by decide +kernel)
  · exact List.mem_of_getElem? (i := 588) (by decide +kernel)
  · exact List.mem_of_getElem? (i := 589) (by decide +kernel)
  · exact List.mem_of_getElem? (i := 590) (by decide +kernel)
  · exact List.mem_of_getElem? (i := 591) (by decide +kernel)
  · exact List.mem_of_getElem? (i := 592) (by decide +kernel)
theorem nest_in {args : Array Value} {s : State} (hts : ∀ w ∈ lw_tbl, w.before args s = true) : ∀ w ∈ nestW, va_Nw w s := by
  intro w hw
  simp only [nestW, List.mem_cons, List.not_mem_nil, or_false] at hw
  rcases hw with rfl | rfl | rfl | rfl | rfl
  · exact va_Nw.of rfl (hts _ (List.mem_of_getElem? (i := 83) (by decide +kernel)))
  · exact va_Nw.of rfl (hts _ (List.mem_of_getElem? (i := 153) (by decide +kernel)))
  · exact va_Nw.of rfl (hts _ (List.mem_of_getElem? (i := 171) (by decide +kernel)))
  · exact va_Nw.of rfl (hts _ (List.mem_of_getElem? (i := 582) (by decide +kernel)))
  · exact va_Nw.of rfl (hts _ (List.mem_of_getElem? (i := 139) (by decide +kernel)))
theorem law_K {args : Array Value} {s : State} (hts : ∀ w ∈ lw_tbl, w.before args s = true) (hs : ∀ c ∈ flatC (Jvm.Cond.and given_1 narrow_1), c.before args s = true) : ∃ K : KT, va_K (kD K) vwCl (kT K) s ∧ gG K (fun q : Nat => s.heap.size ≤ q) s s.heap := by
  have hA0 : ∀ a : Nat, a < s.heap.size → ¬ (fun q : Nat => s.heap.size ≤ q) a := fun a h => Nat.not_le.mpr h
  obtain ⟨c0, iS0, hKn0⟩ := u_known (C := RX0) (T := TX0) (N := 10) (n := 10) hts il_wsX00 (hts _ (List.mem_of_getElem? (i := 82) (by decide +kernel)))
  obtain ⟨c1, iS1, hKn1⟩ := u_known (C := RX2) (T := TX2) (N := 3) (n := 3) hts il_wsX20 (hts _ (List.mem_of_getElem? (i := 152) (by decide +kernel)))
  obtain ⟨c2, iS2, hKn2⟩ := u_known (C := RX3) (T := TX3) (N := 9) (n := 9) hts il_wsX30 (hts _ (List.mem_of_getElem? (i := 170) (by decide +kernel)))
  obtain ⟨c3, iS3, hKn3⟩ := u_known (C := RX4) (T := TX4) (N := 3) (n := 3) hts il_wsX40 (hts _ (List.mem_of_getElem? (i := 132) (by decide +kernel)))
  obtain ⟨c4, iS4, hKn4⟩ := u_known (C := RX7) (T := TX7) (N := 9) (n := 9) hts il_wsX70 (hts _ (List.mem_of_getElem? (i := 74) (by decide +kernel)))
  obtain ⟨c5, iS5, hKn5⟩ := u_known (C := RX8) (T := TX8) (N := 18) (n := 18) hts il_wsX80 (hts _ (List.mem_of_getElem? (i := 698) (by decide +kernel)))
  obtain ⟨cI, kI, pI, i1, i2, i3⟩ := Cond.arrayClass_spec (hts (Cond.arrayClass .int) (List.mem_of_getElem? (i := 129) (by decide +kernel)))
  obtain ⟨cJ, kJ, pJ, j1, j2, j3⟩ := Cond.arrayClass_spec (hts (Cond.arrayClass .long) (List.mem_of_getElem? (i := 130) (by decide +kernel)))
  have hov := hts (Cond.arrayOver (.object "BestWords$Book")) (List.mem_of_getElem? (i := 138) (by decide +kernel))
  obtain ⟨pB, cB, kB, b1, -, b2, b3, b4⟩ := Cond.arrayOver_spec hov
  obtain ⟨adK, adV, hSS, hSe⟩ := vk_Sof (tm := fun i => Term.string RX3 (73 + 2 * i)) (len := sN) (byt := sB) (A := fun q : Nat => s.heap.size ≤ q) (N := 7) (by decide) (fun i hi => hs _ (nx1 i hi)) (fun i hi => hs _ (nx2 i hi)) (fun i hi => hs _ (nx3 i hi)) (fun i hi => hs _ (nx4 i hi)) (fun i hi j hj => hs _ (nx5 i hi j hj)) (fun i j hi hj hij => (nx6 i hi j hj hij).elim (fun h => Or.inl (hs _ h)) (fun h => Or.inr (hs _ h))) hA0
  refine ⟨(fun k => if k = 0 then c0 else if k = 1 then c1 else if k = 2 then c2 else if k = 3 then c3 else if k = 4 then c4 else c5, fun k => if k = 0 then iS0 else if k = 1 then iS1 else if k = 2 then iS2 else if k = 3 then iS3 else if k = 4 then iS4 else iS5, cI, cJ, cB, adK, adV), ⟨?_, ?_⟩, nest_in hts, fun i hi => vk_R.of (hts _ (sr_in i hi)) (hSe i hi), hSS, ?_, ?_, va_AO.of hov⟩
  · intro k q hq
    match k, hq with
    | 0, hq => cases hq; exact hKn0
    | 1, hq => cases hq; exact hKn1
    | 2, hq => cases hq; exact hKn2
    | 3, hq => cases hq; exact hKn3
    | 4, hq => cases hq; exact hKn4
    | 5, hq => cases hq; exact hKn5
    | k + 6, hq => simp [vwCl] at hq
  · intro k q hq
    match k, hq with
    | 0, hq => cases hq; exact ⟨fun n z => ⟨fun k h => (by cases h), kI, i2, pI, i3⟩, i1⟩
    | 1, hq => cases hq; exact ⟨fun n z => ⟨fun k h => (by cases h), kJ, j2, pJ, j3⟩, j1⟩
    | 2, hq => cases hq; exact ⟨fun n z => ⟨fun k h => (by cases h), kB, b2, pB, b3⟩, kB, pB, b2, b3, b1, b4⟩
    | k + 3, hq => simp [kT] at hq
  · exact va_Zof (hts _ (List.mem_of_getElem? (i := 606) (by decide +kernel))) (hts _ (List.mem_of_getElem? (i := 69) (by decide +kernel))) (va_eqt (hs _ nx7)) hA0
  · exact va_Zqof (hts _ (List.mem_of_getElem? (i := 622) (by decide +kernel))) (hts _ (List.mem_of_getElem? (i := 71) (by decide +kernel))) (hs _ nx8) hA0
