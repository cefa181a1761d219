theorem hd_J13_numberOfLeadingZeros_95d88 : yJ13_numberOfLeadingZeros_95d88.cls ≠ "java/lang/invoke/MethodHandle" ∧ yJ13_numberOfLeadingZeros_95d88.cls ≠ "java/lang/invoke/VarHandle" ∧ (parseMethodDescriptor yJ13_numberOfLeadingZeros_95d88.desc).map (fun d => d.parameters.length) = some 1 := by decide +kernel
set_option maxHeartbeats 400000 in
set_option maxRecDepth 100000 in
theorem c_X6_lengthOf (K : KT) (l : Launch) (wl : List Int) (hwl : okL wl) (lwl : wl.length ≤ 13) : Mt K l yX6_lengthOf wsX6_lengthOf ({ frames := 2, cells := 0, slots := 0, locals := 43 }) [vJ (((pck wl : Nat) : Int))] [] 0 0 (fun v w => v = some (vI (((wl.length : Nat) : Int))) ∧ w = []) := by
  refine Mt.of (own := RX6) (cc := cX6_lengthOf) (maxL := 2) (ret := (some .int)) (lv0 := [(0, vJ (((pck wl : Nat) : Int)))]) (by decide) rfl rfl (Nat.le_of_ble_eq_true rfl) rfl (fun X C hR hNm => ?_)
  have bwl := pck_b hwl (by omega)
  have hlen := pck_len hwl lwl
  refine i_bipush (q := 2) C (by decide) dX6_lengthOf_0 rfl ?_
  refine i_lload_n (j := 0) (q := 3) C rfl rfl dX6_lengthOf_2 rfl ?_
  refine i_callS (wr := []) (As := [vJ (((pck wl : Nat) : Int))]) (st := [vI 64]) (q := 6) C (c_J13_numberOfLeadingZeros_95d88 K l (((pck wl : Nat) : Int)) (by omega)) gX6_lengthOf_J13_numberOfLeadingZeros_95d88 rfl hd_J13_numberOfLeadingZeros_95d88 ⟨Nat.le_of_ble_eq_true rfl, Nat.le_of_ble_eq_true rfl⟩ ⟨rfl, rfl⟩ ⟨Nat.le_of_ble_eq_true rfl, Nat.le_of_ble_eq_true rfl⟩ (permBy [] (by decide) rfl rfl) rfl (Nat.le_of_ble_eq_true rfl) dX6_lengthOf_3 rfl (fun v w hq => ?_)
  obtain ⟨rfl, rfl⟩ := hq
  show V X 0 0 6 [(0, vJ (((pck wl : Nat) : Int)))] [vI (64 - bl (((pck wl : Nat) : Int))), vI 64] []
  refine i_isub (q := 7) C dX6_lengthOf_6 rfl ?_
  refine i_iconst (q := 8) C dX6_lengthOf_7 rfl ?_
  refine i_iadd (q := 9) C dX6_lengthOf_8 rfl ?_
  refine i_iconst (q := 10) C dX6_lengthOf_9 rfl ?_
  refine i_idiv (q := 11) C (by omega) dX6_lengthOf_10 rfl ?_
  refine i_iret C hR dX6_lengthOf_11 ?_
  exact ⟨by simp only [Option.some.injEq, Sum.inl.injEq]; omega, rfl⟩

set_option maxHeartbeats 400000 in
set_option maxRecDepth 100000 in
theorem c_X6_letterAt (K : KT) (l : Launch) (wl : List Int) (k : Int) (hwl : okL wl) (lwl : wl.length ≤ 13) (hk : 0 ≤ k ∧ k ≤ 12) : Mt K l yX6_letterAt wsX6_letterAt ({ frames := 0, cells := 0, slots := 0, locals := 0 }) [vJ (((pck wl : Nat) : Int)), vI k] [] 0 0 (fun v w => v = some (vI (wl.getD k.toNat (-1))) ∧ w = []) := by
  refine Mt.of (own := RX6) (cc := cX6_letterAt) (maxL := 3) (ret := (some .int)) (lv0 := [(0, vJ (((pck wl : Nat) : Int))), (2, vI k)]) (by decide) rfl rfl (Nat.le_of_ble_eq_true rfl) rfl (fun X C hR hNm => ?_)
  have bwl := pck_b hwl (by omega)
  have hp : (0 : Int) < 2 ^ (4 * k.toNat) := Int.pow_pos (by decide)
  have hd0 : 0 ≤ ((pck wl : Nat) : Int) / 2 ^ (4 * k.toNat) := Int.ediv_nonneg (by omega) (by omega)
  have hd1 : ((pck wl : Nat) : Int) / 2 ^ (4 * k.toNat) ≤ ((pck wl : Nat) : Int) := Int.ediv_le_self _ (by omega)
  have hdig := pck_dig hwl k.toNat
  rw [Int.natCast_emod, Int.natCast_ediv, p16i] at hdig
  refine i_lload_n (j := 0) (q := 1) C rfl rfl dX6_letterAt_0 rfl ?_
  refine i_iconst (q := 2) C dX6_letterAt_1 rfl ?_
  refine i_iload_n (j := 1) (q := 3) C rfl rfl dX6_letterAt_2 rfl ?_
  refine i_imul (q := 4) C dX6_letterAt_3 rfl ?_
  refine i_lushr (z := ((pck wl : Nat) : Int) / 2 ^ (4 * k.toNat)) (q := 5) C (zL_shr (4 * k.toNat) (by omega) (by omega) (by omega) (by omega)) dX6_letterAt_4 rfl ?_
  refine i_ldc2 (z := 15) (q := 8) C (List.mem_of_getElem? (i := 1) rfl) dX6_letterAt_5 rfl ?_
  refine i_land (z := ((pck wl : Nat) : Int) / 2 ^ (4 * k.toNat) % 16) (q := 9) C (zL_mask 4 hd0 (by omega) (by decide)) dX6_letterAt_8 rfl ?_
  refine i_l2i (q := 10) C dX6_letterAt_9 rfl ?_
  refine i_iconst (q := 11) C dX6_letterAt_10 rfl ?_
  refine i_isub (q := 12) C dX6_letterAt_11 rfl ?_
  refine i_iret C hR dX6_letterAt_12 ?_
  exact ⟨by simp only [Option.some.injEq, Sum.inl.injEq]; have h16 : ((16 : Nat) : Int) = 16 := rfl; rw [h16] at hdig; omega, rfl⟩

set_option maxHeartbeats 400000 in
set_option maxRecDepth 100000 in
theorem c_X6_mask (K : KT) (l : Launch) (k : Int) (hk : 0 ≤ k ∧ k ≤ 13) : Mt K l yX6_mask wsX6_mask ({ frames := 0, cells := 0, slots := 0, locals := 0 }) [vI k] [] 0 0 (fun v w => v = some (vJ (2 ^ (4 * k.toNat) - 1)) ∧ w = []) := by
  refine Mt.of (own := RX6) (cc := cX6_mask) (maxL := 1) (ret := (some .long)) (lv0 := [(0, vI k)]) (by decide) rfl rfl (Nat.le_of_ble_eq_true rfl) rfl (fun X C hR hNm => ?_)
  refine i_lconst (z := 1) (q := 1) C (by decide) dX6_mask_0 rfl ?_
  refine i_iconst (q := 2) C dX6_mask_1 rfl ?_
  refine i_iload_n (j := 0) (q := 3) C rfl rfl dX6_mask_2 rfl ?_
  refine i_imul (q := 4) C dX6_mask_3 rfl ?_
  refine i_lshl (z := 2 ^ (4 * k.toNat)) (q := 5) C (by rw [zL_shl (4 * k.toNat) (by omega) (by omega) (by omega), Int.one_mul]) dX6_mask_4 rfl ?_
  refine i_lconst (z := 1) (q := 6) C (by decide) dX6_mask_5 rfl ?_
  refine i_lsub (q := 7) C dX6_mask_6 rfl ?_
  refine i_lret C hR dX6_mask_7 ?_
  exact ⟨rfl, rfl⟩

theorem hd_X6_mask : yX6_mask.cls ≠ "java/lang/invoke/MethodHandle" ∧ yX6_mask.cls ≠ "java/lang/invoke/VarHandle" ∧ (parseMethodDescriptor yX6_mask.desc).map (fun d => d.parameters.length) = some 1 := by decide +kernel
set_option maxHeartbeats 400000 in
set_option maxRecDepth 100000 in
theorem c_X6_beginning (K : KT) (l : Launch) (wl : List Int) (k : Int) (hwl : okL wl) (lwl : wl.length ≤ 13) (hk : 0 ≤ k ∧ k ≤ 13) : Mt K l yX6_beginning wsX6_beginning ({ frames := 1, cells := 0, slots := 0, locals := 20 }) [vJ (((pck wl : Nat) : Int)), vI k] [] 0 0 (fun v w => v = some (vJ (((pck (wl.take k.toNat) : Nat) : Int))) ∧ w = []) := by
  refine Mt.of (own := RX6) (cc := cX6_beginning) (maxL := 3) (ret := (some .long)) (lv0 := [(0, vJ (((pck wl : Nat) : Int))), (2, vI k)]) (by decide) rfl rfl (Nat.le_of_ble_eq_true rfl) rfl (fun X C hR hNm => ?_)
  have bwl := pck_b hwl (by omega)
  refine i_lload_n (j := 0) (q := 1) C rfl rfl dX6_beginning_0 rfl ?_
  refine i_iload_n (j := 1) (q := 2) C rfl rfl dX6_beginning_1 rfl ?_
  refine i_callS (wr := []) (As := [vI k]) (st := [vJ (((pck wl : Nat) : Int))]) (q := 5) C (c_X6_mask K l (k) (by first | assumption | omega)) gX6_beginning_X6_mask rfl hd_X6_mask ⟨Nat.le_of_ble_eq_true rfl, Nat.le_of_ble_eq_true rfl⟩ ⟨rfl, rfl⟩ ⟨Nat.le_of_ble_eq_true rfl, Nat.le_of_ble_eq_true rfl⟩ (permBy [] (by decide) rfl rfl) rfl (Nat.le_of_ble_eq_true rfl) dX6_beginning_2 rfl (fun v w hq => ?_)
  obtain ⟨rfl, rfl⟩ := hq
  show V X 0 0 5 [(0, vJ (((pck wl : Nat) : Int))), (2, vI k)] [vJ (2 ^ (4 * k.toNat) - 1), vJ (((pck wl : Nat) : Int))] []
  refine i_land (z := ((pck (wl.take k.toNat) : Nat) : Int)) (q := 6) C (by rw [zL_mask (4 * k.toNat) (by omega) (by omega) (by omega), pck_take hwl, Int.natCast_emod, p16i]) dX6_beginning_5 rfl ?_
  refine i_lret C hR dX6_beginning_6 ?_
  exact ⟨rfl, rfl⟩

theorem hd_X6_lengthOf : yX6_lengthOf.cls ≠ "java/lang/invoke/MethodHandle" ∧ yX6_lengthOf.cls ≠ "java/lang/invoke/VarHandle" ∧ (parseMethodDescriptor yX6_lengthOf.desc).map (fun d => d.parameters.length) = some 1 := by decide +kernel
set_option maxHeartbeats 400000 in
set_option maxRecDepth 100000 in
theorem c_X6_longer (K : KT) (l : Launch) (wl : List Int) (x : Int) (hwl : okL wl) (lwl : wl.length ≤ 12) (hx : 0 ≤ x ∧ x ≤ 7) : Mt K l yX6_longer wsX6_longer ({ frames := 3, cells := 0, slots := 0, locals := 64 }) [vJ (((pck wl : Nat) : Int)), vI x] [] 0 0 (fun v w => v = some (vJ (((pck (wl ++ [x]) : Nat) : Int))) ∧ w = []) := by
  refine Mt.of (own := RX6) (cc := cX6_longer) (maxL := 3) (ret := (some .long)) (lv0 := [(0, vJ (((pck wl : Nat) : Int))), (2, vI x)]) (by decide) rfl rfl (Nat.le_of_ble_eq_true rfl) rfl (fun X C hR hNm => ?_)
  have bwl := pck_b hwl (by omega)
  have hlt := pck_lt hwl
  have hpa : ((pck (wl ++ [x]) : Nat) : Int) = ((pck wl : Nat) : Int) + (x + 1) * 2 ^ (4 * wl.length) := by
    rw [pck_app, Int.natCast_add, Int.natCast_mul, p16i, Int.mul_comm]
    congr 2
    simp only [pck]
    omega
  have hb2 := pck_b (l := wl ++ [x]) (hwl.app (fun y hy => by rw [List.mem_singleton.mp hy]; exact hx)) (by simp; omega)
  refine i_lload_n (j := 0) (q := 1) C rfl rfl dX6_longer_0 rfl ?_
  refine i_iload_n (j := 1) (q := 2) C rfl rfl dX6_longer_1 rfl ?_
  refine i_iconst (q := 3) C dX6_longer_2 rfl ?_
  refine i_iadd (q := 4) C dX6_longer_3 rfl ?_
  refine i_i2l (q := 5) C (by omega) dX6_longer_4 rfl ?_
  refine i_iconst (q := 6) C dX6_longer_5 rfl ?_
  refine i_lload_n (j := 0) (q := 7) C rfl rfl dX6_longer_6 rfl ?_
  refine i_callS (wr := []) (As := [vJ (((pck wl : Nat) : Int))]) (st := [vI 4, vJ (x + 1), vJ (((pck wl : Nat) : Int))]) (q := 10) C (c_X6_lengthOf K l (wl) (by first | assumption | omega) (by first | assumption | omega)) gX6_longer_X6_lengthOf rfl hd_X6_lengthOf ⟨Nat.le_of_ble_eq_true rfl, Nat.le_of_ble_eq_true rfl⟩ ⟨rfl, rfl⟩ ⟨Nat.le_of_ble_eq_true rfl, Nat.le_of_ble_eq_true rfl⟩ (permBy [] (by decide) rfl rfl) rfl (Nat.le_of_ble_eq_true rfl) dX6_longer_7 rfl (fun v w hq => ?_)
  obtain ⟨rfl, rfl⟩ := hq
  show V X 0 0 10 [(0, vJ (((pck wl : Nat) : Int))), (2, vI x)] [vI ((wl.length : Nat) : Int), vI 4, vJ (x + 1), vJ (((pck wl : Nat) : Int))] []
  refine i_imul (q := 11) C dX6_longer_10 rfl ?_
  refine i_lshl (z := (x + 1) * 2 ^ (4 * wl.length)) (q := 12) C (zL_shl (4 * wl.length) (by omega) (by omega) (by omega)) dX6_longer_11 rfl ?_
  refine i_lor (z := ((pck (wl ++ [x]) : Nat) : Int)) (q := 13) C (by rw [hpa]; exact zL_or (4 * wl.length) (by omega) (by rw [← p16i]; omega) (by omega) (by omega)) dX6_longer_12 rfl ?_
  refine i_lret C hR dX6_longer_13 ?_
  exact ⟨rfl, rfl⟩

set_option maxHeartbeats 400000 in
set_option maxRecDepth 100000 in
theorem c_X6_without (K : KT) (l : Launch) (wl : List Int) (k : Int) (hwl : okL wl) (lwl : wl.length ≤ 13) (hk : 0 ≤ k ∧ k ≤ 12) : Mt K l yX6_without wsX6_without ({ frames := 1, cells := 0, slots := 0, locals := 20 }) [vJ (((pck wl : Nat) : Int)), vI k] [] 0 0 (fun v w => v = some (vJ (((pck (wl.eraseIdx k.toNat) : Nat) : Int))) ∧ w = []) := by
  refine Mt.of (own := RX6) (cc := cX6_without) (maxL := 3) (ret := (some .long)) (lv0 := [(0, vJ (((pck wl : Nat) : Int))), (2, vI k)]) (by decide) rfl rfl (Nat.le_of_ble_eq_true rfl) rfl (fun X C hR hNm => ?_)
  have bwl := pck_b hwl (by omega)
  have hp : (0 : Int) < 2 ^ (4 * k.toNat) := Int.pow_pos (by decide)
  have her : ((pck (wl.eraseIdx k.toNat) : Nat) : Int) = ((pck wl : Nat) : Int) % 2 ^ (4 * k.toNat) + (((pck wl : Nat) : Int) / 16) / 2 ^ (4 * k.toNat) * 2 ^ (4 * k.toNat) := by
    rw [pck_erase hwl, Int.natCast_add, Int.natCast_emod, Int.natCast_mul, p16i, Int.natCast_ediv, Nat.pow_succ, Int.natCast_mul, p16i, Int.mul_comm ((2 : Int) ^ (4 * k.toNat)) ((16 : Nat) : Int), ← Int.ediv_ediv_of_nonneg (show (0 : Int) ≤ ((16 : Nat) : Int) by omega), Int.mul_comm]
    rfl
  have hb2 := pck_b (l := wl.eraseIdx k.toNat) (hwl.erase _) (by have := List.length_eraseIdx_le wl k.toNat; omega)
  have hm0 := Int.emod_nonneg ((pck wl : Nat) : Int) (show (2 : Int) ^ (4 * k.toNat) ≠ 0 by omega)
  have hm1 := Int.emod_lt_of_pos ((pck wl : Nat) : Int) hp
  have hq0 : 0 ≤ (((pck wl : Nat) : Int) / 16) / 2 ^ (4 * k.toNat) := Int.ediv_nonneg (by omega) (by omega)
  refine i_lload_n (j := 0) (q := 1) C rfl rfl dX6_without_0 rfl ?_
  refine i_iload_n (j := 1) (q := 2) C rfl rfl dX6_without_1 rfl ?_
  refine i_callS (wr := []) (As := [vI k]) (st := [vJ (((pck wl : Nat) : Int))]) (q := 5) C (c_X6_mask K l (k) (by first | assumption | omega)) gX6_without_X6_mask rfl hd_X6_mask ⟨Nat.le_of_ble_eq_true rfl, Nat.le_of_ble_eq_true rfl⟩ ⟨rfl, rfl⟩ ⟨Nat.le_of_ble_eq_true rfl, Nat.le_of_ble_eq_true rfl⟩ (permBy [] (by decide) rfl rfl) rfl (Nat.le_of_ble_eq_true rfl) dX6_without_2 rfl (fun v w hq => ?_)
  obtain ⟨rfl, rfl⟩ := hq
  show V X 0 0 5 [(0, vJ (((pck wl : Nat) : Int))), (2, vI k)] [vJ (2 ^ (4 * k.toNat) - 1), vJ (((pck wl : Nat) : Int))] []
  refine i_land (z := ((pck wl : Nat) : Int) % 2 ^ (4 * k.toNat)) (q := 6) C (zL_mask (4 * k.toNat) (by omega) (by omega) (by omega)) dX6_without_5 rfl ?_
  refine i_lload_n (j := 0) (q := 7) C rfl rfl dX6_without_6 rfl ?_
  refine i_iconst (q := 8) C dX6_without_7 rfl ?_
  refine i_lushr (z := ((pck wl : Nat) : Int) / 16) (q := 9) C (zL_shr 4 rfl (by omega) (by omega) (by decide)) dX6_without_8 rfl ?_
  refine i_iload_n (j := 1) (q := 10) C rfl rfl dX6_without_9 rfl ?_
  refine i_callS (wr := []) (As := [vI k]) (st := [vJ (((pck wl : Nat) : Int) / 16), vJ (((pck wl : Nat) : Int) % 2 ^ (4 * k.toNat))]) (q := 13) C (c_X6_mask K l (k) (by first | assumption | omega)) gX6_without_X6_mask rfl hd_X6_mask ⟨Nat.le_of_ble_eq_true rfl, Nat.le_of_ble_eq_true rfl⟩ ⟨rfl, rfl⟩ ⟨Nat.le_of_ble_eq_true rfl, Nat.le_of_ble_eq_true rfl⟩ (permBy [] (by decide) rfl rfl) rfl (Nat.le_of_ble_eq_true rfl) dX6_without_10 rfl (fun v w hq => ?_)
  obtain ⟨rfl, rfl⟩ := hq
  show V X 0 0 13 [(0, vJ (((pck wl : Nat) : Int))), (2, vI k)] [vJ (2 ^ (4 * k.toNat) - 1), vJ (((pck wl : Nat) : Int) / 16), vJ (((pck wl : Nat) : Int) % 2 ^ (4 * k.toNat))] []
  refine i_ldc2 (z := -1) (q := 16) C (List.mem_of_getElem? (i := 1) rfl) dX6_without_13 rfl ?_
  refine i_lxor (z := (zL (2 ^ (4 * k.toNat) - 1) ^^^ zL (-1)).toInt) (q := 17) C ((zL_of _).symm) dX6_without_16 rfl ?_
  refine i_land (z := (((pck wl : Nat) : Int) / 16) / 2 ^ (4 * k.toNat) * 2 ^ (4 * k.toNat)) (q := 18) C (by rw [zL_of]; exact zL_andnot (4 * k.toNat) (by omega) (by omega) (by omega)) dX6_without_17 rfl ?_
  refine i_lor (z := ((pck (wl.eraseIdx k.toNat) : Nat) : Int)) (q := 19) C (by rw [her]; exact zL_or (4 * k.toNat) hm0 hm1 hq0 (by rw [← her]; omega)) dX6_without_18 rfl ?_
  refine i_lret C hR dX6_without_19 ?_
  exact ⟨rfl, rfl⟩

theorem hd_X6_beginning : yX6_beginning.cls ≠ "java/lang/invoke/MethodHandle" ∧ yX6_beginning.cls ≠ "java/lang/invoke/VarHandle" ∧ (parseMethodDescriptor yX6_beginning.desc).map (fun d => d.parameters.length) = some 2 := by decide +kernel
set_option maxHeartbeats 400000 in
set_option maxRecDepth 100000 in
theorem c_X6_begins (K : KT) (l : Launch) (wl : List Int) (tl : List Int) (hwl : okL wl) (lwl : wl.length ≤ 13) (htl : okL tl) (ltl : tl.length ≤ 13) : Mt K l yX6_begins wsX6_begins ({ frames := 3, cells := 0, slots := 0, locals := 64 }) [vJ (((pck wl : Nat) : Int)), vJ (((pck tl : Nat) : Int))] [] 0 0 (fun v w => v = some (vI (if bgs tl wl = true then 1 else 0)) ∧ w = []) := by
  refine Mt.of (own := RX6) (cc := cX6_begins) (maxL := 4) (ret := (some .boolean)) (lv0 := [(0, vJ (((pck wl : Nat) : Int))), (2, vJ (((pck tl : Nat) : Int)))]) (by decide) rfl rfl (Nat.le_of_ble_eq_true rfl) rfl (fun X C hR hNm => ?_)
  have bwl := pck_b hwl (by omega)
  have btl := pck_b htl (by omega)
  have hbq : bgs tl wl = true ↔ pck (wl.take tl.length) = pck tl := by
    unfold bgs
    rw [beq_iff_eq]
    exact ⟨fun h => by rw [h], fun h => pck_inj (hwl.take _) htl h⟩
  have bt2 := pck_b (l := wl.take tl.length) (hwl.take _) (by rw [List.length_take]; omega)
  refine i_lload_n (j := 0) (q := 1) C rfl rfl dX6_begins_0 rfl ?_
  refine i_lload_n (j := 1) (q := 2) C rfl rfl dX6_begins_1 rfl ?_
  refine i_callS (wr := []) (As := [vJ (((pck tl : Nat) : Int))]) (st := [vJ (((pck wl : Nat) : Int))]) (q := 5) C (c_X6_lengthOf K l (tl) (by first | assumption | omega) (by first | assumption | omega)) gX6_begins_X6_lengthOf rfl hd_X6_lengthOf ⟨Nat.le_of_ble_eq_true rfl, Nat.le_of_ble_eq_true rfl⟩ ⟨rfl, rfl⟩ ⟨Nat.le_of_ble_eq_true rfl, Nat.le_of_ble_eq_true rfl⟩ (permBy [] (by decide) rfl rfl) rfl (Nat.le_of_ble_eq_true rfl) dX6_begins_2 rfl (fun v w hq => ?_)
  obtain ⟨rfl, rfl⟩ := hq
  show V X 0 0 5 [(0, vJ (((pck wl : Nat) : Int))), (2, vJ (((pck tl : Nat) : Int)))] [vI ((tl.length : Nat) : Int), vJ (((pck wl : Nat) : Int))] []
  refine i_callS (wr := []) (As := [vJ (((pck wl : Nat) : Int)), vI ((tl.length : Nat) : Int)]) (st := []) (q := 8) C (c_X6_beginning K l (wl) (((tl.length : Nat) : Int)) (by first | assumption | omega) (by first | assumption | omega) (by first | assumption | omega)) gX6_begins_X6_beginning rfl hd_X6_beginning ⟨Nat.le_of_ble_eq_true rfl, Nat.le_of_ble_eq_true rfl⟩ ⟨rfl, rfl⟩ ⟨Nat.le_of_ble_eq_true rfl, Nat.le_of_ble_eq_true rfl⟩ (permBy [] (by decide) rfl rfl) rfl (Nat.le_of_ble_eq_true rfl) dX6_begins_5 rfl (fun v w hq => ?_)
  obtain ⟨rfl, rfl⟩ := hq
  show V X 0 0 8 [(0, vJ (((pck wl : Nat) : Int))), (2, vJ (((pck tl : Nat) : Int)))] [vJ ((pck (wl.take (((tl.length : Nat) : Int)).toNat) : Nat) : Int)] []
  refine V.topJ (b := ((pck (wl.take tl.length) : Nat) : Int)) (rfl) ?_
  refine i_lload_n (j := 1) (q := 9) C rfl rfl dX6_begins_8 rfl ?_
  refine i_lcmp (q := 10) C (by omega) (by omega) dX6_begins_9 rfl ?_
  refine V.top (b := lcm3 (pck (wl.take tl.length)) (pck tl)) (rfl) ?_
  refine i_if_ne (tgt := 17) (q := 13) C (lcm3_r _ _) dX6_begins_10 (by decide) rfl (fun c_10 => ?_) (fun c_10 => ?_)
  · skip
    refine i_iconst (q := 18) C dX6_begins_17 rfl ?_
    refine i_zret C hR (by omega) dX6_begins_18 ?_
    exact ⟨by
      simp only [Option.some.injEq, Sum.inl.injEq]
      rw [if_neg (fun z => c_10 (lcm3_0.mpr (hbq.mp z)))], rfl⟩
  · skip
    refine i_iconst (q := 14) C dX6_begins_13 rfl ?_
    refine i_goto (q := 18) C dX6_begins_14 (by decide) ?_
    refine i_zret C hR (by omega) dX6_begins_18 ?_
    exact ⟨by
      simp only [Option.some.injEq, Sum.inl.injEq]
      rw [if_pos (hbq.mpr (lcm3_0.mp c_10))], rfl⟩

theorem hd_J13_numberOfTrailingZeros_95d88 : yJ13_numberOfTrailingZeros_95d88.cls ≠ "java/lang/invoke/MethodHandle" ∧ yJ13_numberOfTrailingZeros_95d88.cls ≠ "java/lang/invoke/VarHandle" ∧ (parseMethodDescriptor yJ13_numberOfTrailingZeros_95d88.desc).map (fun d => d.parameters.length) = some 1 := by decide +kernel
set_option maxHeartbeats 400000 in
set_option maxRecDepth 100000 in
theorem c_X6_sameAtFirst (K : KT) (l : Launch) (wl : List Int) (tl : List Int) (hwl : okL wl) (lwl : wl.length ≤ 13) (htl : okL tl) (ltl : tl.length ≤ 13) : Mt K l yX6_sameAtFirst wsX6_sameAtFirst ({ frames := 3, cells := 0, slots := 0, locals := 64 }) [vJ (((pck wl : Nat) : Int)), vJ (((pck tl : Nat) : Int))] [] 0 0 (fun v w => v = some (vI (((cp wl tl : Nat) : Int))) ∧ w = []) := by
  refine Mt.of (own := RX6) (cc := cX6_sameAtFirst) (maxL := 4) (ret := (some .int)) (lv0 := [(0, vJ (((pck wl : Nat) : Int))), (2, vJ (((pck tl : Nat) : Int)))]) (by decide) rfl rfl (Nat.le_of_ble_eq_true rfl) rfl (fun X C hR hNm => ?_)
  have bwl := pck_b hwl (by omega)
  have btl := pck_b htl (by omega)
  refine i_lload_n (j := 0) (q := 1) C rfl rfl dX6_sameAtFirst_0 rfl ?_
  refine i_lload_n (j := 1) (q := 2) C rfl rfl dX6_sameAtFirst_1 rfl ?_
  refine i_lcmp (q := 3) C (by omega) (by omega) dX6_sameAtFirst_2 rfl ?_
  refine V.top (b := lcm3 (pck wl) (pck tl)) (rfl) ?_
  refine i_if_ne (tgt := 13) (q := 6) C (lcm3_r _ _) dX6_sameAtFirst_3 (by decide) rfl (fun c_3 => ?_) (fun c_3 => ?_)
  · skip
    have hne : wl ≠ tl := fun e => c_3 (lcm3_0.mpr (by rw [e]))
    obtain ⟨t2, q2, hq1, hq2⟩ := pck_xor hwl htl hne
    have hxl : pck wl ^^^ pck tl < 4503599627370496 := Nat.xor_lt_two_pow (n := 52) (by omega) (by omega)
    have hx2 : 0 < ((pck wl ^^^ pck tl : Nat) : Int) ∧ ((pck wl ^^^ pck tl : Nat) : Int) < 4611686018427387904 := by
      have hpp : 0 < 2 ^ t2 * (2 * q2 + 1) := Nat.mul_pos (Nat.pow_pos (by decide)) (by omega)
      omega
    have ht62 : t2 < 62 := by
      rcases Nat.lt_or_ge t2 62 with g | g
      · exact g
      · have h1 : 2 ^ 62 ≤ 2 ^ t2 := Nat.pow_le_pow_right (by decide) g
        have h2 : 2 ^ t2 ≤ 2 ^ t2 * (2 * q2 + 1) := Nat.le_mul_of_pos_right _ (by omega)
        omega
    have hq3 : ((pck wl ^^^ pck tl : Nat) : Int) = 2 ^ t2 * (2 * (q2 : Int) + 1) := by rw [hq1, p2n]; push_cast; rfl
    refine i_lload_n (j := 0) (q := 14) C rfl rfl dX6_sameAtFirst_13 rfl ?_
    refine i_lload_n (j := 1) (q := 15) C rfl rfl dX6_sameAtFirst_14 rfl ?_
    refine i_lxor (z := ((pck wl ^^^ pck tl : Nat) : Int)) (q := 16) C (by rw [zLn, zLn, zLn]; exact wb_xor2 (by omega) (by omega)) dX6_sameAtFirst_15 rfl ?_
    refine i_callS (wr := []) (As := [vJ (((pck wl ^^^ pck tl : Nat) : Int))]) (st := []) (q := 19) C (c_J13_numberOfTrailingZeros_95d88 K l (((pck wl ^^^ pck tl : Nat) : Int)) (t2) ((q2 : Int)) (hx2) (ht62) (hq3)) gX6_sameAtFirst_J13_numberOfTrailingZeros_95d88 rfl hd_J13_numberOfTrailingZeros_95d88 ⟨Nat.le_of_ble_eq_true rfl, Nat.le_of_ble_eq_true rfl⟩ ⟨rfl, rfl⟩ ⟨Nat.le_of_ble_eq_true rfl, Nat.le_of_ble_eq_true rfl⟩ (permBy [] (by decide) rfl rfl) rfl (Nat.le_of_ble_eq_true rfl) dX6_sameAtFirst_16 rfl (fun v w hq => ?_)
    obtain ⟨rfl, rfl⟩ := hq
    show V X 0 0 19 [(0, vJ (((pck wl : Nat) : Int))), (2, vJ (((pck tl : Nat) : Int)))] [vI ((t2 : Nat) : Int)] []
    refine i_iconst (q := 20) C dX6_sameAtFirst_19 rfl ?_
    refine i_idiv (q := 21) C (by omega) dX6_sameAtFirst_20 rfl ?_
    refine i_iret C hR dX6_sameAtFirst_21 ?_
    exact ⟨by
      simp only [Option.some.injEq, Sum.inl.injEq]
      omega, rfl⟩
  · skip
    have heq : wl = tl := pck_inj hwl htl (lcm3_0.mp c_3)
    refine i_lload_n (j := 0) (q := 7) C rfl rfl dX6_sameAtFirst_6 rfl ?_
    refine i_callS (wr := []) (As := [vJ (((pck wl : Nat) : Int))]) (st := []) (q := 10) C (c_X6_lengthOf K l (wl) (by first | assumption | omega) (by first | assumption | omega)) gX6_sameAtFirst_X6_lengthOf rfl hd_X6_lengthOf ⟨Nat.le_of_ble_eq_true rfl, Nat.le_of_ble_eq_true rfl⟩ ⟨rfl, rfl⟩ ⟨Nat.le_of_ble_eq_true rfl, Nat.le_of_ble_eq_true rfl⟩ (permBy [] (by decide) rfl rfl) rfl (Nat.le_of_ble_eq_true rfl) dX6_sameAtFirst_7 rfl (fun v w hq => ?_)
    obtain ⟨rfl, rfl⟩ := hq
    show V X 0 0 10 [(0, vJ (((pck wl : Nat) : Int))), (2, vJ (((pck tl : Nat) : Int)))] [vI ((wl.length : Nat) : Int)] []
    refine i_goto (q := 21) C dX6_sameAtFirst_10 (by decide) ?_
    refine i_iret C hR dX6_sameAtFirst_21 ?_
    exact ⟨by
      simp only [Option.some.injEq, Sum.inl.injEq]
      rw [← heq, cp_self], rfl⟩

theorem hd_X6_begins : yX6_begins.cls ≠ "java/lang/invoke/MethodHandle" ∧ yX6_begins.cls ≠ "java/lang/invoke/VarHandle" ∧ (parseMethodDescriptor yX6_begins.desc).map (fun d => d.parameters.length) = some 2 := by decide +kernel
theorem hd_X6_sameAtFirst : yX6_sameAtFirst.cls ≠ "java/lang/invoke/MethodHandle" ∧ yX6_sameAtFirst.cls ≠ "java/lang/invoke/VarHandle" ∧ (parseMethodDescriptor yX6_sameAtFirst.desc).map (fun d => d.parameters.length) = some 2 := by decide +kernel
theorem hd_X6_without : yX6_without.cls ≠ "java/lang/invoke/MethodHandle" ∧ yX6_without.cls ≠ "java/lang/invoke/VarHandle" ∧ (parseMethodDescriptor yX6_without.desc).map (fun d => d.parameters.length) = some 2 := by decide +kernel
set_option maxHeartbeats 400000 in
set_option maxRecDepth 100000 in
theorem c_X6_isOneSlipFrom (K : KT) (l : Launch) (wl : List Int) (tl : List Int) (hwl : okL wl) (lwl : wl.length ≤ 12) (htl : okL tl) (ltl : tl.length ≤ 12) : Mt K l yX6_isOneSlipFrom wsX6_isOneSlipFrom ({ frames := 4, cells := 0, slots := 0, locals := 87 }) [vJ (((pck wl : Nat) : Int)), vJ (((pck tl : Nat) : Int))] [] 0 0 (fun v w => v = some (vI (if clo tl wl = true then 1 else 0)) ∧ w = []) := by
  refine Mt.of (own := RX6) (cc := cX6_isOneSlipFrom) (maxL := 8) (ret := (some .boolean)) (lv0 := [(0, vJ (((pck wl : Nat) : Int))), (2, vJ (((pck tl : Nat) : Int)))]) (by decide) rfl rfl (Nat.le_of_ble_eq_true rfl) rfl (fun X C hR hNm => ?_)
  have bwl := pck_b hwl (by omega)
  have btl := pck_b htl (by omega)
  refine i_lload_n (j := 0) (q := 1) C rfl rfl dX6_isOneSlipFrom_0 rfl ?_
  refine i_lload_n (j := 1) (q := 2) C rfl rfl dX6_isOneSlipFrom_1 rfl ?_
  refine i_callS (wr := []) (As := [vJ (((pck wl : Nat) : Int)), vJ (((pck tl : Nat) : Int))]) (st := []) (q := 5) C (c_X6_begins K l (wl) (tl) (by first | assumption | omega) (by first | assumption | omega) (by first | assumption | omega) (by first | assumption | omega)) gX6_isOneSlipFrom_X6_begins rfl hd_X6_begins ⟨Nat.le_of_ble_eq_true rfl, Nat.le_of_ble_eq_true rfl⟩ ⟨rfl, rfl⟩ ⟨Nat.le_of_ble_eq_true rfl, Nat.le_of_ble_eq_true rfl⟩ (permBy [] (by decide) rfl rfl) rfl (Nat.le_of_ble_eq_true rfl) dX6_isOneSlipFrom_2 rfl (fun v w hq => ?_)
  obtain ⟨rfl, rfl⟩ := hq
  show V X 0 0 5 [(0, vJ (((pck wl : Nat) : Int))), (2, vJ (((pck tl : Nat) : Int)))] [vI (if bgs tl wl = true then 1 else 0)] []
  refine i_if_eq (tgt := 10) (q := 8) C (if01) dX6_isOneSlipFrom_5 (by decide) rfl (fun c_5 => ?_) (fun c_5 => ?_)
  · skip
    have h_5 := if0 c_5
    have hnb := h_5
    have hcl := cp_le wl tl
    have hk : cp wl tl < tl.length := by
      have : cp wl tl ≠ tl.length := fun e => hnb (bgs_cp.mpr e)
      omega
    have hclo : clo tl wl = true ↔ (tl.eraseIdx (cp wl tl) = wl.take (tl.length - 1) ∨ tl = (wl.take (tl.length + 1)).eraseIdx (cp wl tl) ∨ tl.eraseIdx (cp wl tl) = (wl.take tl.length).eraseIdx (cp wl tl)) := by
      rw [clo_iff, ← slp_iff hnb]
      exact ⟨fun h => h.1, fun h => ⟨h, hnb⟩⟩
    have be1 := pck_b (l := tl.eraseIdx (cp wl tl)) (htl.erase _) (by have := List.length_eraseIdx_le tl (cp wl tl); omega)
    have be2 := pck_b (l := wl.take (tl.length - 1)) (hwl.take _) (by rw [List.length_take]; omega)
    have be3 := pck_b (l := (wl.take (tl.length + 1)).eraseIdx (cp wl tl)) ((hwl.take _).erase _) (by have := List.length_eraseIdx_le (wl.take (tl.length + 1)) (cp wl tl); rw [List.length_take] at this; omega)
    have be4 := pck_b (l := (wl.take tl.length).eraseIdx (cp wl tl)) ((hwl.take _).erase _) (by have := List.length_eraseIdx_le (wl.take tl.length) (cp wl tl); rw [List.length_take] at this; omega)
    refine i_lload_n (j := 1) (q := 11) C rfl rfl dX6_isOneSlipFrom_10 rfl ?_
    refine i_callS (wr := []) (As := [vJ (((pck tl : Nat) : Int))]) (st := []) (q := 14) C (c_X6_lengthOf K l (tl) (by first | assumption | omega) (by first | assumption | omega)) gX6_isOneSlipFrom_X6_lengthOf rfl hd_X6_lengthOf ⟨Nat.le_of_ble_eq_true rfl, Nat.le_of_ble_eq_true rfl⟩ ⟨rfl, rfl⟩ ⟨Nat.le_of_ble_eq_true rfl, Nat.le_of_ble_eq_true rfl⟩ (permBy [] (by decide) rfl rfl) rfl (Nat.le_of_ble_eq_true rfl) dX6_isOneSlipFrom_11 rfl (fun v w hq => ?_)
    obtain ⟨rfl, rfl⟩ := hq
    show V X 0 0 14 [(0, vJ (((pck wl : Nat) : Int))), (2, vJ (((pck tl : Nat) : Int)))] [vI ((tl.length : Nat) : Int)] []
    refine i_istore (q := 16) (lv' := [(4, vI ((tl.length : Nat) : Int)), (0, vJ (((pck wl : Nat) : Int))), (2, vJ (((pck tl : Nat) : Int)))]) C (by decide) rfl dX6_isOneSlipFrom_14 rfl ?_
    refine i_lload_n (j := 1) (q := 17) C rfl rfl dX6_isOneSlipFrom_16 rfl ?_
    refine i_lload_n (j := 2) (q := 18) C rfl rfl dX6_isOneSlipFrom_17 rfl ?_
    refine i_callS (wr := []) (As := [vJ (((pck wl : Nat) : Int)), vJ (((pck tl : Nat) : Int))]) (st := []) (q := 21) C (c_X6_sameAtFirst K l (wl) (tl) (by first | assumption | omega) (by first | assumption | omega) (by first | assumption | omega) (by first | assumption | omega)) gX6_isOneSlipFrom_X6_sameAtFirst rfl hd_X6_sameAtFirst ⟨Nat.le_of_ble_eq_true rfl, Nat.le_of_ble_eq_true rfl⟩ ⟨rfl, rfl⟩ ⟨Nat.le_of_ble_eq_true rfl, Nat.le_of_ble_eq_true rfl⟩ (permBy [] (by decide) rfl rfl) rfl (Nat.le_of_ble_eq_true rfl) dX6_isOneSlipFrom_18 rfl (fun v w hq => ?_)
    obtain ⟨rfl, rfl⟩ := hq
    show V X 0 0 21 [(4, vI ((tl.length : Nat) : Int)), (0, vJ (((pck wl : Nat) : Int))), (2, vJ (((pck tl : Nat) : Int)))] [vI ((cp wl tl : Nat) : Int)] []
    refine i_istore (q := 23) (lv' := [(5, vI ((cp wl tl : Nat) : Int)), (4, vI ((tl.length : Nat) : Int)), (0, vJ (((pck wl : Nat) : Int))), (2, vJ (((pck tl : Nat) : Int)))]) C (by decide) rfl dX6_isOneSlipFrom_21 rfl ?_
    refine i_lload_n (j := 3) (q := 24) C rfl rfl dX6_isOneSlipFrom_23 rfl ?_
    refine i_iload (j := 0) (q := 26) C rfl dX6_isOneSlipFrom_24 rfl ?_
    refine i_callS (wr := []) (As := [vJ (((pck tl : Nat) : Int)), vI ((cp wl tl : Nat) : Int)]) (st := []) (q := 29) C (c_X6_without K l (tl) (((cp wl tl : Nat) : Int)) (by first | assumption | omega) (by first | assumption | omega) (by first | assumption | omega)) gX6_isOneSlipFrom_X6_without rfl hd_X6_without ⟨Nat.le_of_ble_eq_true rfl, Nat.le_of_ble_eq_true rfl⟩ ⟨rfl, rfl⟩ ⟨Nat.le_of_ble_eq_true rfl, Nat.le_of_ble_eq_true rfl⟩ (permBy [] (by decide) rfl rfl) rfl (Nat.le_of_ble_eq_true rfl) dX6_isOneSlipFrom_26 rfl (fun v w hq => ?_)
    obtain ⟨rfl, rfl⟩ := hq
    show V X 0 0 29 [(5, vI ((cp wl tl : Nat) : Int)), (4, vI ((tl.length : Nat) : Int)), (0, vJ (((pck wl : Nat) : Int))), (2, vJ (((pck tl : Nat) : Int)))] [vJ ((pck (tl.eraseIdx (((cp wl tl : Nat) : Int)).toNat) : Nat) : Int)] []
    refine V.topJ (b := ((pck (tl.eraseIdx (cp wl tl)) : Nat) : Int)) (rfl) ?_
    refine i_lstore (q := 31) (lv' := [(6, vJ (((pck (tl.eraseIdx (cp wl tl)) : Nat) : Int))), (5, vI ((cp wl tl : Nat) : Int)), (4, vI ((tl.length : Nat) : Int)), (0, vJ (((pck wl : Nat) : Int))), (2, vJ (((pck tl : Nat) : Int)))]) C (by decide) rfl dX6_isOneSlipFrom_29 rfl ?_
    refine i_lload (j := 0) (q := 33) C rfl dX6_isOneSlipFrom_31 rfl ?_
    refine i_lload_n (j := 3) (q := 34) C rfl rfl dX6_isOneSlipFrom_33 rfl ?_
    refine i_iload (j := 2) (q := 36) C rfl dX6_isOneSlipFrom_34 rfl ?_
    refine i_iconst (q := 37) C dX6_isOneSlipFrom_36 rfl ?_
    refine i_isub (q := 38) C dX6_isOneSlipFrom_37 rfl ?_
    refine i_callS (wr := []) (As := [vJ (((pck wl : Nat) : Int)), vI (((tl.length : Nat) : Int) - 1)]) (st := [vJ (((pck (tl.eraseIdx (cp wl tl)) : Nat) : Int))]) (q := 41) C (c_X6_beginning K l (wl) (((tl.length : Nat) : Int) - 1) (by first | assumption | omega) (by first | assumption | omega) (by first | assumption | omega)) gX6_isOneSlipFrom_X6_beginning rfl hd_X6_beginning ⟨Nat.le_of_ble_eq_true rfl, Nat.le_of_ble_eq_true rfl⟩ ⟨rfl, rfl⟩ ⟨Nat.le_of_ble_eq_true rfl, Nat.le_of_ble_eq_true rfl⟩ (permBy [] (by decide) rfl rfl) rfl (Nat.le_of_ble_eq_true rfl) dX6_isOneSlipFrom_38 rfl (fun v w hq => ?_)
    obtain ⟨rfl, rfl⟩ := hq
    show V X 0 0 41 [(6, vJ (((pck (tl.eraseIdx (cp wl tl)) : Nat) : Int))), (5, vI ((cp wl tl : Nat) : Int)), (4, vI ((tl.length : Nat) : Int)), (0, vJ (((pck wl : Nat) : Int))), (2, vJ (((pck tl : Nat) : Int)))] [vJ ((pck (wl.take (((tl.length : Nat) : Int) - 1).toNat) : Nat) : Int), vJ (((pck (tl.eraseIdx (cp wl tl)) : Nat) : Int))] []
    refine V.topJ (b := ((pck (wl.take (tl.length - 1)) : Nat) : Int)) (by rw [show (((tl.length : Nat) : Int) - 1).toNat = tl.length - 1 by omega]) ?_
    refine i_lcmp (q := 42) C (by omega) (by omega) dX6_isOneSlipFrom_41 rfl ?_
    refine V.top (b := lcm3 (pck (tl.eraseIdx (cp wl tl))) (pck (wl.take (tl.length - 1)))) (rfl) ?_
    refine i_if_eq (tgt := 80) (q := 45) C (lcm3_r _ _) dX6_isOneSlipFrom_42 (by decide) rfl (fun c_42 => ?_) (fun c_42 => ?_)
    · skip
      refine i_iconst (q := 81) C dX6_isOneSlipFrom_80 rfl ?_
      refine i_goto (q := 85) C dX6_isOneSlipFrom_81 (by decide) ?_
      refine i_zret C hR (by omega) dX6_isOneSlipFrom_85 ?_
      exact ⟨by
        simp only [Option.some.injEq, Sum.inl.injEq]
        rw [if_pos (hclo.mpr (Or.inl (pck_inj (htl.erase _) (hwl.take _) (lcm3_0.mp c_42))))], rfl⟩
    · skip
      refine i_lload_n (j := 4) (q := 46) C rfl rfl dX6_isOneSlipFrom_45 rfl ?_
      refine i_lload_n (j := 3) (q := 47) C rfl rfl dX6_isOneSlipFrom_46 rfl ?_
      refine i_iload (j := 2) (q := 49) C rfl dX6_isOneSlipFrom_47 rfl ?_
      refine i_iconst (q := 50) C dX6_isOneSlipFrom_49 rfl ?_
      refine i_iadd (q := 51) C dX6_isOneSlipFrom_50 rfl ?_
      refine i_callS (wr := []) (As := [vJ (((pck wl : Nat) : Int)), vI (((tl.length : Nat) : Int) + 1)]) (st := [vJ (((pck tl : Nat) : Int))]) (q := 54) C (c_X6_beginning K l (wl) (((tl.length : Nat) : Int) + 1) (by first | assumption | omega) (by first | assumption | omega) (by first | assumption | omega)) gX6_isOneSlipFrom_X6_beginning rfl hd_X6_beginning ⟨Nat.le_of_ble_eq_true rfl, Nat.le_of_ble_eq_true rfl⟩ ⟨rfl, rfl⟩ ⟨Nat.le_of_ble_eq_true rfl, Nat.le_of_ble_eq_true rfl⟩ (permBy [] (by decide) rfl rfl) rfl (Nat.le_of_ble_eq_true rfl) dX6_isOneSlipFrom_51 rfl (fun v w hq => ?_)
      obtain ⟨rfl, rfl⟩ := hq
      show V X 0 0 54 [(6, vJ (((pck (tl.eraseIdx (cp wl tl)) : Nat) : Int))), (5, vI ((cp wl tl : Nat) : Int)), (4, vI ((tl.length : Nat) : Int)), (0, vJ (((pck wl : Nat) : Int))), (2, vJ (((pck tl : Nat) : Int)))] [vJ ((pck (wl.take (((tl.length : Nat) : Int) + 1).toNat) : Nat) : Int), vJ (((pck tl : Nat) : Int))] []
      refine V.topJ (b := ((pck (wl.take (tl.length + 1)) : Nat) : Int)) (by rw [show (((tl.length : Nat) : Int) + 1).toNat = tl.length + 1 by omega]) ?_
      refine i_iload (j := 1) (q := 56) C rfl dX6_isOneSlipFrom_54 rfl ?_
      refine i_callS (wr := []) (As := [vJ (((pck (wl.take (tl.length + 1)) : Nat) : Int)), vI ((cp wl tl : Nat) : Int)]) (st := [vJ (((pck tl : Nat) : Int))]) (q := 59) C (c_X6_without K l (wl.take (tl.length + 1)) (((cp wl tl : Nat) : Int)) (hwl.take _) (by rw [List.length_take]; omega) (by first | assumption | omega)) gX6_isOneSlipFrom_X6_without rfl hd_X6_without ⟨Nat.le_of_ble_eq_true rfl, Nat.le_of_ble_eq_true rfl⟩ ⟨rfl, rfl⟩ ⟨Nat.le_of_ble_eq_true rfl, Nat.le_of_ble_eq_true rfl⟩ (permBy [] (by decide) rfl rfl) rfl (Nat.le_of_ble_eq_true rfl) dX6_isOneSlipFrom_56 rfl (fun v w hq => ?_)
      obtain ⟨rfl, rfl⟩ := hq
      show V X 0 0 59 [(6, vJ (((pck (tl.eraseIdx (cp wl tl)) : Nat) : Int))), (5, vI ((cp wl tl : Nat) : Int)), (4, vI ((tl.length : Nat) : Int)), (0, vJ (((pck wl : Nat) : Int))), (2, vJ (((pck tl : Nat) : Int)))] [vJ ((pck ((wl.take (tl.length + 1)).eraseIdx (((cp wl tl : Nat) : Int)).toNat) : Nat) : Int), vJ (((pck tl : Nat) : Int))] []
      refine V.topJ (b := ((pck ((wl.take (tl.length + 1)).eraseIdx (cp wl tl)) : Nat) : Int)) (rfl) ?_
      refine i_lcmp (q := 60) C (by omega) (by omega) dX6_isOneSlipFrom_59 rfl ?_
      refine V.top (b := lcm3 (pck tl) (pck ((wl.take (tl.length + 1)).eraseIdx (cp wl tl)))) (rfl) ?_
      refine i_if_eq (tgt := 80) (q := 63) C (lcm3_r _ _) dX6_isOneSlipFrom_60 (by decide) rfl (fun c_60 => ?_) (fun c_60 => ?_)
      · skip
        refine i_iconst (q := 81) C dX6_isOneSlipFrom_80 rfl ?_
        refine i_goto (q := 85) C dX6_isOneSlipFrom_81 (by decide) ?_
        refine i_zret C hR (by omega) dX6_isOneSlipFrom_85 ?_
        exact ⟨by
          simp only [Option.some.injEq, Sum.inl.injEq]
          rw [if_pos (hclo.mpr (Or.inr (Or.inl (pck_inj htl ((hwl.take _).erase _) (lcm3_0.mp c_60)))))], rfl⟩
      · skip
        refine i_lload (j := 0) (q := 65) C rfl dX6_isOneSlipFrom_63 rfl ?_
        refine i_lload_n (j := 3) (q := 66) C rfl rfl dX6_isOneSlipFrom_65 rfl ?_
        refine i_iload (j := 2) (q := 68) C rfl dX6_isOneSlipFrom_66 rfl ?_
        refine i_callS (wr := []) (As := [vJ (((pck wl : Nat) : Int)), vI ((tl.length : Nat) : Int)]) (st := [vJ (((pck (tl.eraseIdx (cp wl tl)) : Nat) : Int))]) (q := 71) C (c_X6_beginning K l (wl) (((tl.length : Nat) : Int)) (by first | assumption | omega) (by first | assumption | omega) (by first | assumption | omega)) gX6_isOneSlipFrom_X6_beginning rfl hd_X6_beginning ⟨Nat.le_of_ble_eq_true rfl, Nat.le_of_ble_eq_true rfl⟩ ⟨rfl, rfl⟩ ⟨Nat.le_of_ble_eq_true rfl, Nat.le_of_ble_eq_true rfl⟩ (permBy [] (by decide) rfl rfl) rfl (Nat.le_of_ble_eq_true rfl) dX6_isOneSlipFrom_68 rfl (fun v w hq => ?_)
        obtain ⟨rfl, rfl⟩ := hq
        show V X 0 0 71 [(6, vJ (((pck (tl.eraseIdx (cp wl tl)) : Nat) : Int))), (5, vI ((cp wl tl : Nat) : Int)), (4, vI ((tl.length : Nat) : Int)), (0, vJ (((pck wl : Nat) : Int))), (2, vJ (((pck tl : Nat) : Int)))] [vJ ((pck (wl.take (((tl.length : Nat) : Int)).toNat) : Nat) : Int), vJ (((pck (tl.eraseIdx (cp wl tl)) : Nat) : Int))] []
        refine V.topJ (b := ((pck (wl.take tl.length) : Nat) : Int)) (rfl) ?_
        refine i_iload (j := 1) (q := 73) C rfl dX6_isOneSlipFrom_71 rfl ?_
        refine i_callS (wr := []) (As := [vJ (((pck (wl.take tl.length) : Nat) : Int)), vI ((cp wl tl : Nat) : Int)]) (st := [vJ (((pck (tl.eraseIdx (cp wl tl)) : Nat) : Int))]) (q := 76) C (c_X6_without K l (wl.take tl.length) (((cp wl tl : Nat) : Int)) (hwl.take _) (by rw [List.length_take]; omega) (by first | assumption | omega)) gX6_isOneSlipFrom_X6_without rfl hd_X6_without ⟨Nat.le_of_ble_eq_true rfl, Nat.le_of_ble_eq_true rfl⟩ ⟨rfl, rfl⟩ ⟨Nat.le_of_ble_eq_true rfl, Nat.le_of_ble_eq_true rfl⟩ (permBy [] (by decide) rfl rfl) rfl (Nat.le_of_ble_eq_true rfl) dX6_isOneSlipFrom_73 rfl (fun v w hq => ?_)
        obtain ⟨rfl, rfl⟩ := hq
        show V X 0 0 76 [(6, vJ (((pck (tl.eraseIdx (cp wl tl)) : Nat) : Int))), (5, vI ((cp wl tl : Nat) : Int)), (4, vI ((tl.length : Nat) : Int)), (0, vJ (((pck wl : Nat) : Int))), (2, vJ (((pck tl : Nat) : Int)))] [vJ ((pck ((wl.take tl.length).eraseIdx (((cp wl tl : Nat) : Int)).toNat) : Nat) : Int), vJ (((pck (tl.eraseIdx (cp wl tl)) : Nat) : Int))] []
        refine V.topJ (b := ((pck ((wl.take tl.length).eraseIdx (cp wl tl)) : Nat) : Int)) (rfl) ?_
        refine i_lcmp (q := 77) C (by omega) (by omega) dX6_isOneSlipFrom_76 rfl ?_
        refine V.top (b := lcm3 (pck (tl.eraseIdx (cp wl tl))) (pck ((wl.take tl.length).eraseIdx (cp wl tl)))) (rfl) ?_
        refine i_if_ne (tgt := 84) (q := 80) C (lcm3_r _ _) dX6_isOneSlipFrom_77 (by decide) rfl (fun c_77 => ?_) (fun c_77 => ?_)
        · skip
          refine i_iconst (q := 85) C dX6_isOneSlipFrom_84 rfl ?_
          refine i_zret C hR (by omega) dX6_isOneSlipFrom_85 ?_
          exact ⟨by
            simp only [Option.some.injEq, Sum.inl.injEq]
            rw [if_neg (fun z => by
              rcases hclo.mp z with h | h | h
              · exact c_42 (lcm3_0.mpr (by rw [h]))
              · exact c_60 (lcm3_0.mpr (congrArg pck h))
              · exact c_77 (lcm3_0.mpr (by rw [h])))], rfl⟩
        · skip
          refine i_iconst (q := 81) C dX6_isOneSlipFrom_80 rfl ?_
          refine i_goto (q := 85) C dX6_isOneSlipFrom_81 (by decide) ?_
          refine i_zret C hR (by omega) dX6_isOneSlipFrom_85 ?_
          exact ⟨by
            simp only [Option.some.injEq, Sum.inl.injEq]
            rw [if_pos (hclo.mpr (Or.inr (Or.inr (pck_inj (htl.erase _) ((hwl.take _).erase _) (lcm3_0.mp c_77)))))], rfl⟩
  · skip
    have h_5 := ifn0 c_5
    refine i_iconst (q := 9) C dX6_isOneSlipFrom_8 rfl ?_
    refine i_zret C hR (by omega) dX6_isOneSlipFrom_9 ?_
    exact ⟨by
      simp only [Option.some.injEq, Sum.inl.injEq]
      rw [if_neg (fun z => (clo_iff.mp z).2 h_5)], rfl⟩
