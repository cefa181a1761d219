set_option maxHeartbeats 400000 in
set_option maxRecDepth 100000 in
theorem c_X8_in (K : KT) (l : Launch) (x : Int) (y : Int) (z : Int) (hx : rI x) (hy : rI y) (hz : rI z) : Mt K l yX8_in wsX8_in ({ frames := 0, cells := 0, slots := 0, locals := 0 }) [vI x, vI y, vI z] [] 0 0 (fun v w => v = some (vI (if y ≤ x ∧ x ≤ z then 1 else 0)) ∧ w = []) := by
  refine Mt.of (own := RX8) (cc := cX8_in) (maxL := 3) (ret := (some .boolean)) (lv0 := [(0, vI x), (1, vI y), (2, vI z)]) (by decide) rfl rfl (Nat.le_of_ble_eq_true rfl) rfl (fun X C hR hNm => ?_)
  refine i_iload_n (j := 0) (q := 1) C rfl rfl dX8_in_0 rfl ?_
  refine i_iload_n (j := 1) (q := 2) C rfl rfl dX8_in_1 rfl ?_
  refine i_icmp_lt (tgt := 14) (q := 5) C (by omega) (by omega) dX8_in_2 (by decide) rfl (fun c_2 => ?_) (fun c_2 => ?_)
  · skip
    refine i_iconst (q := 15) C dX8_in_14 rfl ?_
    refine i_zret C hR (by omega) dX8_in_15 ?_
    exact ⟨by simp only [Option.some.injEq, Sum.inl.injEq]; split <;> omega, rfl⟩
  · skip
    refine i_iload_n (j := 0) (q := 6) C rfl rfl dX8_in_5 rfl ?_
    refine i_iload_n (j := 2) (q := 7) C rfl rfl dX8_in_6 rfl ?_
    refine i_icmp_gt (tgt := 14) (q := 10) C (by omega) (by omega) dX8_in_7 (by decide) rfl (fun c_7 => ?_) (fun c_7 => ?_)
    · skip
      refine i_iconst (q := 15) C dX8_in_14 rfl ?_
      refine i_zret C hR (by omega) dX8_in_15 ?_
      exact ⟨by simp only [Option.some.injEq, Sum.inl.injEq]; split <;> omega, rfl⟩
    · skip
      refine i_iconst (q := 11) C dX8_in_10 rfl ?_
      refine i_goto (q := 15) C dX8_in_11 (by decide) ?_
      refine i_zret C hR (by omega) dX8_in_15 ?_
      exact ⟨by simp only [Option.some.injEq, Sum.inl.injEq]; split <;> omega, rfl⟩

set_option maxHeartbeats 400000 in
set_option maxRecDepth 100000 in
theorem c_X7_isWithin (K : KT) (l : Launch) (x : Int) (y : Int) (z : Int) (hx : rI x) (hy : rI y) (hz : rI z) : Mt K l yX7_isWithin wsX7_isWithin ({ frames := 0, cells := 0, slots := 0, locals := 0 }) [vI x, vI y, vI z] [] 0 0 (fun v w => v = some (vI (if y ≤ x ∧ x ≤ z then 1 else 0)) ∧ w = []) := by
  refine Mt.of (own := RX7) (cc := cX7_isWithin) (maxL := 3) (ret := (some .boolean)) (lv0 := [(0, vI x), (1, vI y), (2, vI z)]) (by decide) rfl rfl (Nat.le_of_ble_eq_true rfl) rfl (fun X C hR hNm => ?_)
  refine i_iload_n (j := 0) (q := 1) C rfl rfl dX7_isWithin_0 rfl ?_
  refine i_iload_n (j := 1) (q := 2) C rfl rfl dX7_isWithin_1 rfl ?_
  refine i_icmp_lt (tgt := 14) (q := 5) C (by omega) (by omega) dX7_isWithin_2 (by decide) rfl (fun c_2 => ?_) (fun c_2 => ?_)
  · skip
    refine i_iconst (q := 15) C dX7_isWithin_14 rfl ?_
    refine i_zret C hR (by omega) dX7_isWithin_15 ?_
    exact ⟨by simp only [Option.some.injEq, Sum.inl.injEq]; split <;> omega, rfl⟩
  · skip
    refine i_iload_n (j := 0) (q := 6) C rfl rfl dX7_isWithin_5 rfl ?_
    refine i_iload_n (j := 2) (q := 7) C rfl rfl dX7_isWithin_6 rfl ?_
    refine i_icmp_gt (tgt := 14) (q := 10) C (by omega) (by omega) dX7_isWithin_7 (by decide) rfl (fun c_7 => ?_) (fun c_7 => ?_)
    · skip
      refine i_iconst (q := 15) C dX7_isWithin_14 rfl ?_
      refine i_zret C hR (by omega) dX7_isWithin_15 ?_
      exact ⟨by simp only [Option.some.injEq, Sum.inl.injEq]; split <;> omega, rfl⟩
    · skip
      refine i_iconst (q := 11) C dX7_isWithin_10 rfl ?_
      refine i_goto (q := 15) C dX7_isWithin_11 (by decide) ?_
      refine i_zret C hR (by omega) dX7_isWithin_15 ?_
      exact ⟨by simp only [Option.some.injEq, Sum.inl.injEq]; split <;> omega, rfl⟩

set_option maxHeartbeats 400000 in
set_option maxRecDepth 100000 in
theorem c_X8_held (K : KT) (l : Launch) (x : Int) (hx : rI x) : Mt K l yX8_held wsX8_held ({ frames := 0, cells := 0, slots := 0, locals := 0 }) [vI x] [] 0 0 (fun v w => v = some (vI (hld x)) ∧ w = [] ∧ (0 ≤ hld x ∧ hld x ≤ 1000)) := by
  refine Mt.of (own := RX8) (cc := cX8_held) (maxL := 1) (ret := (some .int)) (lv0 := [(0, vI x)]) (by decide) rfl rfl (Nat.le_of_ble_eq_true rfl) rfl (fun X C hR hNm => ?_)
  refine i_iload_n (j := 0) (q := 1) C rfl rfl dX8_held_0 rfl ?_
  refine i_sipush (q := 4) C (by decide) dX8_held_1 rfl ?_
  refine i_icmp_le (tgt := 13) (q := 7) C (by omega) (by omega) dX8_held_4 (by decide) rfl (fun c_4 => ?_) (fun c_4 => ?_)
  · skip
    refine i_iload_n (j := 0) (q := 14) C rfl rfl dX8_held_13 rfl ?_
    refine i_if_ge (tgt := 21) (q := 17) C (by omega) dX8_held_14 (by decide) rfl (fun c_14 => ?_) (fun c_14 => ?_)
    · skip
      refine i_iload_n (j := 0) (q := 22) C rfl rfl dX8_held_21 rfl ?_
      refine i_iret C hR dX8_held_22 ?_
      exact ⟨by simp only [Option.some.injEq, Sum.inl.injEq, hld]; omega, rfl, by unfold hld; omega⟩
    · skip
      refine i_iconst (q := 18) C dX8_held_17 rfl ?_
      refine i_goto (q := 22) C dX8_held_18 (by decide) ?_
      refine i_iret C hR dX8_held_22 ?_
      exact ⟨by simp only [Option.some.injEq, Sum.inl.injEq, hld]; omega, rfl, by unfold hld; omega⟩
  · skip
    refine i_sipush (q := 10) C (by decide) dX8_held_7 rfl ?_
    refine i_goto (q := 22) C dX8_held_10 (by decide) ?_
    refine i_iret C hR dX8_held_22 ?_
    exact ⟨by simp only [Option.some.injEq, Sum.inl.injEq, hld]; omega, rfl, by unfold hld; omega⟩

set_option maxHeartbeats 400000 in
set_option maxRecDepth 100000 in
theorem c_X5_held (K : KT) (l : Launch) (x : Int) (hx : rI x) : Mt K l yX5_held wsX5_held ({ frames := 1, cells := 0, slots := 0, locals := 15 }) [vI x] [] 0 0 (fun v w => v = some (vI (hld x)) ∧ w = [] ∧ (0 ≤ hld x ∧ hld x ≤ 1000)) := by
  refine Mt.of (own := RX5) (cc := cX5_held) (maxL := 1) (ret := (some .int)) (lv0 := [(0, vI x)]) (by decide) rfl rfl (Nat.le_of_ble_eq_true rfl) rfl (fun X C hR hNm => ?_)
  refine i_iconst (q := 1) C dX5_held_0 rfl ?_
  refine i_iload_n (j := 0) (q := 2) C rfl rfl dX5_held_1 rfl ?_
  refine i_sipush (q := 5) C (by decide) dX5_held_2 rfl ?_
  refine i_mmin (q := 8) C (by omega) (by omega) (List.mem_of_getElem? (i := 1) rfl) (List.mem_of_getElem? (i := 2) rfl) (List.mem_of_getElem? (i := 3) rfl) (List.mem_of_getElem? (i := 4) rfl) ⟨Nat.le_of_ble_eq_true rfl, Nat.le_of_ble_eq_true rfl⟩ ⟨Nat.le_of_ble_eq_true rfl, Nat.le_of_ble_eq_true rfl⟩ dX5_held_5 rfl ?_
  refine i_mmax (q := 11) C (by omega) (by omega) (List.mem_of_getElem? (i := 5) rfl) (List.mem_of_getElem? (i := 6) rfl) (List.mem_of_getElem? (i := 3) rfl) (List.mem_of_getElem? (i := 7) rfl) ⟨Nat.le_of_ble_eq_true rfl, Nat.le_of_ble_eq_true rfl⟩ ⟨Nat.le_of_ble_eq_true rfl, Nat.le_of_ble_eq_true rfl⟩ dX5_held_8 rfl ?_
  refine i_iret C hR dX5_held_11 ?_
  exact ⟨rfl, rfl, by unfold hld; omega⟩

set_option maxHeartbeats 400000 in
set_option maxRecDepth 100000 in
theorem c_X8_bring_st_ty (K : KT) (l : Launch) (am : Nat → Nat) (st : Int → Int) (bk : Int → Int) (un : Int) (ck : Int) (ty : Int → Int) (tm : Int) (tx : Int → Int) (ln : Int) (rf : Int → Int) (dg : Int) (dn : Int → Int) (rk : Int → Int) (pl : Int) (iw : Int) (wd : Int → Int) (wm : Int) (od : Int → Int) (oc : Int) (i : Int) (j : Int) (n : Int) (hi : 0 ≤ i ∧ i + n ≤ 2803) (hj : 0 ≤ j ∧ j + n ≤ 12) (hn : 0 ≤ n) : Mt K l yX8_bring wsX8_bring ({ frames := 0, cells := 0, slots := 0, locals := 0 }) [vP (am 1), vI i, vP (am 3), vI j, vI n] [mdW am (st, bk, un, ck, ty, tm, tx, ln, rf, dg, dn, rk, pl, iw, wd, wm, od, oc)] 0 0 (fun v w => v = none ∧ w = [mdW am (st, bk, un, ck, cpy st i ty j n, tm, tx, ln, rf, dg, dn, rk, pl, iw, wd, wm, od, oc)]) := by
  refine Mt.of (own := RX8) (cc := cX8_bring) (maxL := 6) (ret := none) (lv0 := [(0, vP (am 1)), (1, vI i), (2, vP (am 3)), (3, vI j), (4, vI n)]) (by decide) rfl rfl (Nat.le_of_ble_eq_true rfl) rfl (fun X C hR hNm => ?_)
  refine i_iconst (q := 1) C dX8_bring_0 rfl ?_
  refine i_istore (q := 3) (lv' := [(5, vI 0), (0, vP (am 1)), (1, vI i), (2, vP (am 3)), (3, vI j), (4, vI n)]) C (by decide) rfl dX8_bring_1 rfl ?_
  have loop_3 : ∀ (fuel : Nat) (k : Int) (ty4 : Int → Int), ((n - k).toNat) < fuel → (0 ≤ k ∧ k ≤ n) → (ty4 = cpy st i ty j k) → V X 0 0 3 [(0, vP (am 1)), (1, vI i), (2, vP (am 3)), (3, vI j), (4, vI n), (5, vI k)] [] [mdW am (st, bk, un, ck, ty4, tm, tx, ln, rf, dg, dn, rk, pl, iw, wd, wm, od, oc)] := by
    intro fuel
    induction fuel with
    | zero => intro k ty4 hz; exact absurd hz (Nat.not_lt_zero _)
    | succ fuel ih_3 =>
      intro k ty4 hfu_3 hk hv
      refine i_iload (j := 5) (q := 5) C rfl dX8_bring_3 rfl ?_
      refine i_iload (j := 4) (q := 7) C rfl dX8_bring_5 rfl ?_
      refine i_icmp_ge (tgt := 28) (q := 10) C (by omega) (by omega) dX8_bring_7 (by decide) rfl (fun c_7 => ?_) (fun c_7 => ?_)
      · skip
        refine i_vret C hR dX8_bring_28 ?_
        have e9 : k = n := by omega
        subst e9; subst hv
        exact ⟨rfl, rfl⟩
      · skip
        refine i_aload_n (j := 2) (q := 11) C rfl rfl dX8_bring_10 rfl ?_
        refine i_iload_n (j := 3) (q := 12) C rfl rfl dX8_bring_11 rfl ?_
        refine i_iload (j := 5) (q := 14) C rfl dX8_bring_12 rfl ?_
        refine i_iadd (q := 15) C dX8_bring_14 rfl ?_
        refine i_aload_n (j := 0) (q := 16) C rfl rfl dX8_bring_15 rfl ?_
        refine i_iload_n (j := 1) (q := 17) C rfl rfl dX8_bring_16 rfl ?_
        refine i_iload (j := 5) (q := 19) C rfl dX8_bring_17 rfl ?_
        refine i_iadd (q := 20) C dX8_bring_19 rfl ?_
        refine i_iald (i := 0) (j := 1) (q := 21) C rfl rfl (by omega) dX8_bring_20 rfl ?_
        refine i_iast (i := 0) (j := 3) (q := 22) (cs' := [mdW am (st, bk, un, ck, up ty4 (j + k) (st (i + k)), tm, tx, ln, rf, dg, dn, rk, pl, iw, wd, wm, od, oc)]) C rfl rfl (by omega) dX8_bring_21 rfl rfl ?_
        refine i_iinc (j := 5) (q := 25) (lv' := [(5, vI (k + 1)), (0, vP (am 1)), (1, vI i), (2, vP (am 3)), (3, vI j), (4, vI n)]) C rfl (by decide) rfl dX8_bring_22 rfl ?_
        refine i_goto (q := 3) C dX8_bring_25 (by decide) ?_
        refine V.lv [1, 2, 3, 4, 5, 0] rfl ?_
        exact ih_3 (k + 1) (up ty4 (j + k) (st (i + k))) (by omega) (by omega) (by subst hv; exact cpy_s _ _ _ _ hk.1)
  refine V.lv [1, 2, 3, 4, 5, 0] rfl ?_
  exact loop_3 _ (0) (ty) (Nat.lt_succ_self _) (by omega) ((cpy_0 _ _ _ _).symm)

set_option maxHeartbeats 400000 in
set_option maxRecDepth 100000 in
theorem c_X8_bring_bk_bk (K : KT) (l : Launch) (am : Nat → Nat) (st : Int → Int) (bk : Int → Int) (un : Int) (ck : Int) (ty : Int → Int) (tm : Int) (tx : Int → Int) (ln : Int) (rf : Int → Int) (dg : Int) (dn : Int → Int) (rk : Int → Int) (pl : Int) (iw : Int) (wd : Int → Int) (wm : Int) (od : Int → Int) (oc : Int) (i : Int) (j : Int) (n : Int) (hi : 0 ≤ i ∧ i + n ≤ 33636) (hj : 0 ≤ j ∧ j + n ≤ 33636) (hn : 0 ≤ n) (hij : j ≤ i) : Mt K l yX8_bring wsX8_bring ({ frames := 0, cells := 0, slots := 0, locals := 0 }) [vP (am 2), vI i, vP (am 2), vI j, vI n] [mdW am (st, bk, un, ck, ty, tm, tx, ln, rf, dg, dn, rk, pl, iw, wd, wm, od, oc)] 0 0 (fun v w => v = none ∧ w = [mdW am (st, cpy bk i bk j n, un, ck, ty, tm, tx, ln, rf, dg, dn, rk, pl, iw, wd, wm, od, oc)]) := by
  refine Mt.of (own := RX8) (cc := cX8_bring) (maxL := 6) (ret := none) (lv0 := [(0, vP (am 2)), (1, vI i), (2, vP (am 2)), (3, vI j), (4, vI n)]) (by decide) rfl rfl (Nat.le_of_ble_eq_true rfl) rfl (fun X C hR hNm => ?_)
  refine i_iconst (q := 1) C dX8_bring_0 rfl ?_
  refine i_istore (q := 3) (lv' := [(5, vI 0), (0, vP (am 2)), (1, vI i), (2, vP (am 2)), (3, vI j), (4, vI n)]) C (by decide) rfl dX8_bring_1 rfl ?_
  have loop_3 : ∀ (fuel : Nat) (k : Int) (bk4 : Int → Int), ((n - k).toNat) < fuel → (0 ≤ k ∧ k ≤ n) → (bk4 = cpy bk i bk j k) → V X 0 0 3 [(0, vP (am 2)), (1, vI i), (2, vP (am 2)), (3, vI j), (4, vI n), (5, vI k)] [] [mdW am (st, bk4, un, ck, ty, tm, tx, ln, rf, dg, dn, rk, pl, iw, wd, wm, od, oc)] := by
    intro fuel
    induction fuel with
    | zero => intro k bk4 hz; exact absurd hz (Nat.not_lt_zero _)
    | succ fuel ih_3 =>
      intro k bk4 hfu_3 hk hv
      refine i_iload (j := 5) (q := 5) C rfl dX8_bring_3 rfl ?_
      refine i_iload (j := 4) (q := 7) C rfl dX8_bring_5 rfl ?_
      refine i_icmp_ge (tgt := 28) (q := 10) C (by omega) (by omega) dX8_bring_7 (by decide) rfl (fun c_7 => ?_) (fun c_7 => ?_)
      · skip
        refine i_vret C hR dX8_bring_28 ?_
        have e9 : k = n := by omega
        subst e9; subst hv
        exact ⟨rfl, rfl⟩
      · skip
        refine i_aload_n (j := 2) (q := 11) C rfl rfl dX8_bring_10 rfl ?_
        refine i_iload_n (j := 3) (q := 12) C rfl rfl dX8_bring_11 rfl ?_
        refine i_iload (j := 5) (q := 14) C rfl dX8_bring_12 rfl ?_
        refine i_iadd (q := 15) C dX8_bring_14 rfl ?_
        refine i_aload_n (j := 0) (q := 16) C rfl rfl dX8_bring_15 rfl ?_
        refine i_iload_n (j := 1) (q := 17) C rfl rfl dX8_bring_16 rfl ?_
        refine i_iload (j := 5) (q := 19) C rfl dX8_bring_17 rfl ?_
        refine i_iadd (q := 20) C dX8_bring_19 rfl ?_
        refine i_iald (i := 0) (j := 2) (q := 21) C rfl rfl (by omega) dX8_bring_20 rfl ?_
        refine i_iast (i := 0) (j := 2) (q := 22) (cs' := [mdW am (st, up bk4 (j + k) (bk4 (i + k)), un, ck, ty, tm, tx, ln, rf, dg, dn, rk, pl, iw, wd, wm, od, oc)]) C rfl rfl (by omega) dX8_bring_21 rfl rfl ?_
        refine i_iinc (j := 5) (q := 25) (lv' := [(5, vI (k + 1)), (0, vP (am 2)), (1, vI i), (2, vP (am 2)), (3, vI j), (4, vI n)]) C rfl (by decide) rfl dX8_bring_22 rfl ?_
        refine i_goto (q := 3) C dX8_bring_25 (by decide) ?_
        refine V.lv [1, 2, 3, 4, 5, 0] rfl ?_
        exact ih_3 (k + 1) (up bk4 (j + k) (bk4 (i + k))) (by omega) (by omega) (by subst hv; rw [cpy_out _ _ _ _ _ _ (by omega)]; exact cpy_s _ _ _ _ hk.1)
  refine V.lv [1, 2, 3, 4, 5, 0] rfl ?_
  exact loop_3 _ (0) (bk) (Nat.lt_succ_self _) (by omega) ((cpy_0 _ _ _ _).symm)

set_option maxHeartbeats 400000 in
set_option maxRecDepth 100000 in
theorem c_X8_bring_st_bk (K : KT) (l : Launch) (am : Nat → Nat) (st : Int → Int) (bk : Int → Int) (un : Int) (ck : Int) (ty : Int → Int) (tm : Int) (tx : Int → Int) (ln : Int) (rf : Int → Int) (dg : Int) (dn : Int → Int) (rk : Int → Int) (pl : Int) (iw : Int) (wd : Int → Int) (wm : Int) (od : Int → Int) (oc : Int) (i : Int) (j : Int) (n : Int) (hi : 0 ≤ i ∧ i + n ≤ 2803) (hj : 0 ≤ j ∧ j + n ≤ 33636) (hn : 0 ≤ n) : Mt K l yX8_bring wsX8_bring ({ frames := 0, cells := 0, slots := 0, locals := 0 }) [vP (am 1), vI i, vP (am 2), vI j, vI n] [mdW am (st, bk, un, ck, ty, tm, tx, ln, rf, dg, dn, rk, pl, iw, wd, wm, od, oc)] 0 0 (fun v w => v = none ∧ w = [mdW am (st, cpy st i bk j n, un, ck, ty, tm, tx, ln, rf, dg, dn, rk, pl, iw, wd, wm, od, oc)]) := by
  refine Mt.of (own := RX8) (cc := cX8_bring) (maxL := 6) (ret := none) (lv0 := [(0, vP (am 1)), (1, vI i), (2, vP (am 2)), (3, vI j), (4, vI n)]) (by decide) rfl rfl (Nat.le_of_ble_eq_true rfl) rfl (fun X C hR hNm => ?_)
  refine i_iconst (q := 1) C dX8_bring_0 rfl ?_
  refine i_istore (q := 3) (lv' := [(5, vI 0), (0, vP (am 1)), (1, vI i), (2, vP (am 2)), (3, vI j), (4, vI n)]) C (by decide) rfl dX8_bring_1 rfl ?_
  have loop_3 : ∀ (fuel : Nat) (k : Int) (bk4 : Int → Int), ((n - k).toNat) < fuel → (0 ≤ k ∧ k ≤ n) → (bk4 = cpy st i bk j k) → V X 0 0 3 [(0, vP (am 1)), (1, vI i), (2, vP (am 2)), (3, vI j), (4, vI n), (5, vI k)] [] [mdW am (st, bk4, un, ck, ty, tm, tx, ln, rf, dg, dn, rk, pl, iw, wd, wm, od, oc)] := by
    intro fuel
    induction fuel with
    | zero => intro k bk4 hz; exact absurd hz (Nat.not_lt_zero _)
    | succ fuel ih_3 =>
      intro k bk4 hfu_3 hk hv
      refine i_iload (j := 5) (q := 5) C rfl dX8_bring_3 rfl ?_
      refine i_iload (j := 4) (q := 7) C rfl dX8_bring_5 rfl ?_
      refine i_icmp_ge (tgt := 28) (q := 10) C (by omega) (by omega) dX8_bring_7 (by decide) rfl (fun c_7 => ?_) (fun c_7 => ?_)
      · skip
        refine i_vret C hR dX8_bring_28 ?_
        have e9 : k = n := by omega
        subst e9; subst hv
        exact ⟨rfl, rfl⟩
      · skip
        refine i_aload_n (j := 2) (q := 11) C rfl rfl dX8_bring_10 rfl ?_
        refine i_iload_n (j := 3) (q := 12) C rfl rfl dX8_bring_11 rfl ?_
        refine i_iload (j := 5) (q := 14) C rfl dX8_bring_12 rfl ?_
        refine i_iadd (q := 15) C dX8_bring_14 rfl ?_
        refine i_aload_n (j := 0) (q := 16) C rfl rfl dX8_bring_15 rfl ?_
        refine i_iload_n (j := 1) (q := 17) C rfl rfl dX8_bring_16 rfl ?_
        refine i_iload (j := 5) (q := 19) C rfl dX8_bring_17 rfl ?_
        refine i_iadd (q := 20) C dX8_bring_19 rfl ?_
        refine i_iald (i := 0) (j := 1) (q := 21) C rfl rfl (by omega) dX8_bring_20 rfl ?_
        refine i_iast (i := 0) (j := 2) (q := 22) (cs' := [mdW am (st, up bk4 (j + k) (st (i + k)), un, ck, ty, tm, tx, ln, rf, dg, dn, rk, pl, iw, wd, wm, od, oc)]) C rfl rfl (by omega) dX8_bring_21 rfl rfl ?_
        refine i_iinc (j := 5) (q := 25) (lv' := [(5, vI (k + 1)), (0, vP (am 1)), (1, vI i), (2, vP (am 2)), (3, vI j), (4, vI n)]) C rfl (by decide) rfl dX8_bring_22 rfl ?_
        refine i_goto (q := 3) C dX8_bring_25 (by decide) ?_
        refine V.lv [1, 2, 3, 4, 5, 0] rfl ?_
        exact ih_3 (k + 1) (up bk4 (j + k) (st (i + k))) (by omega) (by omega) (by subst hv; exact cpy_s _ _ _ _ hk.1)
  refine V.lv [1, 2, 3, 4, 5, 0] rfl ?_
  exact loop_3 _ (0) (bk) (Nat.lt_succ_self _) (by omega) ((cpy_0 _ _ _ _).symm)

set_option maxHeartbeats 400000 in
set_option maxRecDepth 100000 in
theorem c_X8_bring_ty_st (K : KT) (l : Launch) (am : Nat → Nat) (st : Int → Int) (bk : Int → Int) (un : Int) (ck : Int) (ty : Int → Int) (tm : Int) (tx : Int → Int) (ln : Int) (rf : Int → Int) (dg : Int) (dn : Int → Int) (rk : Int → Int) (pl : Int) (iw : Int) (wd : Int → Int) (wm : Int) (od : Int → Int) (oc : Int) (i : Int) (j : Int) (n : Int) (hi : 0 ≤ i ∧ i + n ≤ 12) (hj : 0 ≤ j ∧ j + n ≤ 2803) (hn : 0 ≤ n) : Mt K l yX8_bring wsX8_bring ({ frames := 0, cells := 0, slots := 0, locals := 0 }) [vP (am 3), vI i, vP (am 1), vI j, vI n] [mdW am (st, bk, un, ck, ty, tm, tx, ln, rf, dg, dn, rk, pl, iw, wd, wm, od, oc)] 0 0 (fun v w => v = none ∧ w = [mdW am (cpy ty i st j n, bk, un, ck, ty, tm, tx, ln, rf, dg, dn, rk, pl, iw, wd, wm, od, oc)]) := by
  refine Mt.of (own := RX8) (cc := cX8_bring) (maxL := 6) (ret := none) (lv0 := [(0, vP (am 3)), (1, vI i), (2, vP (am 1)), (3, vI j), (4, vI n)]) (by decide) rfl rfl (Nat.le_of_ble_eq_true rfl) rfl (fun X C hR hNm => ?_)
  refine i_iconst (q := 1) C dX8_bring_0 rfl ?_
  refine i_istore (q := 3) (lv' := [(5, vI 0), (0, vP (am 3)), (1, vI i), (2, vP (am 1)), (3, vI j), (4, vI n)]) C (by decide) rfl dX8_bring_1 rfl ?_
  have loop_3 : ∀ (fuel : Nat) (k : Int) (st4 : Int → Int), ((n - k).toNat) < fuel → (0 ≤ k ∧ k ≤ n) → (st4 = cpy ty i st j k) → V X 0 0 3 [(0, vP (am 3)), (1, vI i), (2, vP (am 1)), (3, vI j), (4, vI n), (5, vI k)] [] [mdW am (st4, bk, un, ck, ty, tm, tx, ln, rf, dg, dn, rk, pl, iw, wd, wm, od, oc)] := by
    intro fuel
    induction fuel with
    | zero => intro k st4 hz; exact absurd hz (Nat.not_lt_zero _)
    | succ fuel ih_3 =>
      intro k st4 hfu_3 hk hv
      refine i_iload (j := 5) (q := 5) C rfl dX8_bring_3 rfl ?_
      refine i_iload (j := 4) (q := 7) C rfl dX8_bring_5 rfl ?_
      refine i_icmp_ge (tgt := 28) (q := 10) C (by omega) (by omega) dX8_bring_7 (by decide) rfl (fun c_7 => ?_) (fun c_7 => ?_)
      · skip
        refine i_vret C hR dX8_bring_28 ?_
        have e9 : k = n := by omega
        subst e9; subst hv
        exact ⟨rfl, rfl⟩
      · skip
        refine i_aload_n (j := 2) (q := 11) C rfl rfl dX8_bring_10 rfl ?_
        refine i_iload_n (j := 3) (q := 12) C rfl rfl dX8_bring_11 rfl ?_
        refine i_iload (j := 5) (q := 14) C rfl dX8_bring_12 rfl ?_
        refine i_iadd (q := 15) C dX8_bring_14 rfl ?_
        refine i_aload_n (j := 0) (q := 16) C rfl rfl dX8_bring_15 rfl ?_
        refine i_iload_n (j := 1) (q := 17) C rfl rfl dX8_bring_16 rfl ?_
        refine i_iload (j := 5) (q := 19) C rfl dX8_bring_17 rfl ?_
        refine i_iadd (q := 20) C dX8_bring_19 rfl ?_
        refine i_iald (i := 0) (j := 3) (q := 21) C rfl rfl (by omega) dX8_bring_20 rfl ?_
        refine i_iast (i := 0) (j := 1) (q := 22) (cs' := [mdW am (up st4 (j + k) (ty (i + k)), bk, un, ck, ty, tm, tx, ln, rf, dg, dn, rk, pl, iw, wd, wm, od, oc)]) C rfl rfl (by omega) dX8_bring_21 rfl rfl ?_
        refine i_iinc (j := 5) (q := 25) (lv' := [(5, vI (k + 1)), (0, vP (am 3)), (1, vI i), (2, vP (am 1)), (3, vI j), (4, vI n)]) C rfl (by decide) rfl dX8_bring_22 rfl ?_
        refine i_goto (q := 3) C dX8_bring_25 (by decide) ?_
        refine V.lv [1, 2, 3, 4, 5, 0] rfl ?_
        exact ih_3 (k + 1) (up st4 (j + k) (ty (i + k))) (by omega) (by omega) (by subst hv; exact cpy_s _ _ _ _ hk.1)
  refine V.lv [1, 2, 3, 4, 5, 0] rfl ?_
  exact loop_3 _ (0) (st) (Nat.lt_succ_self _) (by omega) ((cpy_0 _ _ _ _).symm)

set_option maxHeartbeats 400000 in
set_option maxRecDepth 100000 in
theorem c_X8_bring_dn_st (K : KT) (l : Launch) (am : Nat → Nat) (st : Int → Int) (bk : Int → Int) (un : Int) (ck : Int) (ty : Int → Int) (tm : Int) (tx : Int → Int) (ln : Int) (rf : Int → Int) (dg : Int) (dn : Int → Int) (rk : Int → Int) (pl : Int) (iw : Int) (wd : Int → Int) (wm : Int) (od : Int → Int) (oc : Int) (i : Int) (j : Int) (n : Int) (hi : 0 ≤ i ∧ i + n ≤ 8) (hj : 0 ≤ j ∧ j + n ≤ 2803) (hn : 0 ≤ n) : Mt K l yX8_bring wsX8_bring ({ frames := 0, cells := 0, slots := 0, locals := 0 }) [vP (am 6), vI i, vP (am 1), vI j, vI n] [mdW am (st, bk, un, ck, ty, tm, tx, ln, rf, dg, dn, rk, pl, iw, wd, wm, od, oc)] 0 0 (fun v w => v = none ∧ w = [mdW am (cpy dn i st j n, bk, un, ck, ty, tm, tx, ln, rf, dg, dn, rk, pl, iw, wd, wm, od, oc)]) := by
  refine Mt.of (own := RX8) (cc := cX8_bring) (maxL := 6) (ret := none) (lv0 := [(0, vP (am 6)), (1, vI i), (2, vP (am 1)), (3, vI j), (4, vI n)]) (by decide) rfl rfl (Nat.le_of_ble_eq_true rfl) rfl (fun X C hR hNm => ?_)
  refine i_iconst (q := 1) C dX8_bring_0 rfl ?_
  refine i_istore (q := 3) (lv' := [(5, vI 0), (0, vP (am 6)), (1, vI i), (2, vP (am 1)), (3, vI j), (4, vI n)]) C (by decide) rfl dX8_bring_1 rfl ?_
  have loop_3 : ∀ (fuel : Nat) (k : Int) (st4 : Int → Int), ((n - k).toNat) < fuel → (0 ≤ k ∧ k ≤ n) → (st4 = cpy dn i st j k) → V X 0 0 3 [(0, vP (am 6)), (1, vI i), (2, vP (am 1)), (3, vI j), (4, vI n), (5, vI k)] [] [mdW am (st4, bk, un, ck, ty, tm, tx, ln, rf, dg, dn, rk, pl, iw, wd, wm, od, oc)] := by
    intro fuel
    induction fuel with
    | zero => intro k st4 hz; exact absurd hz (Nat.not_lt_zero _)
    | succ fuel ih_3 =>
      intro k st4 hfu_3 hk hv
      refine i_iload (j := 5) (q := 5) C rfl dX8_bring_3 rfl ?_
      refine i_iload (j := 4) (q := 7) C rfl dX8_bring_5 rfl ?_
      refine i_icmp_ge (tgt := 28) (q := 10) C (by omega) (by omega) dX8_bring_7 (by decide) rfl (fun c_7 => ?_) (fun c_7 => ?_)
      · skip
        refine i_vret C hR dX8_bring_28 ?_
        have e9 : k = n := by omega
        subst e9; subst hv
        exact ⟨rfl, rfl⟩
      · skip
        refine i_aload_n (j := 2) (q := 11) C rfl rfl dX8_bring_10 rfl ?_
        refine i_iload_n (j := 3) (q := 12) C rfl rfl dX8_bring_11 rfl ?_
        refine i_iload (j := 5) (q := 14) C rfl dX8_bring_12 rfl ?_
        refine i_iadd (q := 15) C dX8_bring_14 rfl ?_
        refine i_aload_n (j := 0) (q := 16) C rfl rfl dX8_bring_15 rfl ?_
        refine i_iload_n (j := 1) (q := 17) C rfl rfl dX8_bring_16 rfl ?_
        refine i_iload (j := 5) (q := 19) C rfl dX8_bring_17 rfl ?_
        refine i_iadd (q := 20) C dX8_bring_19 rfl ?_
        refine i_iald (i := 0) (j := 6) (q := 21) C rfl rfl (by omega) dX8_bring_20 rfl ?_
        refine i_iast (i := 0) (j := 1) (q := 22) (cs' := [mdW am (up st4 (j + k) (dn (i + k)), bk, un, ck, ty, tm, tx, ln, rf, dg, dn, rk, pl, iw, wd, wm, od, oc)]) C rfl rfl (by omega) dX8_bring_21 rfl rfl ?_
        refine i_iinc (j := 5) (q := 25) (lv' := [(5, vI (k + 1)), (0, vP (am 6)), (1, vI i), (2, vP (am 1)), (3, vI j), (4, vI n)]) C rfl (by decide) rfl dX8_bring_22 rfl ?_
        refine i_goto (q := 3) C dX8_bring_25 (by decide) ?_
        refine V.lv [1, 2, 3, 4, 5, 0] rfl ?_
        exact ih_3 (k + 1) (up st4 (j + k) (dn (i + k))) (by omega) (by omega) (by subst hv; exact cpy_s _ _ _ _ hk.1)
  refine V.lv [1, 2, 3, 4, 5, 0] rfl ?_
  exact loop_3 _ (0) (st) (Nat.lt_succ_self _) (by omega) ((cpy_0 _ _ _ _).symm)

set_option maxHeartbeats 400000 in
set_option maxRecDepth 100000 in
theorem c_X8_bring_wd_st (K : KT) (l : Launch) (am : Nat → Nat) (st : Int → Int) (bk : Int → Int) (un : Int) (ck : Int) (ty : Int → Int) (tm : Int) (tx : Int → Int) (ln : Int) (rf : Int → Int) (dg : Int) (dn : Int → Int) (rk : Int → Int) (pl : Int) (iw : Int) (wd : Int → Int) (wm : Int) (od : Int → Int) (oc : Int) (i : Int) (j : Int) (n : Int) (hi : 0 ≤ i ∧ i + n ≤ 8) (hj : 0 ≤ j ∧ j + n ≤ 2803) (hn : 0 ≤ n) : Mt K l yX8_bring wsX8_bring ({ frames := 0, cells := 0, slots := 0, locals := 0 }) [vP (am 8), vI i, vP (am 1), vI j, vI n] [mdW am (st, bk, un, ck, ty, tm, tx, ln, rf, dg, dn, rk, pl, iw, wd, wm, od, oc)] 0 0 (fun v w => v = none ∧ w = [mdW am (cpy wd i st j n, bk, un, ck, ty, tm, tx, ln, rf, dg, dn, rk, pl, iw, wd, wm, od, oc)]) := by
  refine Mt.of (own := RX8) (cc := cX8_bring) (maxL := 6) (ret := none) (lv0 := [(0, vP (am 8)), (1, vI i), (2, vP (am 1)), (3, vI j), (4, vI n)]) (by decide) rfl rfl (Nat.le_of_ble_eq_true rfl) rfl (fun X C hR hNm => ?_)
  refine i_iconst (q := 1) C dX8_bring_0 rfl ?_
  refine i_istore (q := 3) (lv' := [(5, vI 0), (0, vP (am 8)), (1, vI i), (2, vP (am 1)), (3, vI j), (4, vI n)]) C (by decide) rfl dX8_bring_1 rfl ?_
  have loop_3 : ∀ (fuel : Nat) (k : Int) (st4 : Int → Int), ((n - k).toNat) < fuel → (0 ≤ k ∧ k ≤ n) → (st4 = cpy wd i st j k) → V X 0 0 3 [(0, vP (am 8)), (1, vI i), (2, vP (am 1)), (3, vI j), (4, vI n), (5, vI k)] [] [mdW am (st4, bk, un, ck, ty, tm, tx, ln, rf, dg, dn, rk, pl, iw, wd, wm, od, oc)] := by
    intro fuel
    induction fuel with
    | zero => intro k st4 hz; exact absurd hz (Nat.not_lt_zero _)
    | succ fuel ih_3 =>
      intro k st4 hfu_3 hk hv
      refine i_iload (j := 5) (q := 5) C rfl dX8_bring_3 rfl ?_
      refine i_iload (j := 4) (q := 7) C rfl dX8_bring_5 rfl ?_
      refine i_icmp_ge (tgt := 28) (q := 10) C (by omega) (by omega) dX8_bring_7 (by decide) rfl (fun c_7 => ?_) (fun c_7 => ?_)
      · skip
        refine i_vret C hR dX8_bring_28 ?_
        have e9 : k = n := by omega
        subst e9; subst hv
        exact ⟨rfl, rfl⟩
      · skip
        refine i_aload_n (j := 2) (q := 11) C rfl rfl dX8_bring_10 rfl ?_
        refine i_iload_n (j := 3) (q := 12) C rfl rfl dX8_bring_11 rfl ?_
        refine i_iload (j := 5) (q := 14) C rfl dX8_bring_12 rfl ?_
        refine i_iadd (q := 15) C dX8_bring_14 rfl ?_
        refine i_aload_n (j := 0) (q := 16) C rfl rfl dX8_bring_15 rfl ?_
        refine i_iload_n (j := 1) (q := 17) C rfl rfl dX8_bring_16 rfl ?_
        refine i_iload (j := 5) (q := 19) C rfl dX8_bring_17 rfl ?_
        refine i_iadd (q := 20) C dX8_bring_19 rfl ?_
        refine i_iald (i := 0) (j := 8) (q := 21) C rfl rfl (by omega) dX8_bring_20 rfl ?_
        refine i_iast (i := 0) (j := 1) (q := 22) (cs' := [mdW am (up st4 (j + k) (wd (i + k)), bk, un, ck, ty, tm, tx, ln, rf, dg, dn, rk, pl, iw, wd, wm, od, oc)]) C rfl rfl (by omega) dX8_bring_21 rfl rfl ?_
        refine i_iinc (j := 5) (q := 25) (lv' := [(5, vI (k + 1)), (0, vP (am 8)), (1, vI i), (2, vP (am 1)), (3, vI j), (4, vI n)]) C rfl (by decide) rfl dX8_bring_22 rfl ?_
        refine i_goto (q := 3) C dX8_bring_25 (by decide) ?_
        refine V.lv [1, 2, 3, 4, 5, 0] rfl ?_
        exact ih_3 (k + 1) (up st4 (j + k) (wd (i + k))) (by omega) (by omega) (by subst hv; exact cpy_s _ _ _ _ hk.1)
  refine V.lv [1, 2, 3, 4, 5, 0] rfl ?_
  exact loop_3 _ (0) (st) (Nat.lt_succ_self _) (by omega) ((cpy_0 _ _ _ _).symm)

set_option maxHeartbeats 400000 in
set_option maxRecDepth 100000 in
theorem c_X8_bring_bk_st (K : KT) (l : Launch) (am : Nat → Nat) (st : Int → Int) (bk : Int → Int) (un : Int) (ck : Int) (ty : Int → Int) (tm : Int) (tx : Int → Int) (ln : Int) (rf : Int → Int) (dg : Int) (dn : Int → Int) (rk : Int → Int) (pl : Int) (iw : Int) (wd : Int → Int) (wm : Int) (od : Int → Int) (oc : Int) (i : Int) (j : Int) (n : Int) (hi : 0 ≤ i ∧ i + n ≤ 33636) (hj : 0 ≤ j ∧ j + n ≤ 2803) (hn : 0 ≤ n) : Mt K l yX8_bring wsX8_bring ({ frames := 0, cells := 0, slots := 0, locals := 0 }) [vP (am 2), vI i, vP (am 1), vI j, vI n] [mdW am (st, bk, un, ck, ty, tm, tx, ln, rf, dg, dn, rk, pl, iw, wd, wm, od, oc)] 0 0 (fun v w => v = none ∧ w = [mdW am (cpy bk i st j n, bk, un, ck, ty, tm, tx, ln, rf, dg, dn, rk, pl, iw, wd, wm, od, oc)]) := by
  refine Mt.of (own := RX8) (cc := cX8_bring) (maxL := 6) (ret := none) (lv0 := [(0, vP (am 2)), (1, vI i), (2, vP (am 1)), (3, vI j), (4, vI n)]) (by decide) rfl rfl (Nat.le_of_ble_eq_true rfl) rfl (fun X C hR hNm => ?_)
  refine i_iconst (q := 1) C dX8_bring_0 rfl ?_
  refine i_istore (q := 3) (lv' := [(5, vI 0), (0, vP (am 2)), (1, vI i), (2, vP (am 1)), (3, vI j), (4, vI n)]) C (by decide) rfl dX8_bring_1 rfl ?_
  have loop_3 : ∀ (fuel : Nat) (k : Int) (st4 : Int → Int), ((n - k).toNat) < fuel → (0 ≤ k ∧ k ≤ n) → (st4 = cpy bk i st j k) → V X 0 0 3 [(0, vP (am 2)), (1, vI i), (2, vP (am 1)), (3, vI j), (4, vI n), (5, vI k)] [] [mdW am (st4, bk, un, ck, ty, tm, tx, ln, rf, dg, dn, rk, pl, iw, wd, wm, od, oc)] := by
    intro fuel
    induction fuel with
    | zero => intro k st4 hz; exact absurd hz (Nat.not_lt_zero _)
    | succ fuel ih_3 =>
      intro k st4 hfu_3 hk hv
      refine i_iload (j := 5) (q := 5) C rfl dX8_bring_3 rfl ?_
      refine i_iload (j := 4) (q := 7) C rfl dX8_bring_5 rfl ?_
      refine i_icmp_ge (tgt := 28) (q := 10) C (by omega) (by omega) dX8_bring_7 (by decide) rfl (fun c_7 => ?_) (fun c_7 => ?_)
      · skip
        refine i_vret C hR dX8_bring_28 ?_
        have e9 : k = n := by omega
        subst e9; subst hv
        exact ⟨rfl, rfl⟩
      · skip
        refine i_aload_n (j := 2) (q := 11) C rfl rfl dX8_bring_10 rfl ?_
        refine i_iload_n (j := 3) (q := 12) C rfl rfl dX8_bring_11 rfl ?_
        refine i_iload (j := 5) (q := 14) C rfl dX8_bring_12 rfl ?_
        refine i_iadd (q := 15) C dX8_bring_14 rfl ?_
        refine i_aload_n (j := 0) (q := 16) C rfl rfl dX8_bring_15 rfl ?_
        refine i_iload_n (j := 1) (q := 17) C rfl rfl dX8_bring_16 rfl ?_
        refine i_iload (j := 5) (q := 19) C rfl dX8_bring_17 rfl ?_
        refine i_iadd (q := 20) C dX8_bring_19 rfl ?_
        refine i_iald (i := 0) (j := 2) (q := 21) C rfl rfl (by omega) dX8_bring_20 rfl ?_
        refine i_iast (i := 0) (j := 1) (q := 22) (cs' := [mdW am (up st4 (j + k) (bk (i + k)), bk, un, ck, ty, tm, tx, ln, rf, dg, dn, rk, pl, iw, wd, wm, od, oc)]) C rfl rfl (by omega) dX8_bring_21 rfl rfl ?_
        refine i_iinc (j := 5) (q := 25) (lv' := [(5, vI (k + 1)), (0, vP (am 2)), (1, vI i), (2, vP (am 1)), (3, vI j), (4, vI n)]) C rfl (by decide) rfl dX8_bring_22 rfl ?_
        refine i_goto (q := 3) C dX8_bring_25 (by decide) ?_
        refine V.lv [1, 2, 3, 4, 5, 0] rfl ?_
        exact ih_3 (k + 1) (up st4 (j + k) (bk (i + k))) (by omega) (by omega) (by subst hv; exact cpy_s _ _ _ _ hk.1)
  refine V.lv [1, 2, 3, 4, 5, 0] rfl ?_
  exact loop_3 _ (0) (st) (Nat.lt_succ_self _) (by omega) ((cpy_0 _ _ _ _).symm)

set_option maxHeartbeats 400000 in
set_option maxRecDepth 100000 in
theorem c_X8_bring_wd_od (K : KT) (l : Launch) (am : Nat → Nat) (st : Int → Int) (bk : Int → Int) (un : Int) (ck : Int) (ty : Int → Int) (tm : Int) (tx : Int → Int) (ln : Int) (rf : Int → Int) (dg : Int) (dn : Int → Int) (rk : Int → Int) (pl : Int) (iw : Int) (wd : Int → Int) (wm : Int) (od : Int → Int) (oc : Int) (i : Int) (j : Int) (n : Int) (hi : 0 ≤ i ∧ i + n ≤ 8) (hj : 0 ≤ j ∧ j + n ≤ 480) (hn : 0 ≤ n) : Mt K l yX8_bring wsX8_bring ({ frames := 0, cells := 0, slots := 0, locals := 0 }) [vP (am 8), vI i, vP (am 9), vI j, vI n] [mdW am (st, bk, un, ck, ty, tm, tx, ln, rf, dg, dn, rk, pl, iw, wd, wm, od, oc)] 0 0 (fun v w => v = none ∧ w = [mdW am (st, bk, un, ck, ty, tm, tx, ln, rf, dg, dn, rk, pl, iw, wd, wm, cpy wd i od j n, oc)]) := by
  refine Mt.of (own := RX8) (cc := cX8_bring) (maxL := 6) (ret := none) (lv0 := [(0, vP (am 8)), (1, vI i), (2, vP (am 9)), (3, vI j), (4, vI n)]) (by decide) rfl rfl (Nat.le_of_ble_eq_true rfl) rfl (fun X C hR hNm => ?_)
  refine i_iconst (q := 1) C dX8_bring_0 rfl ?_
  refine i_istore (q := 3) (lv' := [(5, vI 0), (0, vP (am 8)), (1, vI i), (2, vP (am 9)), (3, vI j), (4, vI n)]) C (by decide) rfl dX8_bring_1 rfl ?_
  have loop_3 : ∀ (fuel : Nat) (k : Int) (od4 : Int → Int), ((n - k).toNat) < fuel → (0 ≤ k ∧ k ≤ n) → (od4 = cpy wd i od j k) → V X 0 0 3 [(0, vP (am 8)), (1, vI i), (2, vP (am 9)), (3, vI j), (4, vI n), (5, vI k)] [] [mdW am (st, bk, un, ck, ty, tm, tx, ln, rf, dg, dn, rk, pl, iw, wd, wm, od4, oc)] := by
    intro fuel
    induction fuel with
    | zero => intro k od4 hz; exact absurd hz (Nat.not_lt_zero _)
    | succ fuel ih_3 =>
      intro k od4 hfu_3 hk hv
      refine i_iload (j := 5) (q := 5) C rfl dX8_bring_3 rfl ?_
      refine i_iload (j := 4) (q := 7) C rfl dX8_bring_5 rfl ?_
      refine i_icmp_ge (tgt := 28) (q := 10) C (by omega) (by omega) dX8_bring_7 (by decide) rfl (fun c_7 => ?_) (fun c_7 => ?_)
      · skip
        refine i_vret C hR dX8_bring_28 ?_
        have e9 : k = n := by omega
        subst e9; subst hv
        exact ⟨rfl, rfl⟩
      · skip
        refine i_aload_n (j := 2) (q := 11) C rfl rfl dX8_bring_10 rfl ?_
        refine i_iload_n (j := 3) (q := 12) C rfl rfl dX8_bring_11 rfl ?_
        refine i_iload (j := 5) (q := 14) C rfl dX8_bring_12 rfl ?_
        refine i_iadd (q := 15) C dX8_bring_14 rfl ?_
        refine i_aload_n (j := 0) (q := 16) C rfl rfl dX8_bring_15 rfl ?_
        refine i_iload_n (j := 1) (q := 17) C rfl rfl dX8_bring_16 rfl ?_
        refine i_iload (j := 5) (q := 19) C rfl dX8_bring_17 rfl ?_
        refine i_iadd (q := 20) C dX8_bring_19 rfl ?_
        refine i_iald (i := 0) (j := 8) (q := 21) C rfl rfl (by omega) dX8_bring_20 rfl ?_
        refine i_iast (i := 0) (j := 9) (q := 22) (cs' := [mdW am (st, bk, un, ck, ty, tm, tx, ln, rf, dg, dn, rk, pl, iw, wd, wm, up od4 (j + k) (wd (i + k)), oc)]) C rfl rfl (by omega) dX8_bring_21 rfl rfl ?_
        refine i_iinc (j := 5) (q := 25) (lv' := [(5, vI (k + 1)), (0, vP (am 8)), (1, vI i), (2, vP (am 9)), (3, vI j), (4, vI n)]) C rfl (by decide) rfl dX8_bring_22 rfl ?_
        refine i_goto (q := 3) C dX8_bring_25 (by decide) ?_
        refine V.lv [1, 2, 3, 4, 5, 0] rfl ?_
        exact ih_3 (k + 1) (up od4 (j + k) (wd (i + k))) (by omega) (by omega) (by subst hv; exact cpy_s _ _ _ _ hk.1)
  refine V.lv [1, 2, 3, 4, 5, 0] rfl ?_
  exact loop_3 _ (0) (od) (Nat.lt_succ_self _) (by omega) ((cpy_0 _ _ _ _).symm)

set_option maxHeartbeats 400000 in
set_option maxRecDepth 100000 in
theorem c_X8_bring_od_wd (K : KT) (l : Launch) (am : Nat → Nat) (st : Int → Int) (bk : Int → Int) (un : Int) (ck : Int) (ty : Int → Int) (tm : Int) (tx : Int → Int) (ln : Int) (rf : Int → Int) (dg : Int) (dn : Int → Int) (rk : Int → Int) (pl : Int) (iw : Int) (wd : Int → Int) (wm : Int) (od : Int → Int) (oc : Int) (i : Int) (j : Int) (n : Int) (hi : 0 ≤ i ∧ i + n ≤ 480) (hj : 0 ≤ j ∧ j + n ≤ 8) (hn : 0 ≤ n) : Mt K l yX8_bring wsX8_bring ({ frames := 0, cells := 0, slots := 0, locals := 0 }) [vP (am 9), vI i, vP (am 8), vI j, vI n] [mdW am (st, bk, un, ck, ty, tm, tx, ln, rf, dg, dn, rk, pl, iw, wd, wm, od, oc)] 0 0 (fun v w => v = none ∧ w = [mdW am (st, bk, un, ck, ty, tm, tx, ln, rf, dg, dn, rk, pl, iw, cpy od i wd j n, wm, od, oc)]) := by
  refine Mt.of (own := RX8) (cc := cX8_bring) (maxL := 6) (ret := none) (lv0 := [(0, vP (am 9)), (1, vI i), (2, vP (am 8)), (3, vI j), (4, vI n)]) (by decide) rfl rfl (Nat.le_of_ble_eq_true rfl) rfl (fun X C hR hNm => ?_)
  refine i_iconst (q := 1) C dX8_bring_0 rfl ?_
  refine i_istore (q := 3) (lv' := [(5, vI 0), (0, vP (am 9)), (1, vI i), (2, vP (am 8)), (3, vI j), (4, vI n)]) C (by decide) rfl dX8_bring_1 rfl ?_
  have loop_3 : ∀ (fuel : Nat) (k : Int) (wd4 : Int → Int), ((n - k).toNat) < fuel → (0 ≤ k ∧ k ≤ n) → (wd4 = cpy od i wd j k) → V X 0 0 3 [(0, vP (am 9)), (1, vI i), (2, vP (am 8)), (3, vI j), (4, vI n), (5, vI k)] [] [mdW am (st, bk, un, ck, ty, tm, tx, ln, rf, dg, dn, rk, pl, iw, wd4, wm, od, oc)] := by
    intro fuel
    induction fuel with
    | zero => intro k wd4 hz; exact absurd hz (Nat.not_lt_zero _)
    | succ fuel ih_3 =>
      intro k wd4 hfu_3 hk hv
      refine i_iload (j := 5) (q := 5) C rfl dX8_bring_3 rfl ?_
      refine i_iload (j := 4) (q := 7) C rfl dX8_bring_5 rfl ?_
      refine i_icmp_ge (tgt := 28) (q := 10) C (by omega) (by omega) dX8_bring_7 (by decide) rfl (fun c_7 => ?_) (fun c_7 => ?_)
      · skip
        refine i_vret C hR dX8_bring_28 ?_
        have e9 : k = n := by omega
        subst e9; subst hv
        exact ⟨rfl, rfl⟩
      · skip
        refine i_aload_n (j := 2) (q := 11) C rfl rfl dX8_bring_10 rfl ?_
        refine i_iload_n (j := 3) (q := 12) C rfl rfl dX8_bring_11 rfl ?_
        refine i_iload (j := 5) (q := 14) C rfl dX8_bring_12 rfl ?_
        refine i_iadd (q := 15) C dX8_bring_14 rfl ?_
        refine i_aload_n (j := 0) (q := 16) C rfl rfl dX8_bring_15 rfl ?_
        refine i_iload_n (j := 1) (q := 17) C rfl rfl dX8_bring_16 rfl ?_
        refine i_iload (j := 5) (q := 19) C rfl dX8_bring_17 rfl ?_
        refine i_iadd (q := 20) C dX8_bring_19 rfl ?_
        refine i_iald (i := 0) (j := 9) (q := 21) C rfl rfl (by omega) dX8_bring_20 rfl ?_
        refine i_iast (i := 0) (j := 8) (q := 22) (cs' := [mdW am (st, bk, un, ck, ty, tm, tx, ln, rf, dg, dn, rk, pl, iw, up wd4 (j + k) (od (i + k)), wm, od, oc)]) C rfl rfl (by omega) dX8_bring_21 rfl rfl ?_
        refine i_iinc (j := 5) (q := 25) (lv' := [(5, vI (k + 1)), (0, vP (am 9)), (1, vI i), (2, vP (am 8)), (3, vI j), (4, vI n)]) C rfl (by decide) rfl dX8_bring_22 rfl ?_
        refine i_goto (q := 3) C dX8_bring_25 (by decide) ?_
        refine V.lv [1, 2, 3, 4, 5, 0] rfl ?_
        exact ih_3 (k + 1) (up wd4 (j + k) (od (i + k))) (by omega) (by omega) (by subst hv; exact cpy_s _ _ _ _ hk.1)
  refine V.lv [1, 2, 3, 4, 5, 0] rfl ?_
  exact loop_3 _ (0) (wd) (Nat.lt_succ_self _) (by omega) ((cpy_0 _ _ _ _).symm)

theorem lk_X8_bad_23 : Cond.fieldLink RX8 23 (TX8 8).1 (TX8 8).2.1 (TX8 8).2.2.1 ∈ wsX8_bad := List.mem_of_getElem? (i := 1) rfl
theorem hi_X8_bad_X8 : ∀ w ∈ u_ws RX8 TX8 18, w ∈ wsX8_bad := by decide +kernel
set_option maxHeartbeats 400000 in
set_option maxRecDepth 100000 in
theorem c_X8_bad (K : KT) (l : Launch) (am : Nat → Nat) (st : Int → Int) (bk : Int → Int) (un : Int) (ck : Int) (ty : Int → Int) (tm : Int) (tx : Int → Int) (ln : Int) (rf : Int → Int) (dg : Int) (dn : Int → Int) (rk : Int → Int) (pl : Int) (iw : Int) (wd : Int → Int) (wm : Int) (od : Int → Int) (oc : Int)  : Mt K l yX8_bad wsX8_bad ({ frames := 0, cells := 0, slots := 0, locals := 0 }) [vP (am 0)] [mdW am (st, bk, un, ck, ty, tm, tx, ln, rf, dg, dn, rk, pl, iw, wd, wm, od, oc)] 0 0 (fun v w => v = some (vI ((-2))) ∧ w = [mdW am (st, bk, un, ck, ty, tm, tx, ln, up rf 0 (rf 0 + 1), dg, dn, rk, pl, iw, wd, wm, od, oc)]) := by
  refine Mt.of (own := RX8) (cc := cX8_bad) (maxL := 1) (ret := (some .int)) (lv0 := [(0, vP (am 0))]) (by decide) rfl rfl (Nat.le_of_ble_eq_true rfl) rfl (fun X C hR hNm => ?_)
  refine i_aload_n (j := 0) (q := 1) C rfl rfl dX8_bad_0 rfl ?_
  refine i_get (i := 0) (j := 0) (f := 8) (q := 4) C rfl rfl rfl hi_X8_bad_X8 (by decide) lk_X8_bad_23 rfl dX8_bad_1 rfl ?_
  refine i_iconst (q := 5) C dX8_bad_4 rfl ?_
  refine i_dup2 (q := 6) C rfl rfl dX8_bad_5 rfl ?_
  refine i_iald (i := 0) (j := 5) (q := 7) C rfl rfl (by omega) dX8_bad_6 rfl ?_
  refine i_iconst (q := 8) C dX8_bad_7 rfl ?_
  refine i_iadd (q := 9) C dX8_bad_8 rfl ?_
  refine i_iast (i := 0) (j := 5) (q := 10) (cs' := [mdW am (st, bk, un, ck, ty, tm, tx, ln, up rf 0 ((rf 0) + 1), dg, dn, rk, pl, iw, wd, wm, od, oc)]) C rfl rfl (by omega) dX8_bad_9 rfl rfl ?_
  refine i_bipush (q := 12) C (by decide) dX8_bad_10 rfl ?_
  refine i_iret C hR dX8_bad_12 ?_
  exact ⟨rfl, rfl⟩

theorem lk_X8_no_23 : Cond.fieldLink RX8 23 (TX8 8).1 (TX8 8).2.1 (TX8 8).2.2.1 ∈ wsX8_no := List.mem_of_getElem? (i := 1) rfl
theorem hi_X8_no_X8 : ∀ w ∈ u_ws RX8 TX8 18, w ∈ wsX8_no := by decide +kernel
set_option maxHeartbeats 400000 in
set_option maxRecDepth 100000 in
theorem c_X8_no (K : KT) (l : Launch) (am : Nat → Nat) (st : Int → Int) (bk : Int → Int) (un : Int) (ck : Int) (ty : Int → Int) (tm : Int) (tx : Int → Int) (ln : Int) (rf : Int → Int) (dg : Int) (dn : Int → Int) (rk : Int → Int) (pl : Int) (iw : Int) (wd : Int → Int) (wm : Int) (od : Int → Int) (oc : Int)  : Mt K l yX8_no wsX8_no ({ frames := 0, cells := 0, slots := 0, locals := 0 }) [vP (am 0)] [mdW am (st, bk, un, ck, ty, tm, tx, ln, rf, dg, dn, rk, pl, iw, wd, wm, od, oc)] 0 0 (fun v w => v = some (vI ((-3))) ∧ w = [mdW am (st, bk, un, ck, ty, tm, tx, ln, up rf 1 (rf 1 + 1), dg, dn, rk, pl, iw, wd, wm, od, oc)]) := by
  refine Mt.of (own := RX8) (cc := cX8_no) (maxL := 1) (ret := (some .int)) (lv0 := [(0, vP (am 0))]) (by decide) rfl rfl (Nat.le_of_ble_eq_true rfl) rfl (fun X C hR hNm => ?_)
  refine i_aload_n (j := 0) (q := 1) C rfl rfl dX8_no_0 rfl ?_
  refine i_get (i := 0) (j := 0) (f := 8) (q := 4) C rfl rfl rfl hi_X8_no_X8 (by decide) lk_X8_no_23 rfl dX8_no_1 rfl ?_
  refine i_iconst (q := 5) C dX8_no_4 rfl ?_
  refine i_dup2 (q := 6) C rfl rfl dX8_no_5 rfl ?_
  refine i_iald (i := 0) (j := 5) (q := 7) C rfl rfl (by omega) dX8_no_6 rfl ?_
  refine i_iconst (q := 8) C dX8_no_7 rfl ?_
  refine i_iadd (q := 9) C dX8_no_8 rfl ?_
  refine i_iast (i := 0) (j := 5) (q := 10) (cs' := [mdW am (st, bk, un, ck, ty, tm, tx, ln, up rf 1 ((rf 1) + 1), dg, dn, rk, pl, iw, wd, wm, od, oc)]) C rfl rfl (by omega) dX8_no_9 rfl rfl ?_
  refine i_bipush (q := 12) C (by decide) dX8_no_10 rfl ?_
  refine i_iret C hR dX8_no_12 ?_
  exact ⟨rfl, rfl⟩

theorem lk_X8_full_23 : Cond.fieldLink RX8 23 (TX8 8).1 (TX8 8).2.1 (TX8 8).2.2.1 ∈ wsX8_full := List.mem_of_getElem? (i := 1) rfl
theorem hi_X8_full_X8 : ∀ w ∈ u_ws RX8 TX8 18, w ∈ wsX8_full := by decide +kernel
set_option maxHeartbeats 400000 in
set_option maxRecDepth 100000 in
theorem c_X8_full (K : KT) (l : Launch) (am : Nat → Nat) (st : Int → Int) (bk : Int → Int) (un : Int) (ck : Int) (ty : Int → Int) (tm : Int) (tx : Int → Int) (ln : Int) (rf : Int → Int) (dg : Int) (dn : Int → Int) (rk : Int → Int) (pl : Int) (iw : Int) (wd : Int → Int) (wm : Int) (od : Int → Int) (oc : Int)  : Mt K l yX8_full wsX8_full ({ frames := 0, cells := 0, slots := 0, locals := 0 }) [vP (am 0)] [mdW am (st, bk, un, ck, ty, tm, tx, ln, rf, dg, dn, rk, pl, iw, wd, wm, od, oc)] 0 0 (fun v w => v = some (vI ((-4))) ∧ w = [mdW am (st, bk, un, ck, ty, tm, tx, ln, up rf 2 (rf 2 + 1), dg, dn, rk, pl, iw, wd, wm, od, oc)]) := by
  refine Mt.of (own := RX8) (cc := cX8_full) (maxL := 1) (ret := (some .int)) (lv0 := [(0, vP (am 0))]) (by decide) rfl rfl (Nat.le_of_ble_eq_true rfl) rfl (fun X C hR hNm => ?_)
  refine i_aload_n (j := 0) (q := 1) C rfl rfl dX8_full_0 rfl ?_
  refine i_get (i := 0) (j := 0) (f := 8) (q := 4) C rfl rfl rfl hi_X8_full_X8 (by decide) lk_X8_full_23 rfl dX8_full_1 rfl ?_
  refine i_iconst (q := 5) C dX8_full_4 rfl ?_
  refine i_dup2 (q := 6) C rfl rfl dX8_full_5 rfl ?_
  refine i_iald (i := 0) (j := 5) (q := 7) C rfl rfl (by omega) dX8_full_6 rfl ?_
  refine i_iconst (q := 8) C dX8_full_7 rfl ?_
  refine i_iadd (q := 9) C dX8_full_8 rfl ?_
  refine i_iast (i := 0) (j := 5) (q := 10) (cs' := [mdW am (st, bk, un, ck, ty, tm, tx, ln, up rf 2 ((rf 2) + 1), dg, dn, rk, pl, iw, wd, wm, od, oc)]) C rfl rfl (by omega) dX8_full_9 rfl rfl ?_
  refine i_bipush (q := 12) C (by decide) dX8_full_10 rfl ?_
  refine i_iret C hR dX8_full_12 ?_
  exact ⟨rfl, rfl⟩

theorem lk_X8_isThere_7 : Cond.fieldLink RX8 7 (TX8 0).1 (TX8 0).2.1 (TX8 0).2.2.1 ∈ wsX8_isThere := List.mem_of_getElem? (i := 1) rfl
theorem hi_X8_isThere_X8 : ∀ w ∈ u_ws RX8 TX8 18, w ∈ wsX8_isThere := by decide +kernel
theorem hd_X8_in : yX8_in.cls ≠ "java/lang/invoke/MethodHandle" ∧ yX8_in.cls ≠ "java/lang/invoke/VarHandle" ∧ (parseMethodDescriptor yX8_in.desc).map (fun d => d.parameters.length) = some 3 := by decide +kernel
set_option maxHeartbeats 400000 in
set_option maxRecDepth 100000 in
theorem c_X8_isThere (K : KT) (l : Launch) (am : Nat → Nat) (st : Int → Int) (bk : Int → Int) (un : Int) (ck : Int) (ty : Int → Int) (tm : Int) (tx : Int → Int) (ln : Int) (rf : Int → Int) (dg : Int) (dn : Int → Int) (rk : Int → Int) (pl : Int) (iw : Int) (wd : Int → Int) (wm : Int) (od : Int → Int) (oc : Int) (U : Int) (x : Int) (hs : okS U st) (hx : rI x) : Mt K l yX8_isThere wsX8_isThere ({ frames := 1, cells := 0, slots := 0, locals := 22 }) [vP (am 0), vI x] [mdW am (st, bk, un, ck, ty, tm, tx, ln, rf, dg, dn, rk, pl, iw, wd, wm, od, oc)] 0 0 (fun v w => v = some (vI (if 0 ≤ x ∧ x < st 2800 ∧ st (14 * x) = 1 then 1 else 0)) ∧ w = [mdW am (st, bk, un, ck, ty, tm, tx, ln, rf, dg, dn, rk, pl, iw, wd, wm, od, oc)]) := by
  refine Mt.of (own := RX8) (cc := cX8_isThere) (maxL := 2) (ret := (some .boolean)) (lv0 := [(0, vP (am 0)), (1, vI x)]) (by decide) rfl rfl (Nat.le_of_ble_eq_true rfl) rfl (fun X C hR hNm => ?_)
  refine i_iload_n (j := 1) (q := 1) C rfl rfl dX8_isThere_0 rfl ?_
  refine i_iconst (q := 2) C dX8_isThere_1 rfl ?_
  refine i_aload_n (j := 0) (q := 3) C rfl rfl dX8_isThere_2 rfl ?_
  refine i_get (i := 0) (j := 0) (f := 0) (q := 6) C rfl rfl rfl hi_X8_isThere_X8 (by decide) lk_X8_isThere_7 rfl dX8_isThere_3 rfl ?_
  refine i_sipush (q := 9) C (by decide) dX8_isThere_6 rfl ?_
  refine i_iald (i := 0) (j := 1) (q := 10) C rfl rfl (by omega) dX8_isThere_9 rfl ?_
  have ld_9 := hs.gv
  refine i_iconst (q := 11) C dX8_isThere_10 rfl ?_
  refine i_isub (q := 12) C dX8_isThere_11 rfl ?_
  refine i_callS (wr := [mdW am (st, bk, un, ck, ty, tm, tx, ln, rf, dg, dn, rk, pl, iw, wd, wm, od, oc)]) (As := [vI x, vI 0, vI ((st 2800) - 1)]) (st := []) (q := 15) C (c_X8_in K l (x) (0) ((st 2800) - 1) (by first | assumption | omega) (by first | assumption | omega) (by first | assumption | omega)) gX8_isThere_X8_in rfl hd_X8_in ⟨Nat.le_of_ble_eq_true rfl, Nat.le_of_ble_eq_true rfl⟩ ⟨rfl, rfl⟩ ⟨Nat.le_of_ble_eq_true rfl, Nat.le_of_ble_eq_true rfl⟩ (permBy [0] (by decide) rfl rfl) rfl (Nat.le_of_ble_eq_true rfl) dX8_isThere_12 rfl (fun v w hq => ?_)
  obtain ⟨rfl, rfl⟩ := hq
  show V X 0 0 15 [(0, vP (am 0)), (1, vI x)] [vI (if 0 ≤ x ∧ x ≤ ((st 2800) - 1) then 1 else 0)] [mdW am (st, bk, un, ck, ty, tm, tx, ln, rf, dg, dn, rk, pl, iw, wd, wm, od, oc)]
  refine i_if_eq (tgt := 35) (q := 18) C (by split <;> omega) dX8_isThere_15 (by decide) rfl (fun c_15 => ?_) (fun c_15 => ?_)
  · skip
    have h_15 := if0 c_15
    have hno : ¬ (0 ≤ x ∧ x ≤ st 2800 - 1) := by intro h; rw [if_pos h] at c_15; omega
    refine i_iconst (q := 36) C dX8_isThere_35 rfl ?_
    refine i_zret C hR (by omega) dX8_isThere_36 ?_
    exact ⟨by simp only [Option.some.injEq, Sum.inl.injEq]; split <;> omega, rfl⟩
  · skip
    have h_15 := ifn0 c_15
    have hyes : 0 ≤ x ∧ x ≤ st 2800 - 1 := by
      by_cases h : 0 ≤ x ∧ x ≤ st 2800 - 1
      · exact h
      · exact absurd (if_neg h) c_15
    refine i_aload_n (j := 0) (q := 19) C rfl rfl dX8_isThere_18 rfl ?_
    refine i_get (i := 0) (j := 0) (f := 0) (q := 22) C rfl rfl rfl hi_X8_isThere_X8 (by decide) lk_X8_isThere_7 rfl dX8_isThere_19 rfl ?_
    refine i_bipush (q := 24) C (by decide) dX8_isThere_22 rfl ?_
    refine i_iload_n (j := 1) (q := 25) C rfl rfl dX8_isThere_24 rfl ?_
    refine i_imul (q := 26) C dX8_isThere_25 rfl ?_
    refine i_iald (i := 0) (j := 1) (q := 27) C rfl rfl (by omega) dX8_isThere_26 rfl ?_
    have ld_26 := hs.k0 x (by omega) (by omega)
    refine i_iconst (q := 28) C dX8_isThere_27 rfl ?_
    refine i_icmp_ne (tgt := 35) (q := 31) C (by omega) (by omega) dX8_isThere_28 (by decide) rfl (fun c_28 => ?_) (fun c_28 => ?_)
    · skip
      refine i_iconst (q := 36) C dX8_isThere_35 rfl ?_
      refine i_zret C hR (by omega) dX8_isThere_36 ?_
      exact ⟨by simp only [Option.some.injEq, Sum.inl.injEq]; split <;> omega, rfl⟩
    · skip
      refine i_iconst (q := 32) C dX8_isThere_31 rfl ?_
      refine i_goto (q := 36) C dX8_isThere_32 (by decide) ?_
      refine i_zret C hR (by omega) dX8_isThere_36 ?_
      exact ⟨by simp only [Option.some.injEq, Sum.inl.injEq]; split <;> omega, rfl⟩

theorem lk_X8_many_7 : Cond.fieldLink RX8 7 (TX8 0).1 (TX8 0).2.1 (TX8 0).2.2.1 ∈ wsX8_many := List.mem_of_getElem? (i := 1) rfl
theorem hi_X8_many_X8 : ∀ w ∈ u_ws RX8 TX8 18, w ∈ wsX8_many := by decide +kernel
set_option maxHeartbeats 400000 in
set_option maxRecDepth 100000 in
theorem c_X8_many (K : KT) (l : Launch) (am : Nat → Nat) (st : Int → Int) (bk : Int → Int) (un : Int) (ck : Int) (ty : Int → Int) (tm : Int) (tx : Int → Int) (ln : Int) (rf : Int → Int) (dg : Int) (dn : Int → Int) (rk : Int → Int) (pl : Int) (iw : Int) (wd : Int → Int) (wm : Int) (od : Int → Int) (oc : Int) (U : Int) (hs : okS U st) : Mt K l yX8_many wsX8_many ({ frames := 0, cells := 0, slots := 0, locals := 0 }) [vP (am 0)] [mdW am (st, bk, un, ck, ty, tm, tx, ln, rf, dg, dn, rk, pl, iw, wd, wm, od, oc)] 0 0 (fun v w => v = some (vI (((ml st (st 2800).toNat).length : Int))) ∧ w = [mdW am (st, bk, un, ck, ty, tm, tx, ln, rf, dg, dn, rk, pl, iw, wd, wm, od, oc)]) := by
  refine Mt.of (own := RX8) (cc := cX8_many) (maxL := 3) (ret := (some .int)) (lv0 := [(0, vP (am 0))]) (by decide) rfl rfl (Nat.le_of_ble_eq_true rfl) rfl (fun X C hR hNm => ?_)
  refine i_iconst (q := 1) C dX8_many_0 rfl ?_
  refine i_istore_n (q := 2) (lv' := [(1, vI 0), (0, vP (am 0))]) C rfl (by decide) rfl dX8_many_1 rfl ?_
  refine i_iconst (q := 3) C dX8_many_2 rfl ?_
  refine i_istore_n (q := 4) (lv' := [(2, vI 0), (1, vI 0), (0, vP (am 0))]) C rfl (by decide) rfl dX8_many_3 rfl ?_
  have loop_4 : ∀ (fuel : Nat) (i : Int) (n : Int), ((st 2800 - i).toNat) < fuel → (0 ≤ i ∧ i ≤ st 2800) → (n = ((ml st i.toNat).length : Int)) → V X 0 0 4 [(0, vP (am 0)), (1, vI n), (2, vI i)] [] [mdW am (st, bk, un, ck, ty, tm, tx, ln, rf, dg, dn, rk, pl, iw, wd, wm, od, oc)] := by
    intro fuel
    induction fuel with
    | zero => intro i n hz; exact absurd hz (Nat.not_lt_zero _)
    | succ fuel ih_4 =>
      intro i n hfu_4 hi hv
      refine i_iload_n (j := 2) (q := 5) C rfl rfl dX8_many_4 rfl ?_
      refine i_aload_n (j := 0) (q := 6) C rfl rfl dX8_many_5 rfl ?_
      refine i_get (i := 0) (j := 0) (f := 0) (q := 9) C rfl rfl rfl hi_X8_many_X8 (by decide) lk_X8_many_7 rfl dX8_many_6 rfl ?_
      refine i_sipush (q := 12) C (by decide) dX8_many_9 rfl ?_
      refine i_iald (i := 0) (j := 1) (q := 13) C rfl rfl (by omega) dX8_many_12 rfl ?_
      have ld_12 := hs.gv
      refine i_icmp_ge (tgt := 34) (q := 16) C (by omega) (by omega) dX8_many_13 (by decide) rfl (fun c_13 => ?_) (fun c_13 => ?_)
      · skip
        refine i_iload_n (j := 1) (q := 35) C rfl rfl dX8_many_34 rfl ?_
        refine i_iret C hR dX8_many_35 ?_
        have e9 : i = st 2800 := by omega
        subst e9; subst hv
        exact ⟨rfl, rfl⟩
      · skip
        refine i_iload_n (j := 1) (q := 17) C rfl rfl dX8_many_16 rfl ?_
        refine i_aload_n (j := 0) (q := 18) C rfl rfl dX8_many_17 rfl ?_
        refine i_get (i := 0) (j := 0) (f := 0) (q := 21) C rfl rfl rfl hi_X8_many_X8 (by decide) lk_X8_many_7 rfl dX8_many_18 rfl ?_
        refine i_bipush (q := 23) C (by decide) dX8_many_21 rfl ?_
        refine i_iload_n (j := 2) (q := 24) C rfl rfl dX8_many_23 rfl ?_
        refine i_imul (q := 25) C dX8_many_24 rfl ?_
        refine i_iald (i := 0) (j := 1) (q := 26) C rfl rfl (by omega) dX8_many_25 rfl ?_
        have ld_25 := hs.k0 i (by omega) (by omega)
        refine i_iadd (q := 27) C dX8_many_26 rfl ?_
        refine i_istore_n (q := 28) (lv' := [(1, vI (n + (st (14 * i)))), (0, vP (am 0)), (2, vI i)]) C rfl (by decide) rfl dX8_many_27 rfl ?_
        refine i_iinc (j := 2) (q := 31) (lv' := [(2, vI (i + 1)), (1, vI (n + (st (14 * i)))), (0, vP (am 0))]) C rfl (by decide) rfl dX8_many_28 rfl ?_
        refine i_goto (q := 4) C dX8_many_31 (by decide) ?_
        refine V.lv [2, 1, 0] rfl ?_
        exact ih_4 (i + 1) (n + (st (14 * i))) (by omega) (by omega) (by rw [ml_s st hi.1, List.length_append, hv]; by_cases e : st (14 * i) = 1 <;> simp [e] <;> omega)
  refine V.lv [2, 1, 0] rfl ?_
  exact loop_4 _ (0) (0) (Nat.lt_succ_self _) (by have := hs.gv; omega) (by simp [ml])

theorem lk_X8_foundBy_7 : Cond.fieldLink RX8 7 (TX8 0).1 (TX8 0).2.1 (TX8 0).2.2.1 ∈ wsX8_foundBy := List.mem_of_getElem? (i := 1) rfl
theorem hi_X8_foundBy_X8 : ∀ w ∈ u_ws RX8 TX8 18, w ∈ wsX8_foundBy := by decide +kernel
set_option maxHeartbeats 400000 in
set_option maxRecDepth 100000 in
theorem c_X8_foundBy_ty (K : KT) (l : Launch) (am : Nat → Nat) (st : Int → Int) (bk : Int → Int) (un : Int) (ck : Int) (ty : Int → Int) (tm : Int) (tx : Int → Int) (ln : Int) (rf : Int → Int) (dg : Int) (dn : Int → Int) (rk : Int → Int) (pl : Int) (iw : Int) (wd : Int → Int) (wm : Int) (od : Int → Int) (oc : Int) (U : Int) (n : Int) (hs : okS U st) (hn : 0 ≤ n ∧ n ≤ 12) (hrow : ∀ k, 0 ≤ k → k < n → rI (ty k)) : Mt K l yX8_foundBy wsX8_foundBy ({ frames := 0, cells := 0, slots := 0, locals := 0 }) [vP (am 0), vP (am 3), vI n] [mdW am (st, bk, un, ck, ty, tm, tx, ln, rf, dg, dn, rk, pl, iw, wd, wm, od, oc)] 0 0 (fun v w => ∃ r : Int, v = some (vI r) ∧ w = [mdW am (st, bk, un, ck, ty, tm, tx, ln, rf, dg, dn, rk, pl, iw, wd, wm, od, oc)] ∧ ((r = -1 ∧ ∀ x ∈ ml st (st 2800).toNat, x.2.1 ≠ rg ty n) ∨ (0 ≤ r ∧ r < st 2800 ∧ st (14 * r) = 1 ∧ lt st r = rg ty n))) := by
  refine Mt.of (own := RX8) (cc := cX8_foundBy) (maxL := 6) (ret := (some .int)) (lv0 := [(0, vP (am 0)), (1, vP (am 3)), (2, vI n)]) (by decide) rfl rfl (Nat.le_of_ble_eq_true rfl) rfl (fun X C hR hNm => ?_)
  refine i_iconst (q := 1) C dX8_foundBy_0 rfl ?_
  refine i_istore_n (q := 2) (lv' := [(3, vI 0), (0, vP (am 0)), (1, vP (am 3)), (2, vI n)]) C rfl (by decide) rfl dX8_foundBy_1 rfl ?_
  have loop_2 : ∀ (fuel : Nat) (p : Int), ((st 2800 - p).toNat) < fuel → (0 ≤ p ∧ p ≤ st 2800) → (∀ x ∈ ml st p.toNat, x.2.1 ≠ rg ty n) → V X 0 0 2 [(0, vP (am 0)), (1, vP (am 3)), (2, vI n), (3, vI p)] [] [mdW am (st, bk, un, ck, ty, tm, tx, ln, rf, dg, dn, rk, pl, iw, wd, wm, od, oc)] := by
    intro fuel
    induction fuel with
    | zero => intro p hz; exact absurd hz (Nat.not_lt_zero _)
    | succ fuel ih_2 =>
      intro p hfu_2 hp hv
      refine i_iload_n (j := 3) (q := 3) C rfl rfl dX8_foundBy_2 rfl ?_
      refine i_aload_n (j := 0) (q := 4) C rfl rfl dX8_foundBy_3 rfl ?_
      refine i_get (i := 0) (j := 0) (f := 0) (q := 7) C rfl rfl rfl hi_X8_foundBy_X8 (by decide) lk_X8_foundBy_7 rfl dX8_foundBy_4 rfl ?_
      refine i_sipush (q := 10) C (by decide) dX8_foundBy_7 rfl ?_
      refine i_iald (i := 0) (j := 1) (q := 11) C rfl rfl (by omega) dX8_foundBy_10 rfl ?_
      have ld_10 := hs.gv
      refine i_icmp_ge (tgt := 111) (q := 14) C (by omega) (by omega) dX8_foundBy_11 (by decide) rfl (fun c_11 => ?_) (fun c_11 => ?_)
      · skip
        refine i_iconst (q := 112) C dX8_foundBy_111 rfl ?_
        refine i_iret C hR dX8_foundBy_112 ?_
        have e9 : p = st 2800 := by omega
        subst e9
        exact ⟨-1, rfl, rfl, Or.inl ⟨rfl, hv⟩⟩
      · skip
        have join_47 : ∀ (b : Int), ((b = 1 ∧ st (14 * p) = 1 ∧ st (14 * p + 3) = n) ∨ (b = 0 ∧ ¬ (st (14 * p) = 1 ∧ st (14 * p + 3) = n))) → V X 0 0 47 [(0, vP (am 0)), (1, vP (am 3)), (2, vI n), (3, vI p)] [vI b] [mdW am (st, bk, un, ck, ty, tm, tx, ln, rf, dg, dn, rk, pl, iw, wd, wm, od, oc)] := by
          intro b hb
          refine i_istore (q := 49) (lv' := [(4, vI b), (0, vP (am 0)), (1, vP (am 3)), (2, vI n), (3, vI p)]) C (by decide) rfl dX8_foundBy_47 rfl ?_
          refine i_iconst (q := 50) C dX8_foundBy_49 rfl ?_
          refine i_istore (q := 52) (lv' := [(5, vI 0), (4, vI b), (0, vP (am 0)), (1, vP (am 3)), (2, vI n), (3, vI p)]) C (by decide) rfl dX8_foundBy_50 rfl ?_
          have loop_52 : ∀ (fuel : Nat) (k : Int) (b : Int), ((n - k).toNat) < fuel → (0 ≤ k ∧ k ≤ n) → ((b = 1 ∧ st (14 * p) = 1 ∧ st (14 * p + 3) = n ∧ ∀ j, 0 ≤ j → j < k → st (14 * p + 6 + j) = ty j) ∨ (b = 0 ∧ ¬ (st (14 * p) = 1 ∧ st (14 * p + 3) = n ∧ ∀ j, 0 ≤ j → j < n → st (14 * p + 6 + j) = ty j))) → V X 0 0 52 [(0, vP (am 0)), (1, vP (am 3)), (2, vI n), (3, vI p), (4, vI b), (5, vI k)] [] [mdW am (st, bk, un, ck, ty, tm, tx, ln, rf, dg, dn, rk, pl, iw, wd, wm, od, oc)] := by
            intro fuel
            induction fuel with
            | zero => intro k b hz; exact absurd hz (Nat.not_lt_zero _)
            | succ fuel ih_52 =>
              intro k b hfu_52 hk hb2
              refine i_iload (j := 5) (q := 54) C rfl dX8_foundBy_52 rfl ?_
              refine i_iload_n (j := 2) (q := 55) C rfl rfl dX8_foundBy_54 rfl ?_
              refine i_icmp_ge (tgt := 98) (q := 58) C (by omega) (by omega) dX8_foundBy_55 (by decide) rfl (fun c_55 => ?_) (fun c_55 => ?_)
              · skip
                have hno : b = 0 → ¬ (st (14 * p) = 1 ∧ st (14 * p + 3) = n ∧ ∀ j, 0 ≤ j → j < n → st (14 * p + 6 + j) = ty j) := fun e => by
                  rcases hb2 with h | h
                  · omega
                  · exact h.2
                refine i_iload (j := 4) (q := 100) C rfl dX8_foundBy_98 rfl ?_
                refine i_if_eq (tgt := 105) (q := 103) C (by omega) dX8_foundBy_100 (by decide) rfl (fun c_100 => ?_) (fun c_100 => ?_)
                · skip
                  have hno := hno c_100
                  refine i_iinc (j := 3) (q := 108) (lv' := [(3, vI (p + 1)), (0, vP (am 0)), (1, vP (am 3)), (2, vI n), (4, vI b), (5, vI k)]) C rfl (by decide) rfl dX8_foundBy_105 rfl ?_
                  refine i_goto (q := 2) C dX8_foundBy_108 (by decide) ?_
                  refine V.lv [1, 2, 3, 0] rfl ?_
                  exact ih_2 (p + 1) (by omega) (by omega) (fun x hx => by
                    rw [ml_s st hp.1, List.mem_append] at hx
                    rcases hx with hx | hx
                    · exact hv x hx
                    · by_cases e : st (14 * p) = 1
                      · rw [if_pos e, List.mem_singleton] at hx
                        subst hx
                        intro e2
                        have k3 := hs.k3 p (by omega) (by omega)
                        have e2 : rg (fun k => st (14 * p + 6 + k)) (st (14 * p + 3)) = rg ty n := e2
                        obtain ⟨e3, e4⟩ := rg_inj (by omega) (by omega) e2
                        exact hno ⟨e, e3, fun k g0 g1 => e4 k g0 (by omega)⟩
                      · rw [if_neg e] at hx
                        simp at hx)
                · skip
                  obtain ⟨hb3, hb4, hb5, hb6⟩ : b = 1 ∧ st (14 * p) = 1 ∧ st (14 * p + 3) = n ∧ ∀ j, 0 ≤ j → j < k → st (14 * p + 6 + j) = ty j := by
                    rcases hb2 with h | h
                    · exact h
                    · omega
                  refine i_iload_n (j := 3) (q := 104) C rfl rfl dX8_foundBy_103 rfl ?_
                  refine i_iret C hR dX8_foundBy_104 ?_
                  have e9 : k = n := by omega
                  exact ⟨p, rfl, rfl, Or.inr ⟨by omega, by omega, hb4, by unfold lt; rw [hb5]; exact rg_ext (fun j g0 g1 => hb6 j g0 (by omega))⟩⟩
              · skip
                refine i_iload (j := 4) (q := 60) C rfl dX8_foundBy_58 rfl ?_
                refine i_if_eq (tgt := 98) (q := 63) C (by omega) dX8_foundBy_60 (by decide) rfl (fun c_60 => ?_) (fun c_60 => ?_)
                · skip
                  have hno : b = 0 → ¬ (st (14 * p) = 1 ∧ st (14 * p + 3) = n ∧ ∀ j, 0 ≤ j → j < n → st (14 * p + 6 + j) = ty j) := fun e => by
                    rcases hb2 with h | h
                    · omega
                    · exact h.2
                  refine i_iload (j := 4) (q := 100) C rfl dX8_foundBy_98 rfl ?_
                  refine i_if_eq (tgt := 105) (q := 103) C (by omega) dX8_foundBy_100 (by decide) rfl (fun c_100 => ?_) (fun c_100 => ?_)
                  · skip
                    have hno := hno c_100
                    refine i_iinc (j := 3) (q := 108) (lv' := [(3, vI (p + 1)), (0, vP (am 0)), (1, vP (am 3)), (2, vI n), (4, vI b), (5, vI k)]) C rfl (by decide) rfl dX8_foundBy_105 rfl ?_
                    refine i_goto (q := 2) C dX8_foundBy_108 (by decide) ?_
                    refine V.lv [1, 2, 3, 0] rfl ?_
                    exact ih_2 (p + 1) (by omega) (by omega) (fun x hx => by
                      rw [ml_s st hp.1, List.mem_append] at hx
                      rcases hx with hx | hx
                      · exact hv x hx
                      · by_cases e : st (14 * p) = 1
                        · rw [if_pos e, List.mem_singleton] at hx
                          subst hx
                          intro e2
                          have k3 := hs.k3 p (by omega) (by omega)
                          have e2 : rg (fun k => st (14 * p + 6 + k)) (st (14 * p + 3)) = rg ty n := e2
                          obtain ⟨e3, e4⟩ := rg_inj (by omega) (by omega) e2
                          exact hno ⟨e, e3, fun k g0 g1 => e4 k g0 (by omega)⟩
                        · rw [if_neg e] at hx
                          simp at hx)
                  · skip
                    obtain ⟨hb3, hb4, hb5, hb6⟩ : b = 1 ∧ st (14 * p) = 1 ∧ st (14 * p + 3) = n ∧ ∀ j, 0 ≤ j → j < k → st (14 * p + 6 + j) = ty j := by
                      rcases hb2 with h | h
                      · exact h
                      · omega
                    refine i_iload_n (j := 3) (q := 104) C rfl rfl dX8_foundBy_103 rfl ?_
                    refine i_iret C hR dX8_foundBy_104 ?_
                    have e9 : k = n := by omega
                    exact ⟨p, rfl, rfl, Or.inr ⟨by omega, by omega, hb4, by unfold lt; rw [hb5]; exact rg_ext (fun j g0 g1 => hb6 j g0 (by omega))⟩⟩
                · skip
                  obtain ⟨hb3, hb4, hb5, hb6⟩ : b = 1 ∧ st (14 * p) = 1 ∧ st (14 * p + 3) = n ∧ ∀ j, 0 ≤ j → j < k → st (14 * p + 6 + j) = ty j := by
                    rcases hb2 with h | h
                    · exact h
                    · omega
                  refine i_aload_n (j := 0) (q := 64) C rfl rfl dX8_foundBy_63 rfl ?_
                  refine i_get (i := 0) (j := 0) (f := 0) (q := 67) C rfl rfl rfl hi_X8_foundBy_X8 (by decide) lk_X8_foundBy_7 rfl dX8_foundBy_64 rfl ?_
                  refine i_bipush (q := 69) C (by decide) dX8_foundBy_67 rfl ?_
                  refine i_iload_n (j := 3) (q := 70) C rfl rfl dX8_foundBy_69 rfl ?_
                  refine i_imul (q := 71) C dX8_foundBy_70 rfl ?_
                  refine i_bipush (q := 73) C (by decide) dX8_foundBy_71 rfl ?_
                  refine i_iadd (q := 74) C dX8_foundBy_73 rfl ?_
                  refine i_iload (j := 5) (q := 76) C rfl dX8_foundBy_74 rfl ?_
                  refine i_iadd (q := 77) C dX8_foundBy_76 rfl ?_
                  refine i_iald (i := 0) (j := 1) (q := 78) C rfl rfl (by have := hs.k3 p (by omega) (by omega); omega) dX8_foundBy_77 rfl ?_
                  have ld_77 := hs.k6 p (by omega) (by omega) k (by omega) (by omega)
                  refine i_aload_n (j := 1) (q := 79) C rfl rfl dX8_foundBy_78 rfl ?_
                  refine i_iload (j := 5) (q := 81) C rfl dX8_foundBy_79 rfl ?_
                  refine i_iald (i := 0) (j := 3) (q := 82) C rfl rfl (by omega) dX8_foundBy_81 rfl ?_
                  have ld_81 := hrow k (by omega) (by omega)
                  refine i_icmp_ne (tgt := 89) (q := 85) C (by omega) (by omega) dX8_foundBy_82 (by decide) rfl (fun c_82 => ?_) (fun c_82 => ?_)
                  · skip
                    have nxt : ((0 : Int) = 1 ∧ st (14 * p) = 1 ∧ st (14 * p + 3) = n ∧ ∀ j, 0 ≤ j → j < k + 1 → st (14 * p + 6 + j) = ty j) ∨ ((0 : Int) = 0 ∧ ¬ (st (14 * p) = 1 ∧ st (14 * p + 3) = n ∧ ∀ j, 0 ≤ j → j < n → st (14 * p + 6 + j) = ty j)) := Or.inr ⟨rfl, fun h => c_82 (h.2.2 k (by omega) (by omega))⟩
                    refine i_iconst (q := 90) C dX8_foundBy_89 rfl ?_
                    refine i_istore (q := 92) (lv' := [(4, vI 0), (0, vP (am 0)), (1, vP (am 3)), (2, vI n), (3, vI p), (5, vI k)]) C (by decide) rfl dX8_foundBy_90 rfl ?_
                    refine i_iinc (j := 5) (q := 95) (lv' := [(5, vI (k + 1)), (4, vI 0), (0, vP (am 0)), (1, vP (am 3)), (2, vI n), (3, vI p)]) C rfl (by decide) rfl dX8_foundBy_92 rfl ?_
                    refine i_goto (q := 52) C dX8_foundBy_95 (by decide) ?_
                    refine V.lv [2, 3, 4, 5, 1, 0] rfl ?_
                    exact ih_52 (k + 1) (0) (by omega) (by omega) (nxt)
                  · skip
                    have nxt : ((1 : Int) = 1 ∧ st (14 * p) = 1 ∧ st (14 * p + 3) = n ∧ ∀ j, 0 ≤ j → j < k + 1 → st (14 * p + 6 + j) = ty j) ∨ ((1 : Int) = 0 ∧ ¬ (st (14 * p) = 1 ∧ st (14 * p + 3) = n ∧ ∀ j, 0 ≤ j → j < n → st (14 * p + 6 + j) = ty j)) := Or.inl ⟨rfl, hb4, hb5, fun j g0 g1 => by
                      by_cases e : j = k
                      · subst e; exact c_82
                      · exact hb6 j g0 (by omega)⟩
                    refine i_iconst (q := 86) C dX8_foundBy_85 rfl ?_
                    refine i_goto (q := 90) C dX8_foundBy_86 (by decide) ?_
                    refine i_istore (q := 92) (lv' := [(4, vI 1), (0, vP (am 0)), (1, vP (am 3)), (2, vI n), (3, vI p), (5, vI k)]) C (by decide) rfl dX8_foundBy_90 rfl ?_
                    refine i_iinc (j := 5) (q := 95) (lv' := [(5, vI (k + 1)), (4, vI 1), (0, vP (am 0)), (1, vP (am 3)), (2, vI n), (3, vI p)]) C rfl (by decide) rfl dX8_foundBy_92 rfl ?_
                    refine i_goto (q := 52) C dX8_foundBy_95 (by decide) ?_
                    refine V.lv [2, 3, 4, 5, 1, 0] rfl ?_
                    exact ih_52 (k + 1) (1) (by omega) (by omega) (nxt)
          refine V.lv [2, 3, 4, 5, 1, 0] rfl ?_
          exact loop_52 _ (0) (b) (Nat.lt_succ_self _) (by omega) (by
            rcases hb with ⟨h1, h2, h3⟩ | ⟨h1, h2⟩
            · exact Or.inl ⟨h1, h2, h3, fun j _ _ => by omega⟩
            · exact Or.inr ⟨h1, fun h => h2 ⟨h.1, h.2.1⟩⟩)
        refine i_aload_n (j := 0) (q := 15) C rfl rfl dX8_foundBy_14 rfl ?_
        refine i_get (i := 0) (j := 0) (f := 0) (q := 18) C rfl rfl rfl hi_X8_foundBy_X8 (by decide) lk_X8_foundBy_7 rfl dX8_foundBy_15 rfl ?_
        refine i_bipush (q := 20) C (by decide) dX8_foundBy_18 rfl ?_
        refine i_iload_n (j := 3) (q := 21) C rfl rfl dX8_foundBy_20 rfl ?_
        refine i_imul (q := 22) C dX8_foundBy_21 rfl ?_
        refine i_iald (i := 0) (j := 1) (q := 23) C rfl rfl (by omega) dX8_foundBy_22 rfl ?_
        have ld_22 := hs.k0 p (by omega) (by omega)
        refine i_iconst (q := 24) C dX8_foundBy_23 rfl ?_
        refine i_icmp_ne (tgt := 46) (q := 27) C (by omega) (by omega) dX8_foundBy_24 (by decide) rfl (fun c_24 => ?_) (fun c_24 => ?_)
        · skip
          refine i_iconst (q := 47) C dX8_foundBy_46 rfl ?_
          exact join_47 (0) (by omega)
        · skip
          refine i_aload_n (j := 0) (q := 28) C rfl rfl dX8_foundBy_27 rfl ?_
          refine i_get (i := 0) (j := 0) (f := 0) (q := 31) C rfl rfl rfl hi_X8_foundBy_X8 (by decide) lk_X8_foundBy_7 rfl dX8_foundBy_28 rfl ?_
          refine i_bipush (q := 33) C (by decide) dX8_foundBy_31 rfl ?_
          refine i_iload_n (j := 3) (q := 34) C rfl rfl dX8_foundBy_33 rfl ?_
          refine i_imul (q := 35) C dX8_foundBy_34 rfl ?_
          refine i_iconst (q := 36) C dX8_foundBy_35 rfl ?_
          refine i_iadd (q := 37) C dX8_foundBy_36 rfl ?_
          refine i_iald (i := 0) (j := 1) (q := 38) C rfl rfl (by omega) dX8_foundBy_37 rfl ?_
          have ld_37 := hs.k3 p (by omega) (by omega)
          refine i_iload_n (j := 2) (q := 39) C rfl rfl dX8_foundBy_38 rfl ?_
          refine i_icmp_ne (tgt := 46) (q := 42) C (by omega) (by omega) dX8_foundBy_39 (by decide) rfl (fun c_39 => ?_) (fun c_39 => ?_)
          · skip
            refine i_iconst (q := 47) C dX8_foundBy_46 rfl ?_
            exact join_47 (0) (by omega)
          · skip
            refine i_iconst (q := 43) C dX8_foundBy_42 rfl ?_
            refine i_goto (q := 47) C dX8_foundBy_43 (by decide) ?_
            exact join_47 (1) (by omega)
  refine V.lv [1, 2, 3, 0] rfl ?_
  exact loop_2 _ (0) (Nat.lt_succ_self _) (by have := hs.gv; omega) (fun x hx => by simp [ml] at hx)

set_option maxHeartbeats 400000 in
set_option maxRecDepth 100000 in
theorem c_X8_foundBy_dn (K : KT) (l : Launch) (am : Nat → Nat) (st : Int → Int) (bk : Int → Int) (un : Int) (ck : Int) (ty : Int → Int) (tm : Int) (tx : Int → Int) (ln : Int) (rf : Int → Int) (dg : Int) (dn : Int → Int) (rk : Int → Int) (pl : Int) (iw : Int) (wd : Int → Int) (wm : Int) (od : Int → Int) (oc : Int) (U : Int) (n : Int) (hs : okS U st) (hn : 0 ≤ n ∧ n ≤ 8) (hrow : ∀ k, 0 ≤ k → k < n → rI (dn k)) : Mt K l yX8_foundBy wsX8_foundBy ({ frames := 0, cells := 0, slots := 0, locals := 0 }) [vP (am 0), vP (am 6), vI n] [mdW am (st, bk, un, ck, ty, tm, tx, ln, rf, dg, dn, rk, pl, iw, wd, wm, od, oc)] 0 0 (fun v w => ∃ r : Int, v = some (vI r) ∧ w = [mdW am (st, bk, un, ck, ty, tm, tx, ln, rf, dg, dn, rk, pl, iw, wd, wm, od, oc)] ∧ ((r = -1 ∧ ∀ x ∈ ml st (st 2800).toNat, x.2.1 ≠ rg dn n) ∨ (0 ≤ r ∧ r < st 2800 ∧ st (14 * r) = 1 ∧ lt st r = rg dn n))) := by
  refine Mt.of (own := RX8) (cc := cX8_foundBy) (maxL := 6) (ret := (some .int)) (lv0 := [(0, vP (am 0)), (1, vP (am 6)), (2, vI n)]) (by decide) rfl rfl (Nat.le_of_ble_eq_true rfl) rfl (fun X C hR hNm => ?_)
  refine i_iconst (q := 1) C dX8_foundBy_0 rfl ?_
  refine i_istore_n (q := 2) (lv' := [(3, vI 0), (0, vP (am 0)), (1, vP (am 6)), (2, vI n)]) C rfl (by decide) rfl dX8_foundBy_1 rfl ?_
  have loop_2 : ∀ (fuel : Nat) (p : Int), ((st 2800 - p).toNat) < fuel → (0 ≤ p ∧ p ≤ st 2800) → (∀ x ∈ ml st p.toNat, x.2.1 ≠ rg dn n) → V X 0 0 2 [(0, vP (am 0)), (1, vP (am 6)), (2, vI n), (3, vI p)] [] [mdW am (st, bk, un, ck, ty, tm, tx, ln, rf, dg, dn, rk, pl, iw, wd, wm, od, oc)] := by
    intro fuel
    induction fuel with
    | zero => intro p hz; exact absurd hz (Nat.not_lt_zero _)
    | succ fuel ih_2 =>
      intro p hfu_2 hp hv
      refine i_iload_n (j := 3) (q := 3) C rfl rfl dX8_foundBy_2 rfl ?_
      refine i_aload_n (j := 0) (q := 4) C rfl rfl dX8_foundBy_3 rfl ?_
      refine i_get (i := 0) (j := 0) (f := 0) (q := 7) C rfl rfl rfl hi_X8_foundBy_X8 (by decide) lk_X8_foundBy_7 rfl dX8_foundBy_4 rfl ?_
      refine i_sipush (q := 10) C (by decide) dX8_foundBy_7 rfl ?_
      refine i_iald (i := 0) (j := 1) (q := 11) C rfl rfl (by omega) dX8_foundBy_10 rfl ?_
      have ld_10 := hs.gv
      refine i_icmp_ge (tgt := 111) (q := 14) C (by omega) (by omega) dX8_foundBy_11 (by decide) rfl (fun c_11 => ?_) (fun c_11 => ?_)
      · skip
        refine i_iconst (q := 112) C dX8_foundBy_111 rfl ?_
        refine i_iret C hR dX8_foundBy_112 ?_
        have e9 : p = st 2800 := by omega
        subst e9
        exact ⟨-1, rfl, rfl, Or.inl ⟨rfl, hv⟩⟩
      · skip
        have join_47 : ∀ (b : Int), ((b = 1 ∧ st (14 * p) = 1 ∧ st (14 * p + 3) = n) ∨ (b = 0 ∧ ¬ (st (14 * p) = 1 ∧ st (14 * p + 3) = n))) → V X 0 0 47 [(0, vP (am 0)), (1, vP (am 6)), (2, vI n), (3, vI p)] [vI b] [mdW am (st, bk, un, ck, ty, tm, tx, ln, rf, dg, dn, rk, pl, iw, wd, wm, od, oc)] := by
          intro b hb
          refine i_istore (q := 49) (lv' := [(4, vI b), (0, vP (am 0)), (1, vP (am 6)), (2, vI n), (3, vI p)]) C (by decide) rfl dX8_foundBy_47 rfl ?_
          refine i_iconst (q := 50) C dX8_foundBy_49 rfl ?_
          refine i_istore (q := 52) (lv' := [(5, vI 0), (4, vI b), (0, vP (am 0)), (1, vP (am 6)), (2, vI n), (3, vI p)]) C (by decide) rfl dX8_foundBy_50 rfl ?_
          have loop_52 : ∀ (fuel : Nat) (k : Int) (b : Int), ((n - k).toNat) < fuel → (0 ≤ k ∧ k ≤ n) → ((b = 1 ∧ st (14 * p) = 1 ∧ st (14 * p + 3) = n ∧ ∀ j, 0 ≤ j → j < k → st (14 * p + 6 + j) = dn j) ∨ (b = 0 ∧ ¬ (st (14 * p) = 1 ∧ st (14 * p + 3) = n ∧ ∀ j, 0 ≤ j → j < n → st (14 * p + 6 + j) = dn j))) → V X 0 0 52 [(0, vP (am 0)), (1, vP (am 6)), (2, vI n), (3, vI p), (4, vI b), (5, vI k)] [] [mdW am (st, bk, un, ck, ty, tm, tx, ln, rf, dg, dn, rk, pl, iw, wd, wm, od, oc)] := by
            intro fuel
            induction fuel with
            | zero => intro k b hz; exact absurd hz (Nat.not_lt_zero _)
            | succ fuel ih_52 =>
              intro k b hfu_52 hk hb2
              refine i_iload (j := 5) (q := 54) C rfl dX8_foundBy_52 rfl ?_
              refine i_iload_n (j := 2) (q := 55) C rfl rfl dX8_foundBy_54 rfl ?_
              refine i_icmp_ge (tgt := 98) (q := 58) C (by omega) (by omega) dX8_foundBy_55 (by decide) rfl (fun c_55 => ?_) (fun c_55 => ?_)
              · skip
                have hno : b = 0 → ¬ (st (14 * p) = 1 ∧ st (14 * p + 3) = n ∧ ∀ j, 0 ≤ j → j < n → st (14 * p + 6 + j) = dn j) := fun e => by
                  rcases hb2 with h | h
                  · omega
                  · exact h.2
                refine i_iload (j := 4) (q := 100) C rfl dX8_foundBy_98 rfl ?_
                refine i_if_eq (tgt := 105) (q := 103) C (by omega) dX8_foundBy_100 (by decide) rfl (fun c_100 => ?_) (fun c_100 => ?_)
                · skip
                  have hno := hno c_100
                  refine i_iinc (j := 3) (q := 108) (lv' := [(3, vI (p + 1)), (0, vP (am 0)), (1, vP (am 6)), (2, vI n), (4, vI b), (5, vI k)]) C rfl (by decide) rfl dX8_foundBy_105 rfl ?_
                  refine i_goto (q := 2) C dX8_foundBy_108 (by decide) ?_
                  refine V.lv [1, 2, 3, 0] rfl ?_
                  exact ih_2 (p + 1) (by omega) (by omega) (fun x hx => by
                    rw [ml_s st hp.1, List.mem_append] at hx
                    rcases hx with hx | hx
                    · exact hv x hx
                    · by_cases e : st (14 * p) = 1
                      · rw [if_pos e, List.mem_singleton] at hx
                        subst hx
                        intro e2
                        have k3 := hs.k3 p (by omega) (by omega)
                        have e2 : rg (fun k => st (14 * p + 6 + k)) (st (14 * p + 3)) = rg dn n := e2
                        obtain ⟨e3, e4⟩ := rg_inj (by omega) (by omega) e2
                        exact hno ⟨e, e3, fun k g0 g1 => e4 k g0 (by omega)⟩
                      · rw [if_neg e] at hx
                        simp at hx)
                · skip
                  obtain ⟨hb3, hb4, hb5, hb6⟩ : b = 1 ∧ st (14 * p) = 1 ∧ st (14 * p + 3) = n ∧ ∀ j, 0 ≤ j → j < k → st (14 * p + 6 + j) = dn j := by
                    rcases hb2 with h | h
                    · exact h
                    · omega
                  refine i_iload_n (j := 3) (q := 104) C rfl rfl dX8_foundBy_103 rfl ?_
                  refine i_iret C hR dX8_foundBy_104 ?_
                  have e9 : k = n := by omega
                  exact ⟨p, rfl, rfl, Or.inr ⟨by omega, by omega, hb4, by unfold lt; rw [hb5]; exact rg_ext (fun j g0 g1 => hb6 j g0 (by omega))⟩⟩
              · skip
                refine i_iload (j := 4) (q := 60) C rfl dX8_foundBy_58 rfl ?_
                refine i_if_eq (tgt := 98) (q := 63) C (by omega) dX8_foundBy_60 (by decide) rfl (fun c_60 => ?_) (fun c_60 => ?_)
                · skip
                  have hno : b = 0 → ¬ (st (14 * p) = 1 ∧ st (14 * p + 3) = n ∧ ∀ j, 0 ≤ j → j < n → st (14 * p + 6 + j) = dn j) := fun e => by
                    rcases hb2 with h | h
                    · omega
                    · exact h.2
                  refine i_iload (j := 4) (q := 100) C rfl dX8_foundBy_98 rfl ?_
                  refine i_if_eq (tgt := 105) (q := 103) C (by omega) dX8_foundBy_100 (by decide) rfl (fun c_100 => ?_) (fun c_100 => ?_)
                  · skip
                    have hno := hno c_100
                    refine i_iinc (j := 3) (q := 108) (lv' := [(3, vI (p + 1)), (0, vP (am 0)), (1, vP (am 6)), (2, vI n), (4, vI b), (5, vI k)]) C rfl (by decide) rfl dX8_foundBy_105 rfl ?_
                    refine i_goto (q := 2) C dX8_foundBy_108 (by decide) ?_
                    refine V.lv [1, 2, 3, 0] rfl ?_
                    exact ih_2 (p + 1) (by omega) (by omega) (fun x hx => by
                      rw [ml_s st hp.1, List.mem_append] at hx
                      rcases hx with hx | hx
                      · exact hv x hx
                      · by_cases e : st (14 * p) = 1
                        · rw [if_pos e, List.mem_singleton] at hx
                          subst hx
                          intro e2
                          have k3 := hs.k3 p (by omega) (by omega)
                          have e2 : rg (fun k => st (14 * p + 6 + k)) (st (14 * p + 3)) = rg dn n := e2
                          obtain ⟨e3, e4⟩ := rg_inj (by omega) (by omega) e2
                          exact hno ⟨e, e3, fun k g0 g1 => e4 k g0 (by omega)⟩
                        · rw [if_neg e] at hx
                          simp at hx)
                  · skip
                    obtain ⟨hb3, hb4, hb5, hb6⟩ : b = 1 ∧ st (14 * p) = 1 ∧ st (14 * p + 3) = n ∧ ∀ j, 0 ≤ j → j < k → st (14 * p + 6 + j) = dn j := by
                      rcases hb2 with h | h
                      · exact h
                      · omega
                    refine i_iload_n (j := 3) (q := 104) C rfl rfl dX8_foundBy_103 rfl ?_
                    refine i_iret C hR dX8_foundBy_104 ?_
                    have e9 : k = n := by omega
                    exact ⟨p, rfl, rfl, Or.inr ⟨by omega, by omega, hb4, by unfold lt; rw [hb5]; exact rg_ext (fun j g0 g1 => hb6 j g0 (by omega))⟩⟩
                · skip
                  obtain ⟨hb3, hb4, hb5, hb6⟩ : b = 1 ∧ st (14 * p) = 1 ∧ st (14 * p + 3) = n ∧ ∀ j, 0 ≤ j → j < k → st (14 * p + 6 + j) = dn j := by
                    rcases hb2 with h | h
                    · exact h
                    · omega
                  refine i_aload_n (j := 0) (q := 64) C rfl rfl dX8_foundBy_63 rfl ?_
                  refine i_get (i := 0) (j := 0) (f := 0) (q := 67) C rfl rfl rfl hi_X8_foundBy_X8 (by decide) lk_X8_foundBy_7 rfl dX8_foundBy_64 rfl ?_
                  refine i_bipush (q := 69) C (by decide) dX8_foundBy_67 rfl ?_
                  refine i_iload_n (j := 3) (q := 70) C rfl rfl dX8_foundBy_69 rfl ?_
                  refine i_imul (q := 71) C dX8_foundBy_70 rfl ?_
                  refine i_bipush (q := 73) C (by decide) dX8_foundBy_71 rfl ?_
                  refine i_iadd (q := 74) C dX8_foundBy_73 rfl ?_
                  refine i_iload (j := 5) (q := 76) C rfl dX8_foundBy_74 rfl ?_
                  refine i_iadd (q := 77) C dX8_foundBy_76 rfl ?_
                  refine i_iald (i := 0) (j := 1) (q := 78) C rfl rfl (by have := hs.k3 p (by omega) (by omega); omega) dX8_foundBy_77 rfl ?_
                  have ld_77 := hs.k6 p (by omega) (by omega) k (by omega) (by omega)
                  refine i_aload_n (j := 1) (q := 79) C rfl rfl dX8_foundBy_78 rfl ?_
                  refine i_iload (j := 5) (q := 81) C rfl dX8_foundBy_79 rfl ?_
                  refine i_iald (i := 0) (j := 6) (q := 82) C rfl rfl (by omega) dX8_foundBy_81 rfl ?_
                  have ld_81 := hrow k (by omega) (by omega)
                  refine i_icmp_ne (tgt := 89) (q := 85) C (by omega) (by omega) dX8_foundBy_82 (by decide) rfl (fun c_82 => ?_) (fun c_82 => ?_)
                  · skip
                    have nxt : ((0 : Int) = 1 ∧ st (14 * p) = 1 ∧ st (14 * p + 3) = n ∧ ∀ j, 0 ≤ j → j < k + 1 → st (14 * p + 6 + j) = dn j) ∨ ((0 : Int) = 0 ∧ ¬ (st (14 * p) = 1 ∧ st (14 * p + 3) = n ∧ ∀ j, 0 ≤ j → j < n → st (14 * p + 6 + j) = dn j)) := Or.inr ⟨rfl, fun h => c_82 (h.2.2 k (by omega) (by omega))⟩
                    refine i_iconst (q := 90) C dX8_foundBy_89 rfl ?_
                    refine i_istore (q := 92) (lv' := [(4, vI 0), (0, vP (am 0)), (1, vP (am 6)), (2, vI n), (3, vI p), (5, vI k)]) C (by decide) rfl dX8_foundBy_90 rfl ?_
                    refine i_iinc (j := 5) (q := 95) (lv' := [(5, vI (k + 1)), (4, vI 0), (0, vP (am 0)), (1, vP (am 6)), (2, vI n), (3, vI p)]) C rfl (by decide) rfl dX8_foundBy_92 rfl ?_
                    refine i_goto (q := 52) C dX8_foundBy_95 (by decide) ?_
                    refine V.lv [2, 3, 4, 5, 1, 0] rfl ?_
                    exact ih_52 (k + 1) (0) (by omega) (by omega) (nxt)
                  · skip
                    have nxt : ((1 : Int) = 1 ∧ st (14 * p) = 1 ∧ st (14 * p + 3) = n ∧ ∀ j, 0 ≤ j → j < k + 1 → st (14 * p + 6 + j) = dn j) ∨ ((1 : Int) = 0 ∧ ¬ (st (14 * p) = 1 ∧ st (14 * p + 3) = n ∧ ∀ j, 0 ≤ j → j < n → st (14 * p + 6 + j) = dn j)) := Or.inl ⟨rfl, hb4, hb5, fun j g0 g1 => by
                      by_cases e : j = k
                      · subst e; exact c_82
                      · exact hb6 j g0 (by omega)⟩
                    refine i_iconst (q := 86) C dX8_foundBy_85 rfl ?_
                    refine i_goto (q := 90) C dX8_foundBy_86 (by decide) ?_
                    refine i_istore (q := 92) (lv' := [(4, vI 1), (0, vP (am 0)), (1, vP (am 6)), (2, vI n), (3, vI p), (5, vI k)]) C (by decide) rfl dX8_foundBy_90 rfl ?_
                    refine i_iinc (j := 5) (q := 95) (lv' := [(5, vI (k + 1)), (4, vI 1), (0, vP (am 0)), (1, vP (am 6)), (2, vI n), (3, vI p)]) C rfl (by decide) rfl dX8_foundBy_92 rfl ?_
                    refine i_goto (q := 52) C dX8_foundBy_95 (by decide) ?_
                    refine V.lv [2, 3, 4, 5, 1, 0] rfl ?_
                    exact ih_52 (k + 1) (1) (by omega) (by omega) (nxt)
          refine V.lv [2, 3, 4, 5, 1, 0] rfl ?_
          exact loop_52 _ (0) (b) (Nat.lt_succ_self _) (by omega) (by
            rcases hb with ⟨h1, h2, h3⟩ | ⟨h1, h2⟩
            · exact Or.inl ⟨h1, h2, h3, fun j _ _ => by omega⟩
            · exact Or.inr ⟨h1, fun h => h2 ⟨h.1, h.2.1⟩⟩)
        refine i_aload_n (j := 0) (q := 15) C rfl rfl dX8_foundBy_14 rfl ?_
        refine i_get (i := 0) (j := 0) (f := 0) (q := 18) C rfl rfl rfl hi_X8_foundBy_X8 (by decide) lk_X8_foundBy_7 rfl dX8_foundBy_15 rfl ?_
        refine i_bipush (q := 20) C (by decide) dX8_foundBy_18 rfl ?_
        refine i_iload_n (j := 3) (q := 21) C rfl rfl dX8_foundBy_20 rfl ?_
        refine i_imul (q := 22) C dX8_foundBy_21 rfl ?_
        refine i_iald (i := 0) (j := 1) (q := 23) C rfl rfl (by omega) dX8_foundBy_22 rfl ?_
        have ld_22 := hs.k0 p (by omega) (by omega)
        refine i_iconst (q := 24) C dX8_foundBy_23 rfl ?_
        refine i_icmp_ne (tgt := 46) (q := 27) C (by omega) (by omega) dX8_foundBy_24 (by decide) rfl (fun c_24 => ?_) (fun c_24 => ?_)
        · skip
          refine i_iconst (q := 47) C dX8_foundBy_46 rfl ?_
          exact join_47 (0) (by omega)
        · skip
          refine i_aload_n (j := 0) (q := 28) C rfl rfl dX8_foundBy_27 rfl ?_
          refine i_get (i := 0) (j := 0) (f := 0) (q := 31) C rfl rfl rfl hi_X8_foundBy_X8 (by decide) lk_X8_foundBy_7 rfl dX8_foundBy_28 rfl ?_
          refine i_bipush (q := 33) C (by decide) dX8_foundBy_31 rfl ?_
          refine i_iload_n (j := 3) (q := 34) C rfl rfl dX8_foundBy_33 rfl ?_
          refine i_imul (q := 35) C dX8_foundBy_34 rfl ?_
          refine i_iconst (q := 36) C dX8_foundBy_35 rfl ?_
          refine i_iadd (q := 37) C dX8_foundBy_36 rfl ?_
          refine i_iald (i := 0) (j := 1) (q := 38) C rfl rfl (by omega) dX8_foundBy_37 rfl ?_
          have ld_37 := hs.k3 p (by omega) (by omega)
          refine i_iload_n (j := 2) (q := 39) C rfl rfl dX8_foundBy_38 rfl ?_
          refine i_icmp_ne (tgt := 46) (q := 42) C (by omega) (by omega) dX8_foundBy_39 (by decide) rfl (fun c_39 => ?_) (fun c_39 => ?_)
          · skip
            refine i_iconst (q := 47) C dX8_foundBy_46 rfl ?_
            exact join_47 (0) (by omega)
          · skip
            refine i_iconst (q := 43) C dX8_foundBy_42 rfl ?_
            refine i_goto (q := 47) C dX8_foundBy_43 (by decide) ?_
            exact join_47 (1) (by omega)
  refine V.lv [1, 2, 3, 0] rfl ?_
  exact loop_2 _ (0) (Nat.lt_succ_self _) (by have := hs.gv; omega) (fun x hx => by simp [ml] at hx)

set_option maxHeartbeats 400000 in
set_option maxRecDepth 100000 in
theorem c_X8_foundBy_wd (K : KT) (l : Launch) (am : Nat → Nat) (st : Int → Int) (bk : Int → Int) (un : Int) (ck : Int) (ty : Int → Int) (tm : Int) (tx : Int → Int) (ln : Int) (rf : Int → Int) (dg : Int) (dn : Int → Int) (rk : Int → Int) (pl : Int) (iw : Int) (wd : Int → Int) (wm : Int) (od : Int → Int) (oc : Int) (U : Int) (n : Int) (hs : okS U st) (hn : 0 ≤ n ∧ n ≤ 8) (hrow : ∀ k, 0 ≤ k → k < n → rI (wd k)) : Mt K l yX8_foundBy wsX8_foundBy ({ frames := 0, cells := 0, slots := 0, locals := 0 }) [vP (am 0), vP (am 8), vI n] [mdW am (st, bk, un, ck, ty, tm, tx, ln, rf, dg, dn, rk, pl, iw, wd, wm, od, oc)] 0 0 (fun v w => ∃ r : Int, v = some (vI r) ∧ w = [mdW am (st, bk, un, ck, ty, tm, tx, ln, rf, dg, dn, rk, pl, iw, wd, wm, od, oc)] ∧ ((r = -1 ∧ ∀ x ∈ ml st (st 2800).toNat, x.2.1 ≠ rg wd n) ∨ (0 ≤ r ∧ r < st 2800 ∧ st (14 * r) = 1 ∧ lt st r = rg wd n))) := by
  refine Mt.of (own := RX8) (cc := cX8_foundBy) (maxL := 6) (ret := (some .int)) (lv0 := [(0, vP (am 0)), (1, vP (am 8)), (2, vI n)]) (by decide) rfl rfl (Nat.le_of_ble_eq_true rfl) rfl (fun X C hR hNm => ?_)
  refine i_iconst (q := 1) C dX8_foundBy_0 rfl ?_
  refine i_istore_n (q := 2) (lv' := [(3, vI 0), (0, vP (am 0)), (1, vP (am 8)), (2, vI n)]) C rfl (by decide) rfl dX8_foundBy_1 rfl ?_
  have loop_2 : ∀ (fuel : Nat) (p : Int), ((st 2800 - p).toNat) < fuel → (0 ≤ p ∧ p ≤ st 2800) → (∀ x ∈ ml st p.toNat, x.2.1 ≠ rg wd n) → V X 0 0 2 [(0, vP (am 0)), (1, vP (am 8)), (2, vI n), (3, vI p)] [] [mdW am (st, bk, un, ck, ty, tm, tx, ln, rf, dg, dn, rk, pl, iw, wd, wm, od, oc)] := by
    intro fuel
    induction fuel with
    | zero => intro p hz; exact absurd hz (Nat.not_lt_zero _)
    | succ fuel ih_2 =>
      intro p hfu_2 hp hv
      refine i_iload_n (j := 3) (q := 3) C rfl rfl dX8_foundBy_2 rfl ?_
      refine i_aload_n (j := 0) (q := 4) C rfl rfl dX8_foundBy_3 rfl ?_
      refine i_get (i := 0) (j := 0) (f := 0) (q := 7) C rfl rfl rfl hi_X8_foundBy_X8 (by decide) lk_X8_foundBy_7 rfl dX8_foundBy_4 rfl ?_
      refine i_sipush (q := 10) C (by decide) dX8_foundBy_7 rfl ?_
      refine i_iald (i := 0) (j := 1) (q := 11) C rfl rfl (by omega) dX8_foundBy_10 rfl ?_
      have ld_10 := hs.gv
      refine i_icmp_ge (tgt := 111) (q := 14) C (by omega) (by omega) dX8_foundBy_11 (by decide) rfl (fun c_11 => ?_) (fun c_11 => ?_)
      · skip
        refine i_iconst (q := 112) C dX8_foundBy_111 rfl ?_
        refine i_iret C hR dX8_foundBy_112 ?_
        have e9 : p = st 2800 := by omega
        subst e9
        exact ⟨-1, rfl, rfl, Or.inl ⟨rfl, hv⟩⟩
      · skip
        have join_47 : ∀ (b : Int), ((b = 1 ∧ st (14 * p) = 1 ∧ st (14 * p + 3) = n) ∨ (b = 0 ∧ ¬ (st (14 * p) = 1 ∧ st (14 * p + 3) = n))) → V X 0 0 47 [(0, vP (am 0)), (1, vP (am 8)), (2, vI n), (3, vI p)] [vI b] [mdW am (st, bk, un, ck, ty, tm, tx, ln, rf, dg, dn, rk, pl, iw, wd, wm, od, oc)] := by
          intro b hb
          refine i_istore (q := 49) (lv' := [(4, vI b), (0, vP (am 0)), (1, vP (am 8)), (2, vI n), (3, vI p)]) C (by decide) rfl dX8_foundBy_47 rfl ?_
          refine i_iconst (q := 50) C dX8_foundBy_49 rfl ?_
          refine i_istore (q := 52) (lv' := [(5, vI 0), (4, vI b), (0, vP (am 0)), (1, vP (am 8)), (2, vI n), (3, vI p)]) C (by decide) rfl dX8_foundBy_50 rfl ?_
          have loop_52 : ∀ (fuel : Nat) (k : Int) (b : Int), ((n - k).toNat) < fuel → (0 ≤ k ∧ k ≤ n) → ((b = 1 ∧ st (14 * p) = 1 ∧ st (14 * p + 3) = n ∧ ∀ j, 0 ≤ j → j < k → st (14 * p + 6 + j) = wd j) ∨ (b = 0 ∧ ¬ (st (14 * p) = 1 ∧ st (14 * p + 3) = n ∧ ∀ j, 0 ≤ j → j < n → st (14 * p + 6 + j) = wd j))) → V X 0 0 52 [(0, vP (am 0)), (1, vP (am 8)), (2, vI n), (3, vI p), (4, vI b), (5, vI k)] [] [mdW am (st, bk, un, ck, ty, tm, tx, ln, rf, dg, dn, rk, pl, iw, wd, wm, od, oc)] := by
            intro fuel
            induction fuel with
            | zero => intro k b hz; exact absurd hz (Nat.not_lt_zero _)
            | succ fuel ih_52 =>
              intro k b hfu_52 hk hb2
              refine i_iload (j := 5) (q := 54) C rfl dX8_foundBy_52 rfl ?_
              refine i_iload_n (j := 2) (q := 55) C rfl rfl dX8_foundBy_54 rfl ?_
              refine i_icmp_ge (tgt := 98) (q := 58) C (by omega) (by omega) dX8_foundBy_55 (by decide) rfl (fun c_55 => ?_) (fun c_55 => ?_)
              · skip
                have hno : b = 0 → ¬ (st (14 * p) = 1 ∧ st (14 * p + 3) = n ∧ ∀ j, 0 ≤ j → j < n → st (14 * p + 6 + j) = wd j) := fun e => by
                  rcases hb2 with h | h
                  · omega
                  · exact h.2
                refine i_iload (j := 4) (q := 100) C rfl dX8_foundBy_98 rfl ?_
                refine i_if_eq (tgt := 105) (q := 103) C (by omega) dX8_foundBy_100 (by decide) rfl (fun c_100 => ?_) (fun c_100 => ?_)
                · skip
                  have hno := hno c_100
                  refine i_iinc (j := 3) (q := 108) (lv' := [(3, vI (p + 1)), (0, vP (am 0)), (1, vP (am 8)), (2, vI n), (4, vI b), (5, vI k)]) C rfl (by decide) rfl dX8_foundBy_105 rfl ?_
                  refine i_goto (q := 2) C dX8_foundBy_108 (by decide) ?_
                  refine V.lv [1, 2, 3, 0] rfl ?_
                  exact ih_2 (p + 1) (by omega) (by omega) (fun x hx => by
                    rw [ml_s st hp.1, List.mem_append] at hx
                    rcases hx with hx | hx
                    · exact hv x hx
                    · by_cases e : st (14 * p) = 1
                      · rw [if_pos e, List.mem_singleton] at hx
                        subst hx
                        intro e2
                        have k3 := hs.k3 p (by omega) (by omega)
                        have e2 : rg (fun k => st (14 * p + 6 + k)) (st (14 * p + 3)) = rg wd n := e2
                        obtain ⟨e3, e4⟩ := rg_inj (by omega) (by omega) e2
                        exact hno ⟨e, e3, fun k g0 g1 => e4 k g0 (by omega)⟩
                      · rw [if_neg e] at hx
                        simp at hx)
                · skip
                  obtain ⟨hb3, hb4, hb5, hb6⟩ : b = 1 ∧ st (14 * p) = 1 ∧ st (14 * p + 3) = n ∧ ∀ j, 0 ≤ j → j < k → st (14 * p + 6 + j) = wd j := by
                    rcases hb2 with h | h
                    · exact h
                    · omega
                  refine i_iload_n (j := 3) (q := 104) C rfl rfl dX8_foundBy_103 rfl ?_
                  refine i_iret C hR dX8_foundBy_104 ?_
                  have e9 : k = n := by omega
                  exact ⟨p, rfl, rfl, Or.inr ⟨by omega, by omega, hb4, by unfold lt; rw [hb5]; exact rg_ext (fun j g0 g1 => hb6 j g0 (by omega))⟩⟩
              · skip
                refine i_iload (j := 4) (q := 60) C rfl dX8_foundBy_58 rfl ?_
                refine i_if_eq (tgt := 98) (q := 63) C (by omega) dX8_foundBy_60 (by decide) rfl (fun c_60 => ?_) (fun c_60 => ?_)
                · skip
                  have hno : b = 0 → ¬ (st (14 * p) = 1 ∧ st (14 * p + 3) = n ∧ ∀ j, 0 ≤ j → j < n → st (14 * p + 6 + j) = wd j) := fun e => by
                    rcases hb2 with h | h
                    · omega
                    · exact h.2
                  refine i_iload (j := 4) (q := 100) C rfl dX8_foundBy_98 rfl ?_
                  refine i_if_eq (tgt := 105) (q := 103) C (by omega) dX8_foundBy_100 (by decide) rfl (fun c_100 => ?_) (fun c_100 => ?_)
                  · skip
                    have hno := hno c_100
                    refine i_iinc (j := 3) (q := 108) (lv' := [(3, vI (p + 1)), (0, vP (am 0)), (1, vP (am 8)), (2, vI n), (4, vI b), (5, vI k)]) C rfl (by decide) rfl dX8_foundBy_105 rfl ?_
                    refine i_goto (q := 2) C dX8_foundBy_108 (by decide) ?_
                    refine V.lv [1, 2, 3, 0] rfl ?_
                    exact ih_2 (p + 1) (by omega) (by omega) (fun x hx => by
                      rw [ml_s st hp.1, List.mem_append] at hx
                      rcases hx with hx | hx
                      · exact hv x hx
                      · by_cases e : st (14 * p) = 1
                        · rw [if_pos e, List.mem_singleton] at hx
                          subst hx
                          intro e2
                          have k3 := hs.k3 p (by omega) (by omega)
                          have e2 : rg (fun k => st (14 * p + 6 + k)) (st (14 * p + 3)) = rg wd n := e2
                          obtain ⟨e3, e4⟩ := rg_inj (by omega) (by omega) e2
                          exact hno ⟨e, e3, fun k g0 g1 => e4 k g0 (by omega)⟩
                        · rw [if_neg e] at hx
                          simp at hx)
                  · skip
                    obtain ⟨hb3, hb4, hb5, hb6⟩ : b = 1 ∧ st (14 * p) = 1 ∧ st (14 * p + 3) = n ∧ ∀ j, 0 ≤ j → j < k → st (14 * p + 6 + j) = wd j := by
                      rcases hb2 with h | h
                      · exact h
                      · omega
                    refine i_iload_n (j := 3) (q := 104) C rfl rfl dX8_foundBy_103 rfl ?_
                    refine i_iret C hR dX8_foundBy_104 ?_
                    have e9 : k = n := by omega
                    exact ⟨p, rfl, rfl, Or.inr ⟨by omega, by omega, hb4, by unfold lt; rw [hb5]; exact rg_ext (fun j g0 g1 => hb6 j g0 (by omega))⟩⟩
                · skip
                  obtain ⟨hb3, hb4, hb5, hb6⟩ : b = 1 ∧ st (14 * p) = 1 ∧ st (14 * p + 3) = n ∧ ∀ j, 0 ≤ j → j < k → st (14 * p + 6 + j) = wd j := by
                    rcases hb2 with h | h
                    · exact h
                    · omega
                  refine i_aload_n (j := 0) (q := 64) C rfl rfl dX8_foundBy_63 rfl ?_
                  refine i_get (i := 0) (j := 0) (f := 0) (q := 67) C rfl rfl rfl hi_X8_foundBy_X8 (by decide) lk_X8_foundBy_7 rfl dX8_foundBy_64 rfl ?_
                  refine i_bipush (q := 69) C (by decide) dX8_foundBy_67 rfl ?_
                  refine i_iload_n (j := 3) (q := 70) C rfl rfl dX8_foundBy_69 rfl ?_
                  refine i_imul (q := 71) C dX8_foundBy_70 rfl ?_
                  refine i_bipush (q := 73) C (by decide) dX8_foundBy_71 rfl ?_
                  refine i_iadd (q := 74) C dX8_foundBy_73 rfl ?_
                  refine i_iload (j := 5) (q := 76) C rfl dX8_foundBy_74 rfl ?_
                  refine i_iadd (q := 77) C dX8_foundBy_76 rfl ?_
                  refine i_iald (i := 0) (j := 1) (q := 78) C rfl rfl (by have := hs.k3 p (by omega) (by omega); omega) dX8_foundBy_77 rfl ?_
                  have ld_77 := hs.k6 p (by omega) (by omega) k (by omega) (by omega)
                  refine i_aload_n (j := 1) (q := 79) C rfl rfl dX8_foundBy_78 rfl ?_
                  refine i_iload (j := 5) (q := 81) C rfl dX8_foundBy_79 rfl ?_
                  refine i_iald (i := 0) (j := 8) (q := 82) C rfl rfl (by omega) dX8_foundBy_81 rfl ?_
                  have ld_81 := hrow k (by omega) (by omega)
                  refine i_icmp_ne (tgt := 89) (q := 85) C (by omega) (by omega) dX8_foundBy_82 (by decide) rfl (fun c_82 => ?_) (fun c_82 => ?_)
                  · skip
                    have nxt : ((0 : Int) = 1 ∧ st (14 * p) = 1 ∧ st (14 * p + 3) = n ∧ ∀ j, 0 ≤ j → j < k + 1 → st (14 * p + 6 + j) = wd j) ∨ ((0 : Int) = 0 ∧ ¬ (st (14 * p) = 1 ∧ st (14 * p + 3) = n ∧ ∀ j, 0 ≤ j → j < n → st (14 * p + 6 + j) = wd j)) := Or.inr ⟨rfl, fun h => c_82 (h.2.2 k (by omega) (by omega))⟩
                    refine i_iconst (q := 90) C dX8_foundBy_89 rfl ?_
                    refine i_istore (q := 92) (lv' := [(4, vI 0), (0, vP (am 0)), (1, vP (am 8)), (2, vI n), (3, vI p), (5, vI k)]) C (by decide) rfl dX8_foundBy_90 rfl ?_
                    refine i_iinc (j := 5) (q := 95) (lv' := [(5, vI (k + 1)), (4, vI 0), (0, vP (am 0)), (1, vP (am 8)), (2, vI n), (3, vI p)]) C rfl (by decide) rfl dX8_foundBy_92 rfl ?_
                    refine i_goto (q := 52) C dX8_foundBy_95 (by decide) ?_
                    refine V.lv [2, 3, 4, 5, 1, 0] rfl ?_
                    exact ih_52 (k + 1) (0) (by omega) (by omega) (nxt)
                  · skip
                    have nxt : ((1 : Int) = 1 ∧ st (14 * p) = 1 ∧ st (14 * p + 3) = n ∧ ∀ j, 0 ≤ j → j < k + 1 → st (14 * p + 6 + j) = wd j) ∨ ((1 : Int) = 0 ∧ ¬ (st (14 * p) = 1 ∧ st (14 * p + 3) = n ∧ ∀ j, 0 ≤ j → j < n → st (14 * p + 6 + j) = wd j)) := Or.inl ⟨rfl, hb4, hb5, fun j g0 g1 => by
                      by_cases e : j = k
                      · subst e; exact c_82
                      · exact hb6 j g0 (by omega)⟩
                    refine i_iconst (q := 86) C dX8_foundBy_85 rfl ?_
                    refine i_goto (q := 90) C dX8_foundBy_86 (by decide) ?_
                    refine i_istore (q := 92) (lv' := [(4, vI 1), (0, vP (am 0)), (1, vP (am 8)), (2, vI n), (3, vI p), (5, vI k)]) C (by decide) rfl dX8_foundBy_90 rfl ?_
                    refine i_iinc (j := 5) (q := 95) (lv' := [(5, vI (k + 1)), (4, vI 1), (0, vP (am 0)), (1, vP (am 8)), (2, vI n), (3, vI p)]) C rfl (by decide) rfl dX8_foundBy_92 rfl ?_
                    refine i_goto (q := 52) C dX8_foundBy_95 (by decide) ?_
                    refine V.lv [2, 3, 4, 5, 1, 0] rfl ?_
                    exact ih_52 (k + 1) (1) (by omega) (by omega) (nxt)
          refine V.lv [2, 3, 4, 5, 1, 0] rfl ?_
          exact loop_52 _ (0) (b) (Nat.lt_succ_self _) (by omega) (by
            rcases hb with ⟨h1, h2, h3⟩ | ⟨h1, h2⟩
            · exact Or.inl ⟨h1, h2, h3, fun j _ _ => by omega⟩
            · exact Or.inr ⟨h1, fun h => h2 ⟨h.1, h.2.1⟩⟩)
        refine i_aload_n (j := 0) (q := 15) C rfl rfl dX8_foundBy_14 rfl ?_
        refine i_get (i := 0) (j := 0) (f := 0) (q := 18) C rfl rfl rfl hi_X8_foundBy_X8 (by decide) lk_X8_foundBy_7 rfl dX8_foundBy_15 rfl ?_
        refine i_bipush (q := 20) C (by decide) dX8_foundBy_18 rfl ?_
        refine i_iload_n (j := 3) (q := 21) C rfl rfl dX8_foundBy_20 rfl ?_
        refine i_imul (q := 22) C dX8_foundBy_21 rfl ?_
        refine i_iald (i := 0) (j := 1) (q := 23) C rfl rfl (by omega) dX8_foundBy_22 rfl ?_
        have ld_22 := hs.k0 p (by omega) (by omega)
        refine i_iconst (q := 24) C dX8_foundBy_23 rfl ?_
        refine i_icmp_ne (tgt := 46) (q := 27) C (by omega) (by omega) dX8_foundBy_24 (by decide) rfl (fun c_24 => ?_) (fun c_24 => ?_)
        · skip
          refine i_iconst (q := 47) C dX8_foundBy_46 rfl ?_
          exact join_47 (0) (by omega)
        · skip
          refine i_aload_n (j := 0) (q := 28) C rfl rfl dX8_foundBy_27 rfl ?_
          refine i_get (i := 0) (j := 0) (f := 0) (q := 31) C rfl rfl rfl hi_X8_foundBy_X8 (by decide) lk_X8_foundBy_7 rfl dX8_foundBy_28 rfl ?_
          refine i_bipush (q := 33) C (by decide) dX8_foundBy_31 rfl ?_
          refine i_iload_n (j := 3) (q := 34) C rfl rfl dX8_foundBy_33 rfl ?_
          refine i_imul (q := 35) C dX8_foundBy_34 rfl ?_
          refine i_iconst (q := 36) C dX8_foundBy_35 rfl ?_
          refine i_iadd (q := 37) C dX8_foundBy_36 rfl ?_
          refine i_iald (i := 0) (j := 1) (q := 38) C rfl rfl (by omega) dX8_foundBy_37 rfl ?_
          have ld_37 := hs.k3 p (by omega) (by omega)
          refine i_iload_n (j := 2) (q := 39) C rfl rfl dX8_foundBy_38 rfl ?_
          refine i_icmp_ne (tgt := 46) (q := 42) C (by omega) (by omega) dX8_foundBy_39 (by decide) rfl (fun c_39 => ?_) (fun c_39 => ?_)
          · skip
            refine i_iconst (q := 47) C dX8_foundBy_46 rfl ?_
            exact join_47 (0) (by omega)
          · skip
            refine i_iconst (q := 43) C dX8_foundBy_42 rfl ?_
            refine i_goto (q := 47) C dX8_foundBy_43 (by decide) ?_
            exact join_47 (1) (by omega)
  refine V.lv [1, 2, 3, 0] rfl ?_
  exact loop_2 _ (0) (Nat.lt_succ_self _) (by have := hs.gv; omega) (fun x hx => by simp [ml] at hx)
