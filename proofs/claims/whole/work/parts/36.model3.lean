theorem lk_X8_start_7 : Cond.fieldLink RX8 7 (TX8 0).1 (TX8 0).2.1 (TX8 0).2.2.1 ∈ wsX8_start := List.mem_of_getElem? (i := 1) rfl
theorem hi_X8_start_X8 : ∀ w ∈ u_ws RX8 TX8 18, w ∈ wsX8_start := by decide +kernel
theorem lk_X8_start_46 : Cond.fieldLink RX8 46 (TX8 2).1 (TX8 2).2.1 (TX8 2).2.2.1 ∈ wsX8_start := List.mem_of_getElem? (i := 2) rfl
theorem lk_X8_start_50 : Cond.fieldLink RX8 50 (TX8 3).1 (TX8 3).2.1 (TX8 3).2.2.1 ∈ wsX8_start := List.mem_of_getElem? (i := 3) rfl
theorem lk_X8_start_53 : Cond.fieldLink RX8 53 (TX8 5).1 (TX8 5).2.1 (TX8 5).2.2.1 ∈ wsX8_start := List.mem_of_getElem? (i := 4) rfl
theorem lk_X8_start_56 : Cond.fieldLink RX8 56 (TX8 7).1 (TX8 7).2.1 (TX8 7).2.2.1 ∈ wsX8_start := List.mem_of_getElem? (i := 5) rfl
theorem lk_X8_start_23 : Cond.fieldLink RX8 23 (TX8 8).1 (TX8 8).2.1 (TX8 8).2.2.1 ∈ wsX8_start := List.mem_of_getElem? (i := 6) rfl
set_option maxHeartbeats 400000 in
set_option maxRecDepth 100000 in
theorem c_X8_start (K : KT) (l : Launch) (am : Nat → Nat) (st : Int → Int) (bk : Int → Int) (un : Int) (ck : Int) (ty : Int → Int) (tm : Int) (tx : Int → Int) (ln : Int) (rf : Int → Int) (dg : Int) (dn : Int → Int) (rk : Int → Int) (pl : Int) (iw : Int) (wd : Int → Int) (wm : Int) (od : Int → Int) (oc : Int)  : Mt K l yX8_start wsX8_start ({ frames := 0, cells := 0, slots := 0, locals := 0 }) [vP (am 0)] [mdW am (st, bk, un, ck, ty, tm, tx, ln, rf, dg, dn, rk, pl, iw, wd, wm, od, oc)] 0 0 (fun v w => ∃ st3 : Int → Int, ∃ rf3 : Int → Int, v = some (vI 1) ∧ w = [mdW am (st3, bk, 0, 0, ty, 0, tx, 0, rf3, dg, dn, rk, pl, iw, wd, wm, od, oc)] ∧ (∀ k, 0 ≤ k → k < 2803 → k ≠ 2802 → st3 k = 0) ∧ (st3 2802 = 100) ∧ (rf3 0 = 0 ∧ rf3 1 = 0 ∧ rf3 2 = 0)) := by
  refine Mt.of (own := RX8) (cc := cX8_start) (maxL := 2) (ret := (some .int)) (lv0 := [(0, vP (am 0))]) (by decide) rfl rfl (Nat.le_of_ble_eq_true rfl) rfl (fun X C hR hNm => ?_)
  refine i_iconst (q := 1) C dX8_start_0 rfl ?_
  refine i_istore_n (q := 2) (lv' := [(1, vI 0), (0, vP (am 0))]) C rfl (by decide) rfl dX8_start_1 rfl ?_
  have loop_2 : ∀ (fuel : Nat) (i : Int) (st4 : Int → Int), ((2803 - i).toNat) < fuel → (0 ≤ i ∧ i ≤ 2803) → (∀ k, 0 ≤ k → k < i → st4 k = 0) → V X 0 0 2 [(0, vP (am 0)), (1, vI i)] [] [mdW am (st4, bk, un, ck, ty, tm, tx, ln, rf, dg, dn, rk, pl, iw, wd, wm, od, oc)] := by
    intro fuel
    induction fuel with
    | zero => intro i st4 hz; exact absurd hz (Nat.not_lt_zero _)
    | succ fuel ih_2 =>
      intro i st4 hfu_2 hi hv
      refine i_iload_n (j := 1) (q := 3) C rfl rfl dX8_start_2 rfl ?_
      refine i_sipush (q := 6) C (by decide) dX8_start_3 rfl ?_
      refine i_icmp_ge (tgt := 22) (q := 9) C (by omega) (by omega) dX8_start_6 (by decide) rfl (fun c_6 => ?_) (fun c_6 => ?_)
      · skip
        refine i_aload_n (j := 0) (q := 23) C rfl rfl dX8_start_22 rfl ?_
        refine i_get (i := 0) (j := 0) (f := 0) (q := 26) C rfl rfl rfl hi_X8_start_X8 (by decide) lk_X8_start_7 rfl dX8_start_23 rfl ?_
        refine i_sipush (q := 29) C (by decide) dX8_start_26 rfl ?_
        refine i_bipush (q := 31) C (by decide) dX8_start_29 rfl ?_
        refine i_iast (i := 0) (j := 1) (q := 32) (cs' := [mdW am (up st4 2802 100, bk, un, ck, ty, tm, tx, ln, rf, dg, dn, rk, pl, iw, wd, wm, od, oc)]) C rfl rfl (by omega) dX8_start_31 rfl rfl ?_
        refine i_aload_n (j := 0) (q := 33) C rfl rfl dX8_start_32 rfl ?_
        refine i_iconst (q := 34) C dX8_start_33 rfl ?_
        refine i_putI (i := 0) (j := 0) (f := 2) (q := 37) (cs' := [mdW am (up st4 2802 100, bk, 0, ck, ty, tm, tx, ln, rf, dg, dn, rk, pl, iw, wd, wm, od, oc)]) C rfl rfl rfl hi_X8_start_X8 tyX8 tyX8_ok nmX8 (by decide) (Nat.le_of_ble_eq_true rfl) lk_X8_start_46 rfl rfl dX8_start_34 rfl rfl ?_
        refine i_aload_n (j := 0) (q := 38) C rfl rfl dX8_start_37 rfl ?_
        refine i_iconst (q := 39) C dX8_start_38 rfl ?_
        refine i_putI (i := 0) (j := 0) (f := 3) (q := 42) (cs' := [mdW am (up st4 2802 100, bk, 0, 0, ty, tm, tx, ln, rf, dg, dn, rk, pl, iw, wd, wm, od, oc)]) C rfl rfl rfl hi_X8_start_X8 tyX8 tyX8_ok nmX8 (by decide) (Nat.le_of_ble_eq_true rfl) lk_X8_start_50 rfl rfl dX8_start_39 rfl rfl ?_
        refine i_aload_n (j := 0) (q := 43) C rfl rfl dX8_start_42 rfl ?_
        refine i_iconst (q := 44) C dX8_start_43 rfl ?_
        refine i_putI (i := 0) (j := 0) (f := 5) (q := 47) (cs' := [mdW am (up st4 2802 100, bk, 0, 0, ty, 0, tx, ln, rf, dg, dn, rk, pl, iw, wd, wm, od, oc)]) C rfl rfl rfl hi_X8_start_X8 tyX8 tyX8_ok nmX8 (by decide) (Nat.le_of_ble_eq_true rfl) lk_X8_start_53 rfl rfl dX8_start_44 rfl rfl ?_
        refine i_aload_n (j := 0) (q := 48) C rfl rfl dX8_start_47 rfl ?_
        refine i_iconst (q := 49) C dX8_start_48 rfl ?_
        refine i_putI (i := 0) (j := 0) (f := 7) (q := 52) (cs' := [mdW am (up st4 2802 100, bk, 0, 0, ty, 0, tx, 0, rf, dg, dn, rk, pl, iw, wd, wm, od, oc)]) C rfl rfl rfl hi_X8_start_X8 tyX8 tyX8_ok nmX8 (by decide) (Nat.le_of_ble_eq_true rfl) lk_X8_start_56 rfl rfl dX8_start_49 rfl rfl ?_
        refine i_iconst (q := 53) C dX8_start_52 rfl ?_
        refine i_istore_n (q := 54) (lv' := [(1, vI 0), (0, vP (am 0))]) C rfl (by decide) rfl dX8_start_53 rfl ?_
        have loop_54 : ∀ (fuel : Nat) (j : Int) (rf4 : Int → Int), ((3 - j).toNat) < fuel → (0 ≤ j ∧ j ≤ 3) → (∀ k, 0 ≤ k → k < j → rf4 k = 0) → V X 0 0 54 [(0, vP (am 0)), (1, vI j)] [] [mdW am (up st4 2802 100, bk, 0, 0, ty, 0, tx, 0, rf4, dg, dn, rk, pl, iw, wd, wm, od, oc)] := by
          intro fuel
          induction fuel with
          | zero => intro j rf4 hz; exact absurd hz (Nat.not_lt_zero _)
          | succ fuel ih_54 =>
            intro j rf4 hfu_54 hj hw
            refine i_iload_n (j := 1) (q := 55) C rfl rfl dX8_start_54 rfl ?_
            refine i_iconst (q := 56) C dX8_start_55 rfl ?_
            refine i_icmp_ge (tgt := 72) (q := 59) C (by omega) (by omega) dX8_start_56 (by decide) rfl (fun c_56 => ?_) (fun c_56 => ?_)
            · skip
              refine i_iconst (q := 73) C dX8_start_72 rfl ?_
              refine i_iret C hR dX8_start_73 ?_
              exact ⟨up st4 2802 100, rf4, rfl, rfl, fun k g0 g1 g2 => by rw [up_n _ _ g2]; exact hv k g0 (by omega), up_s _ _ _, hw 0 (by omega) (by omega), hw 1 (by omega) (by omega), hw 2 (by omega) (by omega)⟩
            · skip
              refine i_aload_n (j := 0) (q := 60) C rfl rfl dX8_start_59 rfl ?_
              refine i_get (i := 0) (j := 0) (f := 8) (q := 63) C rfl rfl rfl hi_X8_start_X8 (by decide) lk_X8_start_23 rfl dX8_start_60 rfl ?_
              refine i_iload_n (j := 1) (q := 64) C rfl rfl dX8_start_63 rfl ?_
              refine i_iconst (q := 65) C dX8_start_64 rfl ?_
              refine i_iast (i := 0) (j := 5) (q := 66) (cs' := [mdW am (up st4 2802 100, bk, 0, 0, ty, 0, tx, 0, up rf4 j 0, dg, dn, rk, pl, iw, wd, wm, od, oc)]) C rfl rfl (by omega) dX8_start_65 rfl rfl ?_
              refine i_iinc (j := 1) (q := 69) (lv' := [(1, vI (j + 1)), (0, vP (am 0))]) C rfl (by decide) rfl dX8_start_66 rfl ?_
              refine i_goto (q := 54) C dX8_start_69 (by decide) ?_
              refine V.lv [1, 0] rfl ?_
              exact ih_54 (j + 1) (up rf4 j 0) (by omega) (by omega) (fun k g0 g1 => by
                by_cases e : k = j
                · subst e; rw [up_s]
                · rw [up_n _ _ e]; exact hw k g0 (by omega))
        refine V.lv [1, 0] rfl ?_
        exact loop_54 _ (0) (rf) (Nat.lt_succ_self _) (by omega) (fun k _ _ => by omega)
      · skip
        refine i_aload_n (j := 0) (q := 10) C rfl rfl dX8_start_9 rfl ?_
        refine i_get (i := 0) (j := 0) (f := 0) (q := 13) C rfl rfl rfl hi_X8_start_X8 (by decide) lk_X8_start_7 rfl dX8_start_10 rfl ?_
        refine i_iload_n (j := 1) (q := 14) C rfl rfl dX8_start_13 rfl ?_
        refine i_iconst (q := 15) C dX8_start_14 rfl ?_
        refine i_iast (i := 0) (j := 1) (q := 16) (cs' := [mdW am (up st4 i 0, bk, un, ck, ty, tm, tx, ln, rf, dg, dn, rk, pl, iw, wd, wm, od, oc)]) C rfl rfl (by omega) dX8_start_15 rfl rfl ?_
        refine i_iinc (j := 1) (q := 19) (lv' := [(1, vI (i + 1)), (0, vP (am 0))]) C rfl (by decide) rfl dX8_start_16 rfl ?_
        refine i_goto (q := 2) C dX8_start_19 (by decide) ?_
        refine V.lv [1, 0] rfl ?_
        exact ih_2 (i + 1) (up st4 i 0) (by omega) (by omega) (fun k g0 g1 => by
          by_cases e : k = i
          · subst e; rw [up_s]
          · rw [up_n _ _ e]; exact hv k g0 (by omega))
  refine V.lv [1, 0] rfl ?_
  exact loop_2 _ (0) (st) (Nat.lt_succ_self _) (by omega) (fun k _ _ => by omega)

theorem lk_X8_type_53 : Cond.fieldLink RX8 53 (TX8 5).1 (TX8 5).2.1 (TX8 5).2.2.1 ∈ wsX8_type := List.mem_of_getElem? (i := 1) rfl
theorem hi_X8_type_X8 : ∀ w ∈ u_ws RX8 TX8 18, w ∈ wsX8_type := by decide +kernel
theorem lk_X8_type_17 : Cond.fieldLink RX8 17 (TX8 4).1 (TX8 4).2.1 (TX8 4).2.2.1 ∈ wsX8_type := List.mem_of_getElem? (i := 2) rfl
theorem hd_X8_full : yX8_full.cls = RX8 ∧ yX8_full.cls ≠ "java/lang/invoke/MethodHandle" ∧ yX8_full.cls ≠ "java/lang/invoke/VarHandle" ∧ (parseMethodDescriptor yX8_full.desc).map (fun d => d.parameters.length) = some 0 := by decide +kernel
theorem hd_X8_bad : yX8_bad.cls = RX8 ∧ yX8_bad.cls ≠ "java/lang/invoke/MethodHandle" ∧ yX8_bad.cls ≠ "java/lang/invoke/VarHandle" ∧ (parseMethodDescriptor yX8_bad.desc).map (fun d => d.parameters.length) = some 0 := by decide +kernel
set_option maxHeartbeats 400000 in
set_option maxRecDepth 100000 in
theorem c_X8_type (K : KT) (l : Launch) (am : Nat → Nat) (st : Int → Int) (bk : Int → Int) (un : Int) (ck : Int) (ty : Int → Int) (tm : Int) (tx : Int → Int) (ln : Int) (rf : Int → Int) (dg : Int) (dn : Int → Int) (rk : Int → Int) (pl : Int) (iw : Int) (wd : Int → Int) (wm : Int) (od : Int → Int) (oc : Int) (N : Int) (x : Int) (hm : okM N st bk un ck ty tm tx ln rf) (hN : N < 512) (hx : rI x) : Mt K l yX8_type wsX8_type ({ frames := 1, cells := 0, slots := 0, locals := 22 }) [vP (am 0), vI x] [mdW am (st, bk, un, ck, ty, tm, tx, ln, rf, dg, dn, rk, pl, iw, wd, wm, od, oc)] 0 0 (fun v w => ∃ ty3 : Int → Int, ∃ tm3 : Int, ∃ rf3 : Int → Int, v = some (vI ((sp_type x (absM st bk un ck ty tm tx ln rf)).1)) ∧ w = [mdW am (st, bk, un, ck, ty3, tm3, tx, ln, rf3, dg, dn, rk, pl, iw, wd, wm, od, oc)] ∧ (absM st bk un ck ty3 tm3 tx ln rf3 = (sp_type x (absM st bk un ck ty tm tx ln rf)).2) ∧ (okM (N + 1) st bk un ck ty3 tm3 tx ln rf3)) := by
  refine Mt.of (own := RX8) (cc := cX8_type) (maxL := 2) (ret := (some .int)) (lv0 := [(0, vP (am 0)), (1, vI x)]) (by decide) rfl rfl (Nat.le_of_ble_eq_true rfl) rfl (fun X C hR hNm => ?_)
  have hs := hm.hs
  have hgv := hs.gv
  have hN0 := hm.hN
  have hH := hm.hH
  have hck := hm.hck
  have htm := hm.htm
  have hln := hm.hln
  have hun := hH.1
  refine i_iload_n (j := 1) (q := 1) C rfl rfl dX8_type_0 rfl ?_
  refine i_iconst (q := 2) C dX8_type_1 rfl ?_
  refine i_bipush (q := 4) C (by decide) dX8_type_2 rfl ?_
  refine i_callS (wr := [mdW am (st, bk, un, ck, ty, tm, tx, ln, rf, dg, dn, rk, pl, iw, wd, wm, od, oc)]) (As := [vI x, vI 0, vI 7]) (st := []) (q := 7) C (c_X8_in K l (x) (0) (7) (by first | assumption | omega) (by first | assumption | omega) (by first | assumption | omega)) gX8_type_X8_in rfl hd_X8_in ⟨Nat.le_of_ble_eq_true rfl, Nat.le_of_ble_eq_true rfl⟩ ⟨rfl, rfl⟩ ⟨Nat.le_of_ble_eq_true rfl, Nat.le_of_ble_eq_true rfl⟩ (permBy [0] (by decide) rfl rfl) rfl (Nat.le_of_ble_eq_true rfl) dX8_type_4 rfl (fun v w hq => ?_)
  obtain ⟨rfl, rfl⟩ := hq
  show V X 0 0 7 [(0, vP (am 0)), (1, vI x)] [vI (if 0 ≤ x ∧ x ≤ 7 then 1 else 0)] [mdW am (st, bk, un, ck, ty, tm, tx, ln, rf, dg, dn, rk, pl, iw, wd, wm, od, oc)]
  refine i_if_ne (tgt := 15) (q := 10) C (if01) dX8_type_7 (by decide) rfl (fun c_7 => ?_) (fun c_7 => ?_)
  · skip
    have h_7 := ifn0 c_7
    refine i_aload_n (j := 0) (q := 16) C rfl rfl dX8_type_15 rfl ?_
    refine i_get (i := 0) (j := 0) (f := 5) (q := 19) C rfl rfl rfl hi_X8_type_X8 (by decide) lk_X8_type_53 rfl dX8_type_16 rfl ?_
    refine i_bipush (q := 21) C (by decide) dX8_type_19 rfl ?_
    refine i_icmp_ne (tgt := 29) (q := 24) C (by omega) (by omega) dX8_type_21 (by decide) rfl (fun c_21 => ?_) (fun c_21 => ?_)
    · skip
      refine i_aload_n (j := 0) (q := 30) C rfl rfl dX8_type_29 rfl ?_
      refine i_get (i := 0) (j := 0) (f := 4) (q := 33) C rfl rfl rfl hi_X8_type_X8 (by decide) lk_X8_type_17 rfl dX8_type_30 rfl ?_
      refine i_aload_n (j := 0) (q := 34) C rfl rfl dX8_type_33 rfl ?_
      refine i_get (i := 0) (j := 0) (f := 5) (q := 37) C rfl rfl rfl hi_X8_type_X8 (by decide) lk_X8_type_53 rfl dX8_type_34 rfl ?_
      refine i_iload_n (j := 1) (q := 38) C rfl rfl dX8_type_37 rfl ?_
      refine i_iast (i := 0) (j := 3) (q := 39) (cs' := [mdW am (st, bk, un, ck, up ty tm x, tm, tx, ln, rf, dg, dn, rk, pl, iw, wd, wm, od, oc)]) C rfl rfl (by omega) dX8_type_38 rfl rfl ?_
      refine i_aload_n (j := 0) (q := 40) C rfl rfl dX8_type_39 rfl ?_
      refine i_dup (q := 41) C rfl dX8_type_40 rfl ?_
      refine i_get (i := 0) (j := 0) (f := 5) (q := 44) C rfl rfl rfl hi_X8_type_X8 (by decide) lk_X8_type_53 rfl dX8_type_41 rfl ?_
      refine i_iconst (q := 45) C dX8_type_44 rfl ?_
      refine i_iadd (q := 46) C dX8_type_45 rfl ?_
      refine i_putI (i := 0) (j := 0) (f := 5) (q := 49) (cs' := [mdW am (st, bk, un, ck, up ty tm x, tm + 1, tx, ln, rf, dg, dn, rk, pl, iw, wd, wm, od, oc)]) C rfl rfl rfl hi_X8_type_X8 tyX8 tyX8_ok nmX8 (by decide) (Nat.le_of_ble_eq_true rfl) lk_X8_type_53 rfl rfl dX8_type_46 rfl rfl ?_
      refine i_aload_n (j := 0) (q := 50) C rfl rfl dX8_type_49 rfl ?_
      refine i_get (i := 0) (j := 0) (f := 5) (q := 53) C rfl rfl rfl hi_X8_type_X8 (by decide) lk_X8_type_53 rfl dX8_type_50 rfl ?_
      refine i_iret C hR dX8_type_53 ?_
      have hsp : (sp_type x (absM st bk un ck ty tm tx ln rf)) = (tm + 1, absM st bk un ck (up ty tm x) (tm + 1) tx ln rf) := by
        unfold absM
        simp only [sp_type]
        rw [if_neg (by omega), if_neg (by rw [rg_len]; omega), rg_len, Int.toNat_of_nonneg htm.1, ← rg_push ty htm.1 x]
      exact ⟨up ty tm x, tm + 1, rf, by rw [hsp], rfl, by rw [hsp] <;> exact rfl, (hm.typ (by omega) (fun k g0 g1 => by
        by_cases e : k = tm
        · subst e; rw [up_s]; omega
        · rw [up_n _ _ e]; exact hm.hty k g0 (by omega))).s hN⟩
    · skip
      refine i_aload_n (j := 0) (q := 25) C rfl rfl dX8_type_24 rfl ?_
      refine i_callV (wr := []) (As := []) (st := []) (i := 0) (j := 0) (q := 28) C (c_X8_full K l (am) (st) (bk) (un) (ck) (ty) (tm) (tx) (ln) (rf) (dg) (dn) (rk) (pl) (iw) (wd) (wm) (od) (oc) ) gX8_type_X8_full rfl hd_X8_full ⟨Nat.le_of_ble_eq_true rfl, Nat.le_of_ble_eq_true rfl⟩ ⟨rfl, rfl⟩ ⟨Nat.le_of_ble_eq_true rfl, Nat.le_of_ble_eq_true rfl⟩ (permBy [0] (by decide) rfl rfl) rfl rfl rfl rfl (Nat.le_of_ble_eq_true rfl) dX8_type_25 rfl (fun v w hq => ?_)
      obtain ⟨rfl, rfl⟩ := hq
      show V X 0 0 28 [(0, vP (am 0)), (1, vI x)] [vI (-4)] [mdW am (st, bk, un, ck, ty, tm, tx, ln, up rf 2 (rf 2 + 1), dg, dn, rk, pl, iw, wd, wm, od, oc)]
      refine i_iret C hR dX8_type_28 ?_
      have hsp : (sp_type x (absM st bk un ck ty tm tx ln rf)) = (-4, aFull (absM st bk un ck ty tm tx ln rf)) := by
        unfold absM
        simp only [sp_type]
        rw [if_neg (by omega), if_pos (by rw [rg_len]; omega)]
      exact ⟨ty, tm, up rf 2 (rf 2 + 1), by rw [hsp], rfl, by rw [hsp] <;> exact absM_full, okM_full hm hN⟩
  · skip
    have h_7 := if0 c_7
    refine i_aload_n (j := 0) (q := 11) C rfl rfl dX8_type_10 rfl ?_
    refine i_callV (wr := []) (As := []) (st := []) (i := 0) (j := 0) (q := 14) C (c_X8_bad K l (am) (st) (bk) (un) (ck) (ty) (tm) (tx) (ln) (rf) (dg) (dn) (rk) (pl) (iw) (wd) (wm) (od) (oc) ) gX8_type_X8_bad rfl hd_X8_bad ⟨Nat.le_of_ble_eq_true rfl, Nat.le_of_ble_eq_true rfl⟩ ⟨rfl, rfl⟩ ⟨Nat.le_of_ble_eq_true rfl, Nat.le_of_ble_eq_true rfl⟩ (permBy [0] (by decide) rfl rfl) rfl rfl rfl rfl (Nat.le_of_ble_eq_true rfl) dX8_type_11 rfl (fun v w hq => ?_)
    obtain ⟨rfl, rfl⟩ := hq
    show V X 0 0 14 [(0, vP (am 0)), (1, vI x)] [vI (-2)] [mdW am (st, bk, un, ck, ty, tm, tx, ln, up rf 0 (rf 0 + 1), dg, dn, rk, pl, iw, wd, wm, od, oc)]
    refine i_iret C hR dX8_type_14 ?_
    have hsp : (sp_type x (absM st bk un ck ty tm tx ln rf)) = (-2, aBad (absM st bk un ck ty tm tx ln rf)) := by
      unfold absM
      simp only [sp_type]
      rw [if_pos (by omega)]
    exact ⟨ty, tm, up rf 0 (rf 0 + 1), by rw [hsp], rfl, by rw [hsp] <;> exact absM_bad, okM_bad hm hN⟩

theorem lk_X8_rub_53 : Cond.fieldLink RX8 53 (TX8 5).1 (TX8 5).2.1 (TX8 5).2.2.1 ∈ wsX8_rub := List.mem_of_getElem? (i := 1) rfl
theorem hi_X8_rub_X8 : ∀ w ∈ u_ws RX8 TX8 18, w ∈ wsX8_rub := by decide +kernel
theorem hd_X8_no : yX8_no.cls = RX8 ∧ yX8_no.cls ≠ "java/lang/invoke/MethodHandle" ∧ yX8_no.cls ≠ "java/lang/invoke/VarHandle" ∧ (parseMethodDescriptor yX8_no.desc).map (fun d => d.parameters.length) = some 0 := by decide +kernel
set_option maxHeartbeats 400000 in
set_option maxRecDepth 100000 in
theorem c_X8_rub (K : KT) (l : Launch) (am : Nat → Nat) (st : Int → Int) (bk : Int → Int) (un : Int) (ck : Int) (ty : Int → Int) (tm : Int) (tx : Int → Int) (ln : Int) (rf : Int → Int) (dg : Int) (dn : Int → Int) (rk : Int → Int) (pl : Int) (iw : Int) (wd : Int → Int) (wm : Int) (od : Int → Int) (oc : Int) (N : Int) (hm : okM N st bk un ck ty tm tx ln rf) (hN : N < 512) : Mt K l yX8_rub wsX8_rub ({ frames := 1, cells := 0, slots := 0, locals := 20 }) [vP (am 0)] [mdW am (st, bk, un, ck, ty, tm, tx, ln, rf, dg, dn, rk, pl, iw, wd, wm, od, oc)] 0 0 (fun v w => ∃ tm3 : Int, ∃ rf3 : Int → Int, v = some (vI ((sp_rub  (absM st bk un ck ty tm tx ln rf)).1)) ∧ w = [mdW am (st, bk, un, ck, ty, tm3, tx, ln, rf3, dg, dn, rk, pl, iw, wd, wm, od, oc)] ∧ (absM st bk un ck ty tm3 tx ln rf3 = (sp_rub  (absM st bk un ck ty tm tx ln rf)).2) ∧ (okM (N + 1) st bk un ck ty tm3 tx ln rf3)) := by
  refine Mt.of (own := RX8) (cc := cX8_rub) (maxL := 1) (ret := (some .int)) (lv0 := [(0, vP (am 0))]) (by decide) rfl rfl (Nat.le_of_ble_eq_true rfl) rfl (fun X C hR hNm => ?_)
  have hs := hm.hs
  have hgv := hs.gv
  have hN0 := hm.hN
  have hH := hm.hH
  have hck := hm.hck
  have htm := hm.htm
  have hln := hm.hln
  have hun := hH.1
  refine i_aload_n (j := 0) (q := 1) C rfl rfl dX8_rub_0 rfl ?_
  refine i_get (i := 0) (j := 0) (f := 5) (q := 4) C rfl rfl rfl hi_X8_rub_X8 (by decide) lk_X8_rub_53 rfl dX8_rub_1 rfl ?_
  refine i_if_ne (tgt := 12) (q := 7) C (by omega) dX8_rub_4 (by decide) rfl (fun c_4 => ?_) (fun c_4 => ?_)
  · skip
    refine i_aload_n (j := 0) (q := 13) C rfl rfl dX8_rub_12 rfl ?_
    refine i_dup (q := 14) C rfl dX8_rub_13 rfl ?_
    refine i_get (i := 0) (j := 0) (f := 5) (q := 17) C rfl rfl rfl hi_X8_rub_X8 (by decide) lk_X8_rub_53 rfl dX8_rub_14 rfl ?_
    refine i_iconst (q := 18) C dX8_rub_17 rfl ?_
    refine i_isub (q := 19) C dX8_rub_18 rfl ?_
    refine i_putI (i := 0) (j := 0) (f := 5) (q := 22) (cs' := [mdW am (st, bk, un, ck, ty, tm - 1, tx, ln, rf, dg, dn, rk, pl, iw, wd, wm, od, oc)]) C rfl rfl rfl hi_X8_rub_X8 tyX8 tyX8_ok nmX8 (by decide) (Nat.le_of_ble_eq_true rfl) lk_X8_rub_53 rfl rfl dX8_rub_19 rfl rfl ?_
    refine i_aload_n (j := 0) (q := 23) C rfl rfl dX8_rub_22 rfl ?_
    refine i_get (i := 0) (j := 0) (f := 5) (q := 26) C rfl rfl rfl hi_X8_rub_X8 (by decide) lk_X8_rub_53 rfl dX8_rub_23 rfl ?_
    refine i_iret C hR dX8_rub_26 ?_
    have hsp : (sp_rub  (absM st bk un ck ty tm tx ln rf)) = (tm - 1, absM st bk un ck ty (tm - 1) tx ln rf) := by
      unfold absM
      simp only [sp_rub]
      rw [if_neg (by rw [rg_len]; omega), rg_len, Int.toNat_of_nonneg htm.1, rg_take ty (tm.toNat - 1) (by omega), show ((tm.toNat - 1 : Nat) : Int) = tm - 1 by omega]
    exact ⟨tm - 1, rf, by rw [hsp], rfl, by rw [hsp] <;> exact rfl, (hm.typ (by omega) (fun k g0 g1 => hm.hty k g0 (by omega))).s hN⟩
  · skip
    refine i_aload_n (j := 0) (q := 8) C rfl rfl dX8_rub_7 rfl ?_
    refine i_callV (wr := []) (As := []) (st := []) (i := 0) (j := 0) (q := 11) C (c_X8_no K l (am) (st) (bk) (un) (ck) (ty) (tm) (tx) (ln) (rf) (dg) (dn) (rk) (pl) (iw) (wd) (wm) (od) (oc) ) gX8_rub_X8_no rfl hd_X8_no ⟨Nat.le_of_ble_eq_true rfl, Nat.le_of_ble_eq_true rfl⟩ ⟨rfl, rfl⟩ ⟨Nat.le_of_ble_eq_true rfl, Nat.le_of_ble_eq_true rfl⟩ (permBy [0] (by decide) rfl rfl) rfl rfl rfl rfl (Nat.le_of_ble_eq_true rfl) dX8_rub_8 rfl (fun v w hq => ?_)
    obtain ⟨rfl, rfl⟩ := hq
    show V X 0 0 11 [(0, vP (am 0))] [vI (-3)] [mdW am (st, bk, un, ck, ty, tm, tx, ln, up rf 1 (rf 1 + 1), dg, dn, rk, pl, iw, wd, wm, od, oc)]
    refine i_iret C hR dX8_rub_11 ?_
    have hsp : (sp_rub  (absM st bk un ck ty tm tx ln rf)) = (-3, aNo (absM st bk un ck ty tm tx ln rf)) := by
      unfold absM
      simp only [sp_rub]
      rw [if_pos (by rw [rg_len]; omega)]
    exact ⟨tm, up rf 1 (rf 1 + 1), by rw [hsp], rfl, by rw [hsp] <;> exact absM_no, okM_no hm hN⟩

theorem hd_X8_isThere : yX8_isThere.cls = RX8 ∧ yX8_isThere.cls ≠ "java/lang/invoke/MethodHandle" ∧ yX8_isThere.cls ≠ "java/lang/invoke/VarHandle" ∧ (parseMethodDescriptor yX8_isThere.desc).map (fun d => d.parameters.length) = some 1 := by decide +kernel
theorem lk_X8_types_7 : Cond.fieldLink RX8 7 (TX8 0).1 (TX8 0).2.1 (TX8 0).2.2.1 ∈ wsX8_types := List.mem_of_getElem? (i := 1) rfl
theorem hi_X8_types_X8 : ∀ w ∈ u_ws RX8 TX8 18, w ∈ wsX8_types := by decide +kernel
theorem lk_X8_types_17 : Cond.fieldLink RX8 17 (TX8 4).1 (TX8 4).2.1 (TX8 4).2.2.1 ∈ wsX8_types := List.mem_of_getElem? (i := 2) rfl
theorem lk_X8_types_53 : Cond.fieldLink RX8 53 (TX8 5).1 (TX8 5).2.1 (TX8 5).2.2.1 ∈ wsX8_types := List.mem_of_getElem? (i := 3) rfl
set_option maxHeartbeats 400000 in
set_option maxRecDepth 100000 in
theorem c_X8_types (K : KT) (l : Launch) (am : Nat → Nat) (st : Int → Int) (bk : Int → Int) (un : Int) (ck : Int) (ty : Int → Int) (tm : Int) (tx : Int → Int) (ln : Int) (rf : Int → Int) (dg : Int) (dn : Int → Int) (rk : Int → Int) (pl : Int) (iw : Int) (wd : Int → Int) (wm : Int) (od : Int → Int) (oc : Int) (N : Int) (x : Int) (y : Int) (hm : okM N st bk un ck ty tm tx ln rf) (hN : N < 512) (hx : rI x) (hy : rI y) : Mt K l yX8_types wsX8_types ({ frames := 2, cells := 0, slots := 0, locals := 43 }) [vP (am 0), vI x, vI y] [mdW am (st, bk, un, ck, ty, tm, tx, ln, rf, dg, dn, rk, pl, iw, wd, wm, od, oc)] 0 0 (fun v w => ∃ ty3 : Int → Int, ∃ tm3 : Int, ∃ rf3 : Int → Int, v = some (vI ((sp_types x y (absM st bk un ck ty tm tx ln rf)).1)) ∧ w = [mdW am (st, bk, un, ck, ty3, tm3, tx, ln, rf3, dg, dn, rk, pl, iw, wd, wm, od, oc)] ∧ (absM st bk un ck ty3 tm3 tx ln rf3 = (sp_types x y (absM st bk un ck ty tm tx ln rf)).2) ∧ (okM (N + 1) st bk un ck ty3 tm3 tx ln rf3)) := by
  refine Mt.of (own := RX8) (cc := cX8_types) (maxL := 3) (ret := (some .int)) (lv0 := [(0, vP (am 0)), (1, vI x), (2, vI y)]) (by decide) rfl rfl (Nat.le_of_ble_eq_true rfl) rfl (fun X C hR hNm => ?_)
  have hs := hm.hs
  have hgv := hs.gv
  have hN0 := hm.hN
  have hH := hm.hH
  have hck := hm.hck
  have htm := hm.htm
  have hln := hm.hln
  have hun := hH.1
  refine i_aload_n (j := 0) (q := 1) C rfl rfl dX8_types_0 rfl ?_
  refine i_iload_n (j := 1) (q := 2) C rfl rfl dX8_types_1 rfl ?_
  refine i_callV (wr := []) (As := [vI x]) (st := []) (i := 0) (j := 0) (q := 5) C (c_X8_isThere K l (am) (st) (bk) (un) (ck) (ty) (tm) (tx) (ln) (rf) (dg) (dn) (rk) (pl) (iw) (wd) (wm) (od) (oc) (24 * N) (x) (by first | assumption | omega) (by first | assumption | omega)) gX8_types_X8_isThere rfl hd_X8_isThere ⟨Nat.le_of_ble_eq_true rfl, Nat.le_of_ble_eq_true rfl⟩ ⟨rfl, rfl⟩ ⟨Nat.le_of_ble_eq_true rfl, Nat.le_of_ble_eq_true rfl⟩ (permBy [0] (by decide) rfl rfl) rfl rfl rfl rfl (Nat.le_of_ble_eq_true rfl) dX8_types_2 rfl (fun v w hq => ?_)
  obtain ⟨rfl, rfl⟩ := hq
  show V X 0 0 5 [(0, vP (am 0)), (1, vI x), (2, vI y)] [vI (if 0 ≤ x ∧ x < st 2800 ∧ st (14 * x) = 1 then 1 else 0)] [mdW am (st, bk, un, ck, ty, tm, tx, ln, rf, dg, dn, rk, pl, iw, wd, wm, od, oc)]
  refine i_if_eq (tgt := 27) (q := 8) C (if01) dX8_types_5 (by decide) rfl (fun c_5 => ?_) (fun c_5 => ?_)
  · skip
    have h_5 := if0 c_5
    refine i_aload_n (j := 0) (q := 28) C rfl rfl dX8_types_27 rfl ?_
    refine i_callV (wr := []) (As := []) (st := []) (i := 0) (j := 0) (q := 31) C (c_X8_bad K l (am) (st) (bk) (un) (ck) (ty) (tm) (tx) (ln) (rf) (dg) (dn) (rk) (pl) (iw) (wd) (wm) (od) (oc) ) gX8_types_X8_bad rfl hd_X8_bad ⟨Nat.le_of_ble_eq_true rfl, Nat.le_of_ble_eq_true rfl⟩ ⟨rfl, rfl⟩ ⟨Nat.le_of_ble_eq_true rfl, Nat.le_of_ble_eq_true rfl⟩ (permBy [0] (by decide) rfl rfl) rfl rfl rfl rfl (Nat.le_of_ble_eq_true rfl) dX8_types_28 rfl (fun v w hq => ?_)
    obtain ⟨rfl, rfl⟩ := hq
    show V X 0 0 31 [(0, vP (am 0)), (1, vI x), (2, vI y)] [vI (-2)] [mdW am (st, bk, un, ck, ty, tm, tx, ln, up rf 0 (rf 0 + 1), dg, dn, rk, pl, iw, wd, wm, od, oc)]
    refine i_iret C hR dX8_types_31 ?_
    have hsp : (sp_types x y (absM st bk un ck ty tm tx ln rf)) = (-2, aBad (absM st bk un ck ty tm tx ln rf)) := by
      unfold absM
      simp only [sp_types]
      rw [fnd_bo hs, if_neg h_5]
    exact ⟨ty, tm, up rf 0 (rf 0 + 1), by rw [hsp], rfl, by rw [hsp] <;> exact absM_bad, okM_bad hm hN⟩
  · skip
    have h_5 := ifn0 c_5
    refine i_iload_n (j := 2) (q := 9) C rfl rfl dX8_types_8 rfl ?_
    refine i_iconst (q := 10) C dX8_types_9 rfl ?_
    refine i_aload_n (j := 0) (q := 11) C rfl rfl dX8_types_10 rfl ?_
    refine i_get (i := 0) (j := 0) (f := 0) (q := 14) C rfl rfl rfl hi_X8_types_X8 (by decide) lk_X8_types_7 rfl dX8_types_11 rfl ?_
    refine i_bipush (q := 16) C (by decide) dX8_types_14 rfl ?_
    refine i_iload_n (j := 1) (q := 17) C rfl rfl dX8_types_16 rfl ?_
    refine i_imul (q := 18) C dX8_types_17 rfl ?_
    refine i_iconst (q := 19) C dX8_types_18 rfl ?_
    refine i_iadd (q := 20) C dX8_types_19 rfl ?_
    refine i_iald (i := 0) (j := 1) (q := 21) C rfl rfl (by omega) dX8_types_20 rfl ?_
    have ld_20 := hs.k3 x (by omega) (by omega)
    refine i_callS (wr := [mdW am (st, bk, un, ck, ty, tm, tx, ln, rf, dg, dn, rk, pl, iw, wd, wm, od, oc)]) (As := [vI y, vI 0, vI (st ((14 * x) + 3))]) (st := []) (q := 24) C (c_X8_in K l (y) (0) (st ((14 * x) + 3)) (by first | assumption | omega) (by first | assumption | omega) (by first | assumption | omega)) gX8_types_X8_in rfl hd_X8_in ⟨Nat.le_of_ble_eq_true rfl, Nat.le_of_ble_eq_true rfl⟩ ⟨rfl, rfl⟩ ⟨Nat.le_of_ble_eq_true rfl, Nat.le_of_ble_eq_true rfl⟩ (permBy [0] (by decide) rfl rfl) rfl (Nat.le_of_ble_eq_true rfl) dX8_types_21 rfl (fun v w hq => ?_)
    obtain ⟨rfl, rfl⟩ := hq
    show V X 0 0 24 [(0, vP (am 0)), (1, vI x), (2, vI y)] [vI (if 0 ≤ y ∧ y ≤ (st ((14 * x) + 3)) then 1 else 0)] [mdW am (st, bk, un, ck, ty, tm, tx, ln, rf, dg, dn, rk, pl, iw, wd, wm, od, oc)]
    refine i_if_ne (tgt := 32) (q := 27) C (if01) dX8_types_24 (by decide) rfl (fun c_24 => ?_) (fun c_24 => ?_)
    · skip
      have h_24 := ifn0 c_24
      refine i_aload_n (j := 0) (q := 33) C rfl rfl dX8_types_32 rfl ?_
      refine i_get (i := 0) (j := 0) (f := 0) (q := 36) C rfl rfl rfl hi_X8_types_X8 (by decide) lk_X8_types_7 rfl dX8_types_33 rfl ?_
      refine i_bipush (q := 38) C (by decide) dX8_types_36 rfl ?_
      refine i_iload_n (j := 1) (q := 39) C rfl rfl dX8_types_38 rfl ?_
      refine i_imul (q := 40) C dX8_types_39 rfl ?_
      refine i_bipush (q := 42) C (by decide) dX8_types_40 rfl ?_
      refine i_iadd (q := 43) C dX8_types_42 rfl ?_
      refine i_aload_n (j := 0) (q := 44) C rfl rfl dX8_types_43 rfl ?_
      refine i_get (i := 0) (j := 0) (f := 4) (q := 47) C rfl rfl rfl hi_X8_types_X8 (by decide) lk_X8_types_17 rfl dX8_types_44 rfl ?_
      refine i_iconst (q := 48) C dX8_types_47 rfl ?_
      refine i_iload_n (j := 2) (q := 49) C rfl rfl dX8_types_48 rfl ?_
      refine i_callS (wr := []) (As := [vP (am 1), vI ((14 * x) + 6), vP (am 3), vI 0, vI y]) (st := []) (q := 52) C (c_X8_bring_st_ty K l (am) (st) (bk) (un) (ck) (ty) (tm) (tx) (ln) (rf) (dg) (dn) (rk) (pl) (iw) (wd) (wm) (od) (oc) ((14 * x) + 6) (0) (y) (by first | assumption | omega) (by first | assumption | omega) (by first | assumption | omega)) gX8_types_X8_bring rfl hd_X8_bring ⟨Nat.le_of_ble_eq_true rfl, Nat.le_of_ble_eq_true rfl⟩ ⟨rfl, rfl⟩ ⟨Nat.le_of_ble_eq_true rfl, Nat.le_of_ble_eq_true rfl⟩ (permBy [0] (by decide) rfl rfl) rfl (Nat.le_of_ble_eq_true rfl) dX8_types_49 rfl (fun v w hq => ?_)
      obtain ⟨rfl, rfl⟩ := hq
      show V X 0 0 52 [(0, vP (am 0)), (1, vI x), (2, vI y)] [] [mdW am (st, bk, un, ck, cpy st ((14 * x) + 6) ty 0 y, tm, tx, ln, rf, dg, dn, rk, pl, iw, wd, wm, od, oc)]
      refine i_aload_n (j := 0) (q := 53) C rfl rfl dX8_types_52 rfl ?_
      refine i_iload_n (j := 2) (q := 54) C rfl rfl dX8_types_53 rfl ?_
      refine i_putI (i := 0) (j := 0) (f := 5) (q := 57) (cs' := [mdW am (st, bk, un, ck, cpy st ((14 * x) + 6) ty 0 y, y, tx, ln, rf, dg, dn, rk, pl, iw, wd, wm, od, oc)]) C rfl rfl rfl hi_X8_types_X8 tyX8 tyX8_ok nmX8 (by decide) (Nat.le_of_ble_eq_true rfl) lk_X8_types_53 rfl rfl dX8_types_54 rfl rfl ?_
      refine i_iload_n (j := 2) (q := 58) C rfl rfl dX8_types_57 rfl ?_
      refine i_iret C hR dX8_types_58 ?_
      have hsp : (sp_types x y (absM st bk un ck ty tm tx ln rf)) = (y, absM st bk un ck (cpy st (14 * x + 6) ty 0 y) y tx ln rf) := by
        unfold absM
        simp only [sp_types]
        rw [fnd_bo hs, if_pos h_5]
        simp only
        rw [if_pos (by show 0 ≤ y ∧ y ≤ ((lt st x).length : Int); unfold lt; rw [rg_len]; omega)]
        have e1 : (mp st x).2.1.take y.toNat = rg (cpy st (14 * x + 6) ty 0 y) y := by
          show (lt st x).take y.toNat = _
          unfold lt
          rw [rg_take _ _ (by omega), Int.toNat_of_nonneg (by omega)]
          exact rg_ext (fun k g0 g1 => by rw [cpy_in _ _ _ _ _ _ (by omega)]; congr 1; omega)
        rw [e1]
      exact ⟨cpy st ((14 * x) + 6) ty 0 y, y, rf, by rw [hsp], rfl, by rw [hsp] <;> exact rfl, (hm.typ (by omega) (fun k g0 g1 => by rw [cpy_in _ _ _ _ _ _ (by omega), show 14 * x + 6 + (k - 0) = 14 * x + 6 + k by omega]; exact hs.k6 x (by omega) (by omega) k g0 (by omega))).s hN⟩
    · skip
      have h_24 := if0 c_24
      refine i_aload_n (j := 0) (q := 28) C rfl rfl dX8_types_27 rfl ?_
      refine i_callV (wr := []) (As := []) (st := []) (i := 0) (j := 0) (q := 31) C (c_X8_bad K l (am) (st) (bk) (un) (ck) (ty) (tm) (tx) (ln) (rf) (dg) (dn) (rk) (pl) (iw) (wd) (wm) (od) (oc) ) gX8_types_X8_bad rfl hd_X8_bad ⟨Nat.le_of_ble_eq_true rfl, Nat.le_of_ble_eq_true rfl⟩ ⟨rfl, rfl⟩ ⟨Nat.le_of_ble_eq_true rfl, Nat.le_of_ble_eq_true rfl⟩ (permBy [0] (by decide) rfl rfl) rfl rfl rfl rfl (Nat.le_of_ble_eq_true rfl) dX8_types_28 rfl (fun v w hq => ?_)
      obtain ⟨rfl, rfl⟩ := hq
      show V X 0 0 31 [(0, vP (am 0)), (1, vI x), (2, vI y)] [vI (-2)] [mdW am (st, bk, un, ck, ty, tm, tx, ln, up rf 0 (rf 0 + 1), dg, dn, rk, pl, iw, wd, wm, od, oc)]
      refine i_iret C hR dX8_types_31 ?_
      have hsp : (sp_types x y (absM st bk un ck ty tm tx ln rf)) = (-2, aBad (absM st bk un ck ty tm tx ln rf)) := by
        unfold absM
        simp only [sp_types]
        rw [fnd_bo hs, if_pos h_5]
        simp only
        rw [if_neg (by show ¬ (0 ≤ y ∧ y ≤ ((lt st x).length : Int)); unfold lt; rw [rg_len]; omega)]
      exact ⟨ty, tm, up rf 0 (rf 0 + 1), by rw [hsp], rfl, by rw [hsp] <;> exact absM_bad, okM_bad hm hN⟩

theorem lk_X8_clear_53 : Cond.fieldLink RX8 53 (TX8 5).1 (TX8 5).2.1 (TX8 5).2.2.1 ∈ wsX8_clear := List.mem_of_getElem? (i := 1) rfl
theorem hi_X8_clear_X8 : ∀ w ∈ u_ws RX8 TX8 18, w ∈ wsX8_clear := by decide +kernel
set_option maxHeartbeats 400000 in
set_option maxRecDepth 100000 in
theorem c_X8_clear (K : KT) (l : Launch) (am : Nat → Nat) (st : Int → Int) (bk : Int → Int) (un : Int) (ck : Int) (ty : Int → Int) (tm : Int) (tx : Int → Int) (ln : Int) (rf : Int → Int) (dg : Int) (dn : Int → Int) (rk : Int → Int) (pl : Int) (iw : Int) (wd : Int → Int) (wm : Int) (od : Int → Int) (oc : Int) (N : Int) (hm : okM N st bk un ck ty tm tx ln rf) (hN : N < 512) : Mt K l yX8_clear wsX8_clear ({ frames := 0, cells := 0, slots := 0, locals := 0 }) [vP (am 0)] [mdW am (st, bk, un, ck, ty, tm, tx, ln, rf, dg, dn, rk, pl, iw, wd, wm, od, oc)] 0 0 (fun v w => ∃ tm3 : Int, v = some (vI ((sp_clear  (absM st bk un ck ty tm tx ln rf)).1)) ∧ w = [mdW am (st, bk, un, ck, ty, tm3, tx, ln, rf, dg, dn, rk, pl, iw, wd, wm, od, oc)] ∧ (absM st bk un ck ty tm3 tx ln rf = (sp_clear  (absM st bk un ck ty tm tx ln rf)).2) ∧ (okM (N + 1) st bk un ck ty tm3 tx ln rf)) := by
  refine Mt.of (own := RX8) (cc := cX8_clear) (maxL := 2) (ret := (some .int)) (lv0 := [(0, vP (am 0))]) (by decide) rfl rfl (Nat.le_of_ble_eq_true rfl) rfl (fun X C hR hNm => ?_)
  have hs := hm.hs
  have hgv := hs.gv
  have hN0 := hm.hN
  have hH := hm.hH
  have hck := hm.hck
  have htm := hm.htm
  have hln := hm.hln
  have hun := hH.1
  refine i_aload_n (j := 0) (q := 1) C rfl rfl dX8_clear_0 rfl ?_
  refine i_get (i := 0) (j := 0) (f := 5) (q := 4) C rfl rfl rfl hi_X8_clear_X8 (by decide) lk_X8_clear_53 rfl dX8_clear_1 rfl ?_
  refine i_istore_n (q := 5) (lv' := [(1, vI tm), (0, vP (am 0))]) C rfl (by decide) rfl dX8_clear_4 rfl ?_
  refine i_aload_n (j := 1) (q := 6) C rfl rfl dX8_clear_5 rfl ?_
  refine i_iconst (q := 7) C dX8_clear_6 rfl ?_
  refine i_putI (i := 0) (j := 0) (f := 5) (q := 10) (cs' := [mdW am (st, bk, un, ck, ty, 0, tx, ln, rf, dg, dn, rk, pl, iw, wd, wm, od, oc)]) C rfl rfl rfl hi_X8_clear_X8 tyX8 tyX8_ok nmX8 (by decide) (Nat.le_of_ble_eq_true rfl) lk_X8_clear_53 rfl rfl dX8_clear_7 rfl rfl ?_
  refine i_iload_n (j := 0) (q := 11) C rfl rfl dX8_clear_10 rfl ?_
  refine i_iret C hR dX8_clear_11 ?_
  have hsp : (sp_clear  (absM st bk un ck ty tm tx ln rf)) = (tm, absM st bk un ck ty 0 tx ln rf) := by
    unfold absM
    simp only [sp_clear]
    rw [rg_len, Int.toNat_of_nonneg htm.1, ← rg_0 ty (n := 0) (by omega)]
  exact ⟨0, by rw [hsp], rfl, by rw [hsp] <;> exact rfl, (hm.typ (by omega) (fun k g0 g1 => by omega)).s hN⟩
