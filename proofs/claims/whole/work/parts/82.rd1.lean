theorem lk_X8_here_168 : Cond.fieldLink RX8 168 (TX8 12).1 (TX8 12).2.1 (TX8 12).2.2.1 ∈ wsX8_here := List.mem_of_getElem? (i := 1) rfl
theorem hi_X8_here_X8 : ∀ w ∈ u_ws RX8 TX8 18, w ∈ wsX8_here := by decide +kernel
theorem lk_X8_here_56 : Cond.fieldLink RX8 56 (TX8 7).1 (TX8 7).2.1 (TX8 7).2.2.1 ∈ wsX8_here := List.mem_of_getElem? (i := 2) rfl
theorem lk_X8_here_20 : Cond.fieldLink RX8 20 (TX8 6).1 (TX8 6).2.1 (TX8 6).2.2.1 ∈ wsX8_here := List.mem_of_getElem? (i := 3) rfl
set_option maxHeartbeats 400000 in
set_option maxRecDepth 100000 in
theorem c_X8_here (K : KT) (l : Launch) (am : Nat → Nat) (st : Int → Int) (bk : Int → Int) (un : Int) (ck : Int) (ty : Int → Int) (tm : Int) (tx : Int → Int) (ln : Int) (rf : Int → Int) (dg : Int) (dn : Int → Int) (rk : Int → Int) (pl : Int) (iw : Int) (wd : Int → Int) (wm : Int) (od : Int → Int) (oc : Int) (hln : 0 ≤ ln ∧ ln ≤ 120) (htx : ∀ k, 0 ≤ k → k < ln → 0 ≤ tx k ∧ tx k ≤ 127) (hpl : 0 ≤ pl ∧ pl ≤ ln) : Mt K l yX8_here wsX8_here ({ frames := 0, cells := 0, slots := 0, locals := 0 }) [vP (am 0)] [mdW am (st, bk, un, ck, ty, tm, tx, ln, rf, dg, dn, rk, pl, iw, wd, wm, od, oc)] 0 0 (fun v w => v = some (vI ((rg tx ln).getD (nb (rg tx ln) pl).toNat (-1))) ∧ w = [mdW am (st, bk, un, ck, ty, tm, tx, ln, rf, dg, dn, rk, nb (rg tx ln) pl, iw, wd, wm, od, oc)]) := by
  refine Mt.of (own := RX8) (cc := cX8_here) (maxL := 1) (ret := (some .int)) (lv0 := [(0, vP (am 0))]) (by decide) rfl rfl (Nat.le_of_ble_eq_true rfl) rfl (fun X C hR hNm => ?_)
  have join_38 : ∀ (q : Int), (pl ≤ q ∧ q ≤ ln) → (nb (rg tx ln) pl = q) → V X 0 0 38 [(0, vP (am 0))] [] [mdW am (st, bk, un, ck, ty, tm, tx, ln, rf, dg, dn, rk, q, iw, wd, wm, od, oc)] := by
    intro q hq hnb
    refine i_aload_n (j := 0) (q := 39) C rfl rfl dX8_here_38 rfl ?_
    refine i_get (i := 0) (j := 0) (f := 12) (q := 42) C rfl rfl rfl hi_X8_here_X8 (by decide) lk_X8_here_168 rfl dX8_here_39 rfl ?_
    refine i_aload_n (j := 0) (q := 43) C rfl rfl dX8_here_42 rfl ?_
    refine i_get (i := 0) (j := 0) (f := 7) (q := 46) C rfl rfl rfl hi_X8_here_X8 (by decide) lk_X8_here_56 rfl dX8_here_43 rfl ?_
    refine i_icmp_ge (tgt := 61) (q := 49) C (by omega) (by omega) dX8_here_46 (by decide) rfl (fun c_46 => ?_) (fun c_46 => ?_)
    · skip
      refine i_iconst (q := 62) C dX8_here_61 rfl ?_
      refine i_iret C hR dX8_here_62 ?_
      exact ⟨by
        rw [hnb, rg_getD _ _ (by omega), if_neg (by omega)], by rw [hnb]⟩
    · skip
      refine i_aload_n (j := 0) (q := 50) C rfl rfl dX8_here_49 rfl ?_
      refine i_get (i := 0) (j := 0) (f := 6) (q := 53) C rfl rfl rfl hi_X8_here_X8 (by decide) lk_X8_here_20 rfl dX8_here_50 rfl ?_
      refine i_aload_n (j := 0) (q := 54) C rfl rfl dX8_here_53 rfl ?_
      refine i_get (i := 0) (j := 0) (f := 12) (q := 57) C rfl rfl rfl hi_X8_here_X8 (by decide) lk_X8_here_168 rfl dX8_here_54 rfl ?_
      refine i_iald (i := 0) (j := 4) (q := 58) C rfl rfl (by omega) dX8_here_57 rfl ?_
      have ld_57 := htx q (by omega) (by omega)
      refine i_goto (q := 62) C dX8_here_58 (by decide) ?_
      refine i_iret C hR dX8_here_62 ?_
      exact ⟨by
        rw [hnb, rg_getD _ _ (by omega), if_pos (by omega)], by rw [hnb]⟩
  have loop_0 : ∀ (fuel : Nat) (q : Int), ((ln - q).toNat) < fuel → (pl ≤ q ∧ q ≤ ln) → (∀ k, pl ≤ k → k < q → tx k = 32) → V X 0 0 0 [(0, vP (am 0))] [] [mdW am (st, bk, un, ck, ty, tm, tx, ln, rf, dg, dn, rk, q, iw, wd, wm, od, oc)] := by
    intro fuel
    induction fuel with
    | zero => intro q hz; exact absurd hz (Nat.not_lt_zero _)
    | succ fuel ih_0 =>
      intro q hfu_0 hq hv
      refine i_aload_n (j := 0) (q := 1) C rfl rfl dX8_here_0 rfl ?_
      refine i_get (i := 0) (j := 0) (f := 12) (q := 4) C rfl rfl rfl hi_X8_here_X8 (by decide) lk_X8_here_168 rfl dX8_here_1 rfl ?_
      refine i_aload_n (j := 0) (q := 5) C rfl rfl dX8_here_4 rfl ?_
      refine i_get (i := 0) (j := 0) (f := 7) (q := 8) C rfl rfl rfl hi_X8_here_X8 (by decide) lk_X8_here_56 rfl dX8_here_5 rfl ?_
      refine i_icmp_ge (tgt := 38) (q := 11) C (by omega) (by omega) dX8_here_8 (by decide) rfl (fun c_8 => ?_) (fun c_8 => ?_)
      · skip
        exact join_38 (q) (by omega) (nb_rg hpl.1 hq.1 hq.2 hv (by first | exact Or.inr c_22 | exact Or.inl (by omega)))
      · skip
        refine i_aload_n (j := 0) (q := 12) C rfl rfl dX8_here_11 rfl ?_
        refine i_get (i := 0) (j := 0) (f := 6) (q := 15) C rfl rfl rfl hi_X8_here_X8 (by decide) lk_X8_here_20 rfl dX8_here_12 rfl ?_
        refine i_aload_n (j := 0) (q := 16) C rfl rfl dX8_here_15 rfl ?_
        refine i_get (i := 0) (j := 0) (f := 12) (q := 19) C rfl rfl rfl hi_X8_here_X8 (by decide) lk_X8_here_168 rfl dX8_here_16 rfl ?_
        refine i_iald (i := 0) (j := 4) (q := 20) C rfl rfl (by omega) dX8_here_19 rfl ?_
        have ld_19 := htx q (by omega) (by omega)
        refine i_bipush (q := 22) C (by decide) dX8_here_20 rfl ?_
        refine i_icmp_ne (tgt := 38) (q := 25) C (by omega) (by omega) dX8_here_22 (by decide) rfl (fun c_22 => ?_) (fun c_22 => ?_)
        · skip
          exact join_38 (q) (by omega) (nb_rg hpl.1 hq.1 hq.2 hv (by first | exact Or.inr c_22 | exact Or.inl (by omega)))
        · skip
          refine i_aload_n (j := 0) (q := 26) C rfl rfl dX8_here_25 rfl ?_
          refine i_dup (q := 27) C rfl dX8_here_26 rfl ?_
          refine i_get (i := 0) (j := 0) (f := 12) (q := 30) C rfl rfl rfl hi_X8_here_X8 (by decide) lk_X8_here_168 rfl dX8_here_27 rfl ?_
          refine i_iconst (q := 31) C dX8_here_30 rfl ?_
          refine i_iadd (q := 32) C dX8_here_31 rfl ?_
          refine i_putI (i := 0) (j := 0) (f := 12) (q := 35) (cs' := [mdW am (st, bk, un, ck, ty, tm, tx, ln, rf, dg, dn, rk, q + 1, iw, wd, wm, od, oc)]) C rfl rfl rfl hi_X8_here_X8 tyX8 tyX8_ok nmX8 (by decide) (Nat.le_of_ble_eq_true rfl) lk_X8_here_168 rfl rfl dX8_here_32 rfl rfl ?_
          refine i_goto (q := 0) C dX8_here_35 (by decide) ?_
          exact ih_0 (q + 1) (by omega) (by omega) (fun k g0 g1 => by
            by_cases e : k = q
            · subst e; exact c_22
            · exact hv k g0 (by omega))
  exact loop_0 _ (pl) (Nat.lt_succ_self _) (by omega) (fun k _ _ => by omega)

theorem hd_X8_here : yX8_here.cls = RX8 ∧ yX8_here.cls ≠ "java/lang/invoke/MethodHandle" ∧ yX8_here.cls ≠ "java/lang/invoke/VarHandle" ∧ (parseMethodDescriptor yX8_here.desc).map (fun d => d.parameters.length) = some 0 := by decide +kernel
theorem lk_X8_run_168 : Cond.fieldLink RX8 168 (TX8 12).1 (TX8 12).2.1 (TX8 12).2.2.1 ∈ wsX8_run := List.mem_of_getElem? (i := 1) rfl
theorem hi_X8_run_X8 : ∀ w ∈ u_ws RX8 TX8 18, w ∈ wsX8_run := by decide +kernel
theorem lk_X8_run_56 : Cond.fieldLink RX8 56 (TX8 7).1 (TX8 7).2.1 (TX8 7).2.2.1 ∈ wsX8_run := List.mem_of_getElem? (i := 2) rfl
theorem lk_X8_run_20 : Cond.fieldLink RX8 20 (TX8 6).1 (TX8 6).2.1 (TX8 6).2.2.1 ∈ wsX8_run := List.mem_of_getElem? (i := 3) rfl
set_option maxHeartbeats 400000 in
set_option maxRecDepth 100000 in
theorem c_X8_run (K : KT) (l : Launch) (am : Nat → Nat) (st : Int → Int) (bk : Int → Int) (un : Int) (ck : Int) (ty : Int → Int) (tm : Int) (tx : Int → Int) (ln : Int) (rf : Int → Int) (dg : Int) (dn : Int → Int) (rk : Int → Int) (pl : Int) (iw : Int) (wd : Int → Int) (wm : Int) (od : Int → Int) (oc : Int) (x : Int) (y : Int) (hln : 0 ≤ ln ∧ ln ≤ 120) (htx : ∀ k, 0 ≤ k → k < ln → 0 ≤ tx k ∧ tx k ≤ 127) (hpl : 0 ≤ pl ∧ pl ≤ ln) (hx : rI x) (hy : rI y) : Mt K l yX8_run wsX8_run ({ frames := 1, cells := 0, slots := 0, locals := 22 }) [vP (am 0), vI x, vI y] [mdW am (st, bk, un, ck, ty, tm, tx, ln, rf, dg, dn, rk, pl, iw, wd, wm, od, oc)] 0 0 (fun v w => v = some (vI (rn x y (rg tx ln) (nb (rg tx ln) pl))) ∧ w = [mdW am (st, bk, un, ck, ty, tm, tx, ln, rf, dg, dn, rk, nb (rg tx ln) pl, iw, wd, wm, od, oc)]) := by
  refine Mt.of (own := RX8) (cc := cX8_run) (maxL := 4) (ret := (some .int)) (lv0 := [(0, vP (am 0)), (1, vI x), (2, vI y)]) (by decide) rfl rfl (Nat.le_of_ble_eq_true rfl) rfl (fun X C hR hNm => ?_)
  have hTl : (((rg tx ln).length : Nat) : Int) = ln := by rw [rg_len]; omega
  have hnbb := nb_b (rg tx ln) (p := pl) hpl.1 (by omega)
  rw [hTl] at hnbb
  refine i_iconst (q := 1) C dX8_run_0 rfl ?_
  refine i_istore_n (q := 2) (lv' := [(3, vI 0), (0, vP (am 0)), (1, vI x), (2, vI y)]) C rfl (by decide) rfl dX8_run_1 rfl ?_
  refine i_aload_n (j := 1) (q := 3) C rfl rfl dX8_run_2 rfl ?_
  refine i_callV (wr := []) (As := []) (st := []) (i := 0) (j := 0) (q := 6) C (c_X8_here K l (am) (st) (bk) (un) (ck) (ty) (tm) (tx) (ln) (rf) (dg) (dn) (rk) (pl) (iw) (wd) (wm) (od) (oc) (by first | assumption | omega) (by first | assumption | omega) (by first | assumption | omega)) gX8_run_X8_here rfl hd_X8_here ⟨Nat.le_of_ble_eq_true rfl, Nat.le_of_ble_eq_true rfl⟩ ⟨rfl, rfl⟩ ⟨Nat.le_of_ble_eq_true rfl, Nat.le_of_ble_eq_true rfl⟩ (permBy [0] (by decide) rfl rfl) rfl rfl rfl rfl (Nat.le_of_ble_eq_true rfl) dX8_run_3 rfl (fun v w hq => ?_)
  obtain ⟨rfl, rfl⟩ := hq
  show V X 0 0 6 [(3, vI 0), (0, vP (am 0)), (1, vI x), (2, vI y)] [vI ((rg tx ln).getD (nb (rg tx ln) pl).toNat (-1))] [mdW am (st, bk, un, ck, ty, tm, tx, ln, rf, dg, dn, rk, nb (rg tx ln) pl, iw, wd, wm, od, oc)]
  refine i_pop (q := 7) C rfl dX8_run_6 rfl ?_
  have loop_7 : ∀ (fuel : Nat) (n : Int), ((ln - n).toNat) < fuel → (0 ≤ n ∧ nb (rg tx ln) pl + n ≤ ln) → (∀ k, nb (rg tx ln) pl ≤ k → k < nb (rg tx ln) pl + n → x ≤ tx k ∧ tx k ≤ y) → V X 0 0 7 [(0, vP (am 0)), (1, vI x), (2, vI y), (3, vI n)] [] [mdW am (st, bk, un, ck, ty, tm, tx, ln, rf, dg, dn, rk, nb (rg tx ln) pl, iw, wd, wm, od, oc)] := by
    intro fuel
    induction fuel with
    | zero => intro n hz; exact absurd hz (Nat.not_lt_zero _)
    | succ fuel ih_7 =>
      intro n hfu_7 hn hv
      refine i_aload_n (j := 0) (q := 8) C rfl rfl dX8_run_7 rfl ?_
      refine i_get (i := 0) (j := 0) (f := 12) (q := 11) C rfl rfl rfl hi_X8_run_X8 (by decide) lk_X8_run_168 rfl dX8_run_8 rfl ?_
      refine i_iload_n (j := 3) (q := 12) C rfl rfl dX8_run_11 rfl ?_
      refine i_iadd (q := 13) C dX8_run_12 rfl ?_
      refine i_aload_n (j := 0) (q := 14) C rfl rfl dX8_run_13 rfl ?_
      refine i_get (i := 0) (j := 0) (f := 7) (q := 17) C rfl rfl rfl hi_X8_run_X8 (by decide) lk_X8_run_56 rfl dX8_run_14 rfl ?_
      refine i_icmp_ge (tgt := 45) (q := 20) C (by omega) (by omega) dX8_run_17 (by decide) rfl (fun c_17 => ?_) (fun c_17 => ?_)
      · skip
        refine i_iload_n (j := 3) (q := 46) C rfl rfl dX8_run_45 rfl ?_
        refine i_iret C hR dX8_run_46 ?_
        have hrn : rn x y (rg tx ln) (nb (rg tx ln) pl) = n := by
          rw [rn_rg (q := nb (rg tx ln) pl + n) (by omega) (by omega) hn.2 hv (by first | exact Or.inr h_36 | exact Or.inl (by omega))]
          omega
        exact ⟨by rw [hrn], rfl⟩
      · skip
        refine i_aload_n (j := 0) (q := 21) C rfl rfl dX8_run_20 rfl ?_
        refine i_get (i := 0) (j := 0) (f := 6) (q := 24) C rfl rfl rfl hi_X8_run_X8 (by decide) lk_X8_run_20 rfl dX8_run_21 rfl ?_
        refine i_aload_n (j := 0) (q := 25) C rfl rfl dX8_run_24 rfl ?_
        refine i_get (i := 0) (j := 0) (f := 12) (q := 28) C rfl rfl rfl hi_X8_run_X8 (by decide) lk_X8_run_168 rfl dX8_run_25 rfl ?_
        refine i_iload_n (j := 3) (q := 29) C rfl rfl dX8_run_28 rfl ?_
        refine i_iadd (q := 30) C dX8_run_29 rfl ?_
        refine i_iald (i := 0) (j := 4) (q := 31) C rfl rfl (by omega) dX8_run_30 rfl ?_
        have ld_30 := htx (nb (rg tx ln) pl + n) (by omega) (by omega)
        refine i_iload_n (j := 1) (q := 32) C rfl rfl dX8_run_31 rfl ?_
        refine i_iload_n (j := 2) (q := 33) C rfl rfl dX8_run_32 rfl ?_
        refine i_callS (wr := [mdW am (st, bk, un, ck, ty, tm, tx, ln, rf, dg, dn, rk, nb (rg tx ln) pl, iw, wd, wm, od, oc)]) (As := [vI (tx ((nb (rg tx ln) pl) + n)), vI x, vI y]) (st := []) (q := 36) C (c_X8_in K l (tx ((nb (rg tx ln) pl) + n)) (x) (y) (by omega) (by omega) (by omega)) gX8_run_X8_in rfl hd_X8_in ⟨Nat.le_of_ble_eq_true rfl, Nat.le_of_ble_eq_true rfl⟩ ⟨rfl, rfl⟩ ⟨Nat.le_of_ble_eq_true rfl, Nat.le_of_ble_eq_true rfl⟩ (permBy [0] (by decide) rfl rfl) rfl (Nat.le_of_ble_eq_true rfl) dX8_run_33 rfl (fun v w hq => ?_)
        obtain ⟨rfl, rfl⟩ := hq
        show V X 0 0 36 [(0, vP (am 0)), (1, vI x), (2, vI y), (3, vI n)] [vI (if x ≤ (tx ((nb (rg tx ln) pl) + n)) ∧ (tx ((nb (rg tx ln) pl) + n)) ≤ y then 1 else 0)] [mdW am (st, bk, un, ck, ty, tm, tx, ln, rf, dg, dn, rk, nb (rg tx ln) pl, iw, wd, wm, od, oc)]
        refine i_if_eq (tgt := 45) (q := 39) C (if01) dX8_run_36 (by decide) rfl (fun c_36 => ?_) (fun c_36 => ?_)
        · skip
          have h_36 := if0 c_36
          refine i_iload_n (j := 3) (q := 46) C rfl rfl dX8_run_45 rfl ?_
          refine i_iret C hR dX8_run_46 ?_
          have hrn : rn x y (rg tx ln) (nb (rg tx ln) pl) = n := by
            rw [rn_rg (q := nb (rg tx ln) pl + n) (by omega) (by omega) hn.2 hv (by first | exact Or.inr h_36 | exact Or.inl (by omega))]
            omega
          exact ⟨by rw [hrn], rfl⟩
        · skip
          have h_36 := ifn0 c_36
          refine i_iinc (j := 3) (q := 42) (lv' := [(3, vI (n + 1)), (0, vP (am 0)), (1, vI x), (2, vI y)]) C rfl (by decide) rfl dX8_run_39 rfl ?_
          refine i_goto (q := 7) C dX8_run_42 (by decide) ?_
          refine V.lv [1, 2, 3, 0] rfl ?_
          exact ih_7 (n + 1) (by omega) (by omega) (fun k g0 g1 => by
            by_cases e : k = nb (rg tx ln) pl + n
            · subst e; exact h_36
            · exact hv k g0 (by omega))
  refine V.lv [1, 2, 3, 0] rfl ?_
  exact loop_7 _ (0) (Nat.lt_succ_self _) (by omega) (fun k _ _ => by omega)

theorem lk_X8_isName_20 : Cond.fieldLink RX8 20 (TX8 6).1 (TX8 6).2.1 (TX8 6).2.2.1 ∈ wsX8_isName := List.mem_of_getElem? (i := 1) rfl
theorem hi_X8_isName_X8 : ∀ w ∈ u_ws RX8 TX8 18, w ∈ wsX8_isName := by decide +kernel
theorem lk_X8_isName_168 : Cond.fieldLink RX8 168 (TX8 12).1 (TX8 12).2.1 (TX8 12).2.2.1 ∈ wsX8_isName := List.mem_of_getElem? (i := 2) rfl
set_option maxHeartbeats 400000 in
set_option maxRecDepth 100000 in
theorem c_X8_isName (K : KT) (l : Launch) (am : Nat → Nat) (st : Int → Int) (bk : Int → Int) (un : Int) (ck : Int) (ty : Int → Int) (tm : Int) (tx : Int → Int) (ln : Int) (rf : Int → Int) (dg : Int) (dn : Int → Int) (rk : Int → Int) (pl : Int) (iw : Int) (wd : Int → Int) (wm : Int) (od : Int → Int) (oc : Int) (a : Int) (b : Int) (c : Int) (d : Int) (e : Int) (n : Int) (hln : 0 ≤ ln ∧ ln ≤ 120) (htx : ∀ k, 0 ≤ k → k < ln → 0 ≤ tx k ∧ tx k ≤ 127) (hpl : 0 ≤ pl ∧ pl ≤ ln) (hn : 0 ≤ n ∧ n ≤ 5 ∧ pl + n ≤ ln) (ha : rI a) (hb : rI b) (hc : rI c) (hd : rI d) (he : rI e) : Mt K l yX8_isName wsX8_isName ({ frames := 0, cells := 0, slots := 0, locals := 0 }) [vP (am 0), vI a, vI b, vI c, vI d, vI e, vI n] [mdW am (st, bk, un, ck, ty, tm, tx, ln, rf, dg, dn, rk, pl, iw, wd, wm, od, oc)] 0 0 (fun v w => v = some (vI (if sli (rg tx ln) pl n = rg (nme a b c d e) n then 1 else 0)) ∧ w = [mdW am (st, bk, un, ck, ty, tm, tx, ln, rf, dg, dn, rk, pl, iw, wd, wm, od, oc)]) := by
  refine Mt.of (own := RX8) (cc := cX8_isName) (maxL := 9) (ret := (some .boolean)) (lv0 := [(0, vP (am 0)), (1, vI a), (2, vI b), (3, vI c), (4, vI d), (5, vI e), (6, vI n)]) (by decide) rfl rfl (Nat.le_of_ble_eq_true rfl) rfl (fun X C hR hNm => ?_)
  refine i_iload (j := 6) (q := 2) C rfl dX8_isName_0 rfl ?_
  refine i_bipush (q := 4) C (by decide) dX8_isName_2 rfl ?_
  refine i_icmp_ge (tgt := 11) (q := 7) C (by omega) (by omega) dX8_isName_4 (by decide) rfl (fun c_4 => ?_) (fun c_4 => ?_)
  · skip
    exact absurd c_4 (by omega)
  · skip
    refine i_iconst (q := 8) C dX8_isName_7 rfl ?_
    refine i_goto (q := 12) C dX8_isName_8 (by decide) ?_
    refine i_istore (q := 14) (lv' := [(7, vI 1), (0, vP (am 0)), (1, vI a), (2, vI b), (3, vI c), (4, vI d), (5, vI e), (6, vI n)]) C (by decide) rfl dX8_isName_12 rfl ?_
    refine i_iconst (q := 15) C dX8_isName_14 rfl ?_
    refine i_istore (q := 17) (lv' := [(8, vI 0), (7, vI 1), (0, vP (am 0)), (1, vI a), (2, vI b), (3, vI c), (4, vI d), (5, vI e), (6, vI n)]) C (by decide) rfl dX8_isName_15 rfl ?_
    have loop_17 : ∀ (fuel : Nat) (k : Int) (bb : Int), ((n - k).toNat) < fuel → (0 ≤ k ∧ k ≤ n) → ((bb = 1 ∧ ∀ j, 0 ≤ j → j < k → tx (pl + j) = nme a b c d e j) ∨ (bb = 0 ∧ ¬ (∀ j, 0 ≤ j → j < n → tx (pl + j) = nme a b c d e j))) → V X 0 0 17 [(0, vP (am 0)), (1, vI a), (2, vI b), (3, vI c), (4, vI d), (5, vI e), (6, vI n), (7, vI bb), (8, vI k)] [] [mdW am (st, bk, un, ck, ty, tm, tx, ln, rf, dg, dn, rk, pl, iw, wd, wm, od, oc)] := by
      intro fuel
      induction fuel with
      | zero => intro k bb hz; exact absurd hz (Nat.not_lt_zero _)
      | succ fuel ih_17 =>
        intro k bb hfu_17 hk hb2
        refine i_iload (j := 8) (q := 19) C rfl dX8_isName_17 rfl ?_
        refine i_iload (j := 6) (q := 21) C rfl dX8_isName_19 rfl ?_
        refine i_icmp_ge (tgt := 99) (q := 24) C (by omega) (by omega) dX8_isName_21 (by decide) rfl (fun c_21 => ?_) (fun c_21 => ?_)
        · skip
          refine i_iload (j := 7) (q := 101) C rfl dX8_isName_99 rfl ?_
          refine i_zret C hR (by omega) dX8_isName_101 ?_
          have hne := nme_eq (tx := tx) (ln := ln) (pl := pl) (n := n) (a := a) (b := b) (c := c) (d := d) (e := e) hpl.1 hn.1 hn.2.2
          exact ⟨by
            simp only [Option.some.injEq, Sum.inl.injEq]
            rcases hb2 with h | h
            · rw [if_pos (hne.mpr (fun j g0 g1 => h.2 j g0 (by omega)))]; exact h.1
            · rw [if_neg (fun z => h.2 (hne.mp z))]; exact h.1, rfl⟩
        · skip
          refine i_iload (j := 7) (q := 26) C rfl dX8_isName_24 rfl ?_
          skip
          refine i_if_eq (tgt := 99) (q := 29) C (by omega) dX8_isName_26 (by decide) rfl (fun c_26 => ?_) (fun c_26 => ?_)
          · skip
            refine i_iload (j := 7) (q := 101) C rfl dX8_isName_99 rfl ?_
            refine i_zret C hR (by omega) dX8_isName_101 ?_
            have hne := nme_eq (tx := tx) (ln := ln) (pl := pl) (n := n) (a := a) (b := b) (c := c) (d := d) (e := e) hpl.1 hn.1 hn.2.2
            exact ⟨by
              simp only [Option.some.injEq, Sum.inl.injEq]
              rcases hb2 with h | h
              · rw [if_pos (hne.mpr (fun j g0 g1 => h.2 j g0 (by omega)))]; exact h.1
              · rw [if_neg (fun z => h.2 (hne.mp z))]; exact h.1, rfl⟩
          · skip
            have hyes : ∀ j, 0 ≤ j → j < k → tx (pl + j) = nme a b c d e j := by
              rcases hb2 with h | h
              · exact h.2
              · omega
            refine i_aload_n (j := 0) (q := 30) C rfl rfl dX8_isName_29 rfl ?_
            refine i_get (i := 0) (j := 0) (f := 6) (q := 33) C rfl rfl rfl hi_X8_isName_X8 (by decide) lk_X8_isName_20 rfl dX8_isName_30 rfl ?_
            refine i_aload_n (j := 0) (q := 34) C rfl rfl dX8_isName_33 rfl ?_
            refine i_get (i := 0) (j := 0) (f := 12) (q := 37) C rfl rfl rfl hi_X8_isName_X8 (by decide) lk_X8_isName_168 rfl dX8_isName_34 rfl ?_
            refine i_iload (j := 8) (q := 39) C rfl dX8_isName_37 rfl ?_
            refine i_iadd (q := 40) C dX8_isName_39 rfl ?_
            refine i_iald (i := 0) (j := 4) (q := 41) C rfl rfl (by omega) dX8_isName_40 rfl ?_
            have ld_40 := htx (pl + k) (by omega) (by omega)
            have join_83 : ∀ (q : Int), (q = nme a b c d e k) → (rI q) → V X 0 0 83 [(0, vP (am 0)), (1, vI a), (2, vI b), (3, vI c), (4, vI d), (5, vI e), (6, vI n), (7, vI bb), (8, vI k)] [vI q, vI (tx (pl + k))] [mdW am (st, bk, un, ck, ty, tm, tx, ln, rf, dg, dn, rk, pl, iw, wd, wm, od, oc)] := by
              intro q hq hqr
              refine i_icmp_ne (tgt := 90) (q := 86) C (by omega) (by omega) dX8_isName_83 (by decide) rfl (fun c_83 => ?_) (fun c_83 => ?_)
              · skip
                refine i_iconst (q := 91) C dX8_isName_90 rfl ?_
                refine i_istore (q := 93) (lv' := [(7, vI 0), (0, vP (am 0)), (1, vI a), (2, vI b), (3, vI c), (4, vI d), (5, vI e), (6, vI n), (8, vI k)]) C (by decide) rfl dX8_isName_91 rfl ?_
                refine i_iinc (j := 8) (q := 96) (lv' := [(8, vI (k + 1)), (7, vI 0), (0, vP (am 0)), (1, vI a), (2, vI b), (3, vI c), (4, vI d), (5, vI e), (6, vI n)]) C rfl (by decide) rfl dX8_isName_93 rfl ?_
                refine i_goto (q := 17) C dX8_isName_96 (by decide) ?_
                refine V.lv [2, 3, 4, 5, 6, 7, 8, 1, 0] rfl ?_
                exact ih_17 (k + 1) (0) (by omega) (by omega) (by
                  first
                    | exact Or.inr ⟨rfl, fun z => c_83 (by rw [z k (by omega) (by omega), hq])⟩
                    | exact Or.inl ⟨rfl, fun j g0 g1 => by
                        by_cases e9 : j = k
                        · subst e9; rw [c_83, hq]
                        · exact hyes j g0 (by omega)⟩)
              · skip
                refine i_iconst (q := 87) C dX8_isName_86 rfl ?_
                refine i_goto (q := 91) C dX8_isName_87 (by decide) ?_
                refine i_istore (q := 93) (lv' := [(7, vI 1), (0, vP (am 0)), (1, vI a), (2, vI b), (3, vI c), (4, vI d), (5, vI e), (6, vI n), (8, vI k)]) C (by decide) rfl dX8_isName_91 rfl ?_
                refine i_iinc (j := 8) (q := 96) (lv' := [(8, vI (k + 1)), (7, vI 1), (0, vP (am 0)), (1, vI a), (2, vI b), (3, vI c), (4, vI d), (5, vI e), (6, vI n)]) C rfl (by decide) rfl dX8_isName_93 rfl ?_
                refine i_goto (q := 17) C dX8_isName_96 (by decide) ?_
                refine V.lv [2, 3, 4, 5, 6, 7, 8, 1, 0] rfl ?_
                exact ih_17 (k + 1) (1) (by omega) (by omega) (by
                  first
                    | exact Or.inr ⟨rfl, fun z => c_83 (by rw [z k (by omega) (by omega), hq])⟩
                    | exact Or.inl ⟨rfl, fun j g0 g1 => by
                        by_cases e9 : j = k
                        · subst e9; rw [c_83, hq]
                        · exact hyes j g0 (by omega)⟩)
            refine i_iload (j := 8) (q := 43) C rfl dX8_isName_41 rfl ?_
            refine i_if_ne (tgt := 50) (q := 46) C (by omega) dX8_isName_43 (by decide) rfl (fun c_43 => ?_) (fun c_43 => ?_)
            · skip
              refine i_iload (j := 8) (q := 52) C rfl dX8_isName_50 rfl ?_
              refine i_iconst (q := 53) C dX8_isName_52 rfl ?_
              refine i_icmp_ne (tgt := 60) (q := 56) C (by omega) (by omega) dX8_isName_53 (by decide) rfl (fun c_53 => ?_) (fun c_53 => ?_)
              · skip
                refine i_iload (j := 8) (q := 62) C rfl dX8_isName_60 rfl ?_
                refine i_iconst (q := 63) C dX8_isName_62 rfl ?_
                refine i_icmp_ne (tgt := 70) (q := 66) C (by omega) (by omega) dX8_isName_63 (by decide) rfl (fun c_63 => ?_) (fun c_63 => ?_)
                · skip
                  refine i_iload (j := 8) (q := 72) C rfl dX8_isName_70 rfl ?_
                  refine i_iconst (q := 73) C dX8_isName_72 rfl ?_
                  refine i_icmp_ne (tgt := 81) (q := 76) C (by omega) (by omega) dX8_isName_73 (by decide) rfl (fun c_73 => ?_) (fun c_73 => ?_)
                  · skip
                    refine i_iload (j := 5) (q := 83) C rfl dX8_isName_81 rfl ?_
                    exact join_83 (e) (by unfold nme; first | rw [if_pos (by omega)] | rw [if_neg (by omega), if_pos (by omega)] | rw [if_neg (by omega), if_neg (by omega), if_pos (by omega)] | rw [if_neg (by omega), if_neg (by omega), if_neg (by omega), if_pos (by omega)] | rw [if_neg (by omega), if_neg (by omega), if_neg (by omega), if_neg (by omega)]) (by omega)
                  · skip
                    refine i_iload (j := 4) (q := 78) C rfl dX8_isName_76 rfl ?_
                    refine i_goto (q := 83) C dX8_isName_78 (by decide) ?_
                    exact join_83 (d) (by unfold nme; first | rw [if_pos (by omega)] | rw [if_neg (by omega), if_pos (by omega)] | rw [if_neg (by omega), if_neg (by omega), if_pos (by omega)] | rw [if_neg (by omega), if_neg (by omega), if_neg (by omega), if_pos (by omega)] | rw [if_neg (by omega), if_neg (by omega), if_neg (by omega), if_neg (by omega)]) (by omega)
                · skip
                  refine i_iload_n (j := 3) (q := 67) C rfl rfl dX8_isName_66 rfl ?_
                  refine i_goto (q := 83) C dX8_isName_67 (by decide) ?_
                  exact join_83 (c) (by unfold nme; first | rw [if_pos (by omega)] | rw [if_neg (by omega), if_pos (by omega)] | rw [if_neg (by omega), if_neg (by omega), if_pos (by omega)] | rw [if_neg (by omega), if_neg (by omega), if_neg (by omega), if_pos (by omega)] | rw [if_neg (by omega), if_neg (by omega), if_neg (by omega), if_neg (by omega)]) (by omega)
              · skip
                refine i_iload_n (j := 2) (q := 57) C rfl rfl dX8_isName_56 rfl ?_
                refine i_goto (q := 83) C dX8_isName_57 (by decide) ?_
                exact join_83 (b) (by unfold nme; first | rw [if_pos (by omega)] | rw [if_neg (by omega), if_pos (by omega)] | rw [if_neg (by omega), if_neg (by omega), if_pos (by omega)] | rw [if_neg (by omega), if_neg (by omega), if_neg (by omega), if_pos (by omega)] | rw [if_neg (by omega), if_neg (by omega), if_neg (by omega), if_neg (by omega)]) (by omega)
            · skip
              refine i_iload_n (j := 1) (q := 47) C rfl rfl dX8_isName_46 rfl ?_
              refine i_goto (q := 83) C dX8_isName_47 (by decide) ?_
              exact join_83 (a) (by unfold nme; first | rw [if_pos (by omega)] | rw [if_neg (by omega), if_pos (by omega)] | rw [if_neg (by omega), if_neg (by omega), if_pos (by omega)] | rw [if_neg (by omega), if_neg (by omega), if_neg (by omega), if_pos (by omega)] | rw [if_neg (by omega), if_neg (by omega), if_neg (by omega), if_neg (by omega)]) (by omega)
    refine V.lv [2, 3, 4, 5, 6, 7, 8, 1, 0] rfl ?_
    exact loop_17 _ (0) (1) (Nat.lt_succ_self _) (by omega) (Or.inl ⟨rfl, fun j _ _ => by omega⟩)

theorem hd_X8_run : yX8_run.cls = RX8 ∧ yX8_run.cls ≠ "java/lang/invoke/MethodHandle" ∧ yX8_run.cls ≠ "java/lang/invoke/VarHandle" ∧ (parseMethodDescriptor yX8_run.desc).map (fun d => d.parameters.length) = some 2 := by decide +kernel
theorem lk_X8_nameOf_181 : Cond.fieldLink RX8 181 (TX8 13).1 (TX8 13).2.1 (TX8 13).2.2.1 ∈ wsX8_nameOf := List.mem_of_getElem? (i := 1) rfl
theorem hi_X8_nameOf_X8 : ∀ w ∈ u_ws RX8 TX8 18, w ∈ wsX8_nameOf := by decide +kernel
theorem lk_X8_nameOf_168 : Cond.fieldLink RX8 168 (TX8 12).1 (TX8 12).2.1 (TX8 12).2.2.1 ∈ wsX8_nameOf := List.mem_of_getElem? (i := 2) rfl
theorem hd_X8_isName : yX8_isName.cls = RX8 ∧ yX8_isName.cls ≠ "java/lang/invoke/MethodHandle" ∧ yX8_isName.cls ≠ "java/lang/invoke/VarHandle" ∧ (parseMethodDescriptor yX8_isName.desc).map (fun d => d.parameters.length) = some 6 := by decide +kernel
set_option maxHeartbeats 400000 in
set_option maxRecDepth 100000 in
theorem c_X8_nameOf (K : KT) (l : Launch) (am : Nat → Nat) (st : Int → Int) (bk : Int → Int) (un : Int) (ck : Int) (ty : Int → Int) (tm : Int) (tx : Int → Int) (ln : Int) (rf : Int → Int) (dg : Int) (dn : Int → Int) (rk : Int → Int) (pl : Int) (iw : Int) (wd : Int → Int) (wm : Int) (od : Int → Int) (oc : Int) (hln : 0 ≤ ln ∧ ln ≤ 120) (htx : ∀ k, 0 ≤ k → k < ln → 0 ≤ tx k ∧ tx k ≤ 127) (hpl : 0 ≤ pl ∧ pl ≤ ln) : Mt K l yX8_nameOf wsX8_nameOf ({ frames := 2, cells := 0, slots := 0, locals := 45 }) [vP (am 0)] [mdW am (st, bk, un, ck, ty, tm, tx, ln, rf, dg, dn, rk, pl, iw, wd, wm, od, oc)] 0 0 (fun v w => v = some (vI ((pV (rg tx ln) pl).2.2)) ∧ w = [mdW am (st, bk, un, ck, ty, tm, tx, ln, rf, dg, dn, rk, (pV (rg tx ln) pl).2.1, (pV (rg tx ln) pl).1, wd, wm, od, oc)]) := by
  refine Mt.of (own := RX8) (cc := cX8_nameOf) (maxL := 3) (ret := (some .int)) (lv0 := [(0, vP (am 0))]) (by decide) rfl rfl (Nat.le_of_ble_eq_true rfl) rfl (fun X C hR hNm => ?_)
  have hTl : (((rg tx ln).length : Nat) : Int) = ln := by rw [rg_len]; omega
  have hnbb := nb_b (rg tx ln) (p := pl) hpl.1 (by omega)
  rw [hTl] at hnbb
  refine i_aload_n (j := 0) (q := 1) C rfl rfl dX8_nameOf_0 rfl ?_
  refine i_bipush (q := 3) C (by decide) dX8_nameOf_1 rfl ?_
  refine i_bipush (q := 5) C (by decide) dX8_nameOf_3 rfl ?_
  refine i_callV (wr := []) (As := [vI 97, vI 122]) (st := []) (i := 0) (j := 0) (q := 8) C (c_X8_run K l (am) (st) (bk) (un) (ck) (ty) (tm) (tx) (ln) (rf) (dg) (dn) (rk) (pl) (iw) (wd) (wm) (od) (oc) (97) (122) (by first | assumption | omega) (by first | assumption | omega) (by first | assumption | omega) (by first | assumption | omega) (by first | assumption | omega)) gX8_nameOf_X8_run rfl hd_X8_run ⟨Nat.le_of_ble_eq_true rfl, Nat.le_of_ble_eq_true rfl⟩ ⟨rfl, rfl⟩ ⟨Nat.le_of_ble_eq_true rfl, Nat.le_of_ble_eq_true rfl⟩ (permBy [0] (by decide) rfl rfl) rfl rfl rfl rfl (Nat.le_of_ble_eq_true rfl) dX8_nameOf_5 rfl (fun v w hq => ?_)
  obtain ⟨rfl, rfl⟩ := hq
  show V X 0 0 8 [(0, vP (am 0))] [vI (rn 97 122 (rg tx ln) (nb (rg tx ln) pl))] [mdW am (st, bk, un, ck, ty, tm, tx, ln, rf, dg, dn, rk, nb (rg tx ln) pl, iw, wd, wm, od, oc)]
  have hrnb := twl_b (fun c => decide (97 ≤ c) && decide (c ≤ 122)) (rg tx ln) (p := nb (rg tx ln) pl) (by omega) (by omega)
  rw [hTl] at hrnb
  have hr2 : 0 ≤ rn 97 122 (rg tx ln) (nb (rg tx ln) pl) ∧ nb (rg tx ln) pl + rn 97 122 (rg tx ln) (nb (rg tx ln) pl) ≤ ln := hrnb
  have hsl := sli_len (T := (rg tx ln)) (p := nb (rg tx ln) pl) (k := rn 97 122 (rg tx ln) (nb (rg tx ln) pl)) (by omega) hr2.1 (by omega)
  refine i_istore_n (q := 9) (lv' := [(1, vI (rn 97 122 (rg tx ln) (nb (rg tx ln) pl))), (0, vP (am 0))]) C rfl (by decide) rfl dX8_nameOf_8 rfl ?_
  have join_193 : ∀ (m : Int), (m = nmv (sli (rg tx ln) (nb (rg tx ln) pl) (rn 97 122 (rg tx ln) (nb (rg tx ln) pl)))) → V X 0 0 193 [(0, vP (am 0)), (1, vI (rn 97 122 (rg tx ln) (nb (rg tx ln) pl)))] [vI m] [mdW am (st, bk, un, ck, ty, tm, tx, ln, rf, dg, dn, rk, nb (rg tx ln) pl, iw, wd, wm, od, oc)] := by
    intro m hm
    refine i_istore_n (q := 194) (lv' := [(2, vI m), (0, vP (am 0)), (1, vI (rn 97 122 (rg tx ln) (nb (rg tx ln) pl)))]) C rfl (by decide) rfl dX8_nameOf_193 rfl ?_
    refine i_aload_n (j := 1) (q := 195) C rfl rfl dX8_nameOf_194 rfl ?_
    refine i_iload_n (j := 0) (q := 196) C rfl rfl dX8_nameOf_195 rfl ?_
    refine i_if_ne (tgt := 203) (q := 199) C (by rw [hm]; exact nmv_r _) dX8_nameOf_196 (by decide) rfl (fun c_196 => ?_) (fun c_196 => ?_)
    · skip
      refine i_iconst (q := 204) C dX8_nameOf_203 rfl ?_
      refine i_putZ (i := 0) (j := 0) (f := 13) (q := 207) (cs' := [mdW am (st, bk, un, ck, ty, tm, tx, ln, rf, dg, dn, rk, nb (rg tx ln) pl, 0, wd, wm, od, oc)]) C rfl rfl rfl hi_X8_nameOf_X8 tyX8 tyX8_ok nmX8 (by decide) (Nat.le_of_ble_eq_true rfl) lk_X8_nameOf_181 rfl rfl (by omega) dX8_nameOf_204 rfl rfl ?_
      refine i_aload_n (j := 1) (q := 208) C rfl rfl dX8_nameOf_207 rfl ?_
      refine i_dup (q := 209) C rfl dX8_nameOf_208 rfl ?_
      refine i_get (i := 0) (j := 0) (f := 12) (q := 212) C rfl rfl rfl hi_X8_nameOf_X8 (by decide) lk_X8_nameOf_168 rfl dX8_nameOf_209 rfl ?_
      refine i_aload_n (j := 1) (q := 213) C rfl rfl dX8_nameOf_212 rfl ?_
      refine i_get (i := 0) (j := 0) (f := 13) (q := 216) C rfl rfl rfl hi_X8_nameOf_X8 (by decide) lk_X8_nameOf_181 rfl dX8_nameOf_213 rfl ?_
      refine i_if_eq (tgt := 223) (q := 219) C (by omega) dX8_nameOf_216 (by decide) rfl (fun c_216 => ?_) (fun c_216 => ?_)
      · skip
        refine i_iload_n (j := 2) (q := 224) C rfl rfl dX8_nameOf_223 rfl ?_
        refine i_iadd (q := 225) C dX8_nameOf_224 rfl ?_
        refine i_putI (i := 0) (j := 0) (f := 12) (q := 228) (cs' := [mdW am (st, bk, un, ck, ty, tm, tx, ln, rf, dg, dn, rk, (nb (rg tx ln) pl) + (rn 97 122 (rg tx ln) (nb (rg tx ln) pl)), 0, wd, wm, od, oc)]) C rfl rfl rfl hi_X8_nameOf_X8 tyX8 tyX8_ok nmX8 (by decide) (Nat.le_of_ble_eq_true rfl) lk_X8_nameOf_168 rfl rfl dX8_nameOf_225 rfl rfl ?_
        refine i_iload_n (j := 0) (q := 229) C rfl rfl dX8_nameOf_228 rfl ?_
        refine i_iret C hR dX8_nameOf_229 ?_
        have hpv : pV (rg tx ln) pl = (0, nb (rg tx ln) pl + rn 97 122 (rg tx ln) (nb (rg tx ln) pl), m) := by unfold pV; rw [← hm, if_neg c_196]
        exact ⟨by rw [hpv], by rw [hpv]⟩
      · skip
        exact absurd rfl c_216
    · skip
      refine i_iconst (q := 200) C dX8_nameOf_199 rfl ?_
      refine i_goto (q := 204) C dX8_nameOf_200 (by decide) ?_
      refine i_putZ (i := 0) (j := 0) (f := 13) (q := 207) (cs' := [mdW am (st, bk, un, ck, ty, tm, tx, ln, rf, dg, dn, rk, nb (rg tx ln) pl, 1, wd, wm, od, oc)]) C rfl rfl rfl hi_X8_nameOf_X8 tyX8 tyX8_ok nmX8 (by decide) (Nat.le_of_ble_eq_true rfl) lk_X8_nameOf_181 rfl rfl (by omega) dX8_nameOf_204 rfl rfl ?_
      refine i_aload_n (j := 1) (q := 208) C rfl rfl dX8_nameOf_207 rfl ?_
      refine i_dup (q := 209) C rfl dX8_nameOf_208 rfl ?_
      refine i_get (i := 0) (j := 0) (f := 12) (q := 212) C rfl rfl rfl hi_X8_nameOf_X8 (by decide) lk_X8_nameOf_168 rfl dX8_nameOf_209 rfl ?_
      refine i_aload_n (j := 1) (q := 213) C rfl rfl dX8_nameOf_212 rfl ?_
      refine i_get (i := 0) (j := 0) (f := 13) (q := 216) C rfl rfl rfl hi_X8_nameOf_X8 (by decide) lk_X8_nameOf_181 rfl dX8_nameOf_213 rfl ?_
      refine i_if_eq (tgt := 223) (q := 219) C (by omega) dX8_nameOf_216 (by decide) rfl (fun c_216 => ?_) (fun c_216 => ?_)
      · skip
        exact absurd c_216 (by omega)
      · skip
        refine i_iconst (q := 220) C dX8_nameOf_219 rfl ?_
        refine i_goto (q := 224) C dX8_nameOf_220 (by decide) ?_
        refine i_iadd (q := 225) C dX8_nameOf_224 rfl ?_
        refine i_putI (i := 0) (j := 0) (f := 12) (q := 228) (cs' := [mdW am (st, bk, un, ck, ty, tm, tx, ln, rf, dg, dn, rk, (nb (rg tx ln) pl) + 0, 1, wd, wm, od, oc)]) C rfl rfl rfl hi_X8_nameOf_X8 tyX8 tyX8_ok nmX8 (by decide) (Nat.le_of_ble_eq_true rfl) lk_X8_nameOf_168 rfl rfl dX8_nameOf_225 rfl rfl ?_
        refine i_iload_n (j := 0) (q := 229) C rfl rfl dX8_nameOf_228 rfl ?_
        refine i_iret C hR dX8_nameOf_229 ?_
        have hpv : pV (rg tx ln) pl = (1, nb (rg tx ln) pl, 0) := by unfold pV; rw [← hm, if_pos c_196]
        exact ⟨by rw [hpv, c_196], by rw [hpv, Int.add_zero]⟩
  have join_34 : (¬ sli (rg tx ln) (nb (rg tx ln) pl) (rn 97 122 (rg tx ln) (nb (rg tx ln) pl)) = [97, 100, 100]) → V X 0 0 34 [(0, vP (am 0)), (1, vI (rn 97 122 (rg tx ln) (nb (rg tx ln) pl)))] [] [mdW am (st, bk, un, ck, ty, tm, tx, ln, rf, dg, dn, rk, nb (rg tx ln) pl, iw, wd, wm, od, oc)] := by
    intro  h0
    have join_59 : (¬ sli (rg tx ln) (nb (rg tx ln) pl) (rn 97 122 (rg tx ln) (nb (rg tx ln) pl)) = [117, 115, 101]) → V X 0 0 59 [(0, vP (am 0)), (1, vI (rn 97 122 (rg tx ln) (nb (rg tx ln) pl)))] [] [mdW am (st, bk, un, ck, ty, tm, tx, ln, rf, dg, dn, rk, nb (rg tx ln) pl, iw, wd, wm, od, oc)] := by
      intro  h1
      have join_86 : (¬ sli (rg tx ln) (nb (rg tx ln) pl) (rn 97 122 (rg tx ln) (nb (rg tx ln) pl)) = [115, 99, 111, 114, 101]) → V X 0 0 86 [(0, vP (am 0)), (1, vI (rn 97 122 (rg tx ln) (nb (rg tx ln) pl)))] [] [mdW am (st, bk, un, ck, ty, tm, tx, ln, rf, dg, dn, rk, nb (rg tx ln) pl, iw, wd, wm, od, oc)] := by
        intro  h2
        have join_112 : (¬ sli (rg tx ln) (nb (rg tx ln) pl) (rn 97 122 (rg tx ln) (nb (rg tx ln) pl)) = [100, 114, 111, 112]) → V X 0 0 112 [(0, vP (am 0)), (1, vI (rn 97 122 (rg tx ln) (nb (rg tx ln) pl)))] [] [mdW am (st, bk, un, ck, ty, tm, tx, ln, rf, dg, dn, rk, nb (rg tx ln) pl, iw, wd, wm, od, oc)] := by
          intro  h3
          have join_138 : (¬ sli (rg tx ln) (nb (rg tx ln) pl) (rn 97 122 (rg tx ln) (nb (rg tx ln) pl)) = [114, 97, 110, 107]) → V X 0 0 138 [(0, vP (am 0)), (1, vI (rn 97 122 (rg tx ln) (nb (rg tx ln) pl)))] [] [mdW am (st, bk, un, ck, ty, tm, tx, ln, rf, dg, dn, rk, nb (rg tx ln) pl, iw, wd, wm, od, oc)] := by
            intro  h4
            have join_165 : (¬ sli (rg tx ln) (nb (rg tx ln) pl) (rn 97 122 (rg tx ln) (nb (rg tx ln) pl)) = [115, 108, 105, 112]) → V X 0 0 165 [(0, vP (am 0)), (1, vI (rn 97 122 (rg tx ln) (nb (rg tx ln) pl)))] [] [mdW am (st, bk, un, ck, ty, tm, tx, ln, rf, dg, dn, rk, nb (rg tx ln) pl, iw, wd, wm, od, oc)] := by
              intro  h5
              have join_192 : (¬ sli (rg tx ln) (nb (rg tx ln) pl) (rn 97 122 (rg tx ln) (nb (rg tx ln) pl)) = [102, 97, 100, 101]) → V X 0 0 192 [(0, vP (am 0)), (1, vI (rn 97 122 (rg tx ln) (nb (rg tx ln) pl)))] [] [mdW am (st, bk, un, ck, ty, tm, tx, ln, rf, dg, dn, rk, nb (rg tx ln) pl, iw, wd, wm, od, oc)] := by
                intro  h6
                refine i_iconst (q := 193) C dX8_nameOf_192 rfl ?_
                exact join_193 (0) (by
                  first
                    | exact (by unfold nmv; rw [if_neg h0, if_neg h1, if_neg h2, if_neg h3, if_neg h4, if_neg h5, if_neg h6])
                    | exact (by unfold nmv; rw [if_neg h0, if_neg h1, if_neg h2, if_neg h3, if_neg h4, if_neg h5, if_pos hy6])
                    | exact (by unfold nmv; rw [if_neg h0, if_neg h1, if_neg h2, if_neg h3, if_neg h4, if_pos hy5])
                    | exact (by unfold nmv; rw [if_neg h0, if_neg h1, if_neg h2, if_neg h3, if_pos hy4])
                    | exact (by unfold nmv; rw [if_neg h0, if_neg h1, if_neg h2, if_pos hy3])
                    | exact (by unfold nmv; rw [if_neg h0, if_neg h1, if_pos hy2])
                    | exact (by unfold nmv; rw [if_neg h0, if_pos hy1])
                    | exact (by unfold nmv; rw [if_pos hy0]))
              refine i_iload_n (j := 1) (q := 166) C rfl rfl dX8_nameOf_165 rfl ?_
              refine i_iconst (q := 167) C dX8_nameOf_166 rfl ?_
              refine i_icmp_ne (tgt := 192) (q := 170) C (by omega) (by omega) dX8_nameOf_167 (by decide) rfl (fun c_167 => ?_) (fun c_167 => ?_)
              · skip
                exact join_192  (by
                  first
                    | exact hz6
                    | exact fun z => c_167 (by have := congrArg List.length z; simp only [List.length_cons, List.length_nil] at this; omega))
              · skip
                refine i_aload_n (j := 0) (q := 171) C rfl rfl dX8_nameOf_170 rfl ?_
                refine i_bipush (q := 173) C (by decide) dX8_nameOf_171 rfl ?_
                refine i_bipush (q := 175) C (by decide) dX8_nameOf_173 rfl ?_
                refine i_bipush (q := 177) C (by decide) dX8_nameOf_175 rfl ?_
                refine i_bipush (q := 179) C (by decide) dX8_nameOf_177 rfl ?_
                refine i_iconst (q := 180) C dX8_nameOf_179 rfl ?_
                refine i_iload_n (j := 1) (q := 181) C rfl rfl dX8_nameOf_180 rfl ?_
                refine i_callV (wr := []) (As := [vI 102, vI 97, vI 100, vI 101, vI 0, vI (rn 97 122 (rg tx ln) (nb (rg tx ln) pl))]) (st := []) (i := 0) (j := 0) (q := 184) C (c_X8_isName K l (am) (st) (bk) (un) (ck) (ty) (tm) (tx) (ln) (rf) (dg) (dn) (rk) (nb (rg tx ln) pl) (iw) (wd) (wm) (od) (oc) (102) (97) (100) (101) (0) (rn 97 122 (rg tx ln) (nb (rg tx ln) pl)) (by first | assumption | omega) (by first | assumption | omega) (by first | assumption | omega) (by first | assumption | omega) (by first | assumption | omega) (by first | assumption | omega) (by first | assumption | omega) (by first | assumption | omega) (by first | assumption | omega)) gX8_nameOf_X8_isName rfl hd_X8_isName ⟨Nat.le_of_ble_eq_true rfl, Nat.le_of_ble_eq_true rfl⟩ ⟨rfl, rfl⟩ ⟨Nat.le_of_ble_eq_true rfl, Nat.le_of_ble_eq_true rfl⟩ (permBy [0] (by decide) rfl rfl) rfl rfl rfl rfl (Nat.le_of_ble_eq_true rfl) dX8_nameOf_181 rfl (fun v w hq => ?_)
                obtain ⟨rfl, rfl⟩ := hq
                show V X 0 0 184 [(0, vP (am 0)), (1, vI (rn 97 122 (rg tx ln) (nb (rg tx ln) pl)))] [vI (if sli (rg tx ln) (nb (rg tx ln) pl) (rn 97 122 (rg tx ln) (nb (rg tx ln) pl)) = rg (nme 102 97 100 101 0) (rn 97 122 (rg tx ln) (nb (rg tx ln) pl)) then 1 else 0)] [mdW am (st, bk, un, ck, ty, tm, tx, ln, rf, dg, dn, rk, nb (rg tx ln) pl, iw, wd, wm, od, oc)]
                refine i_if_eq (tgt := 192) (q := 187) C (if01) dX8_nameOf_184 (by decide) rfl (fun c_184 => ?_) (fun c_184 => ?_)
                · skip
                  have h_184 := if0 c_184
                  have hz6 : ¬ sli (rg tx ln) (nb (rg tx ln) pl) (rn 97 122 (rg tx ln) (nb (rg tx ln) pl)) = [102, 97, 100, 101] := fun z => h_184 (by rw [z, c_167]; decide)
                  exact join_192  (by
                    first
                      | exact hz6
                      | exact fun z => c_167 (by have := congrArg List.length z; simp only [List.length_cons, List.length_nil] at this; omega))
                · skip
                  have h_184 := ifn0 c_184
                  have hy6 : sli (rg tx ln) (nb (rg tx ln) pl) (rn 97 122 (rg tx ln) (nb (rg tx ln) pl)) = [102, 97, 100, 101] := by rw [h_184, c_167]; decide
                  refine i_bipush (q := 189) C (by decide) dX8_nameOf_187 rfl ?_
                  refine i_goto (q := 193) C dX8_nameOf_189 (by decide) ?_
                  exact join_193 (7) (by
                    first
                      | exact (by unfold nmv; rw [if_neg h0, if_neg h1, if_neg h2, if_neg h3, if_neg h4, if_neg h5, if_neg h6])
                      | exact (by unfold nmv; rw [if_neg h0, if_neg h1, if_neg h2, if_neg h3, if_neg h4, if_neg h5, if_pos hy6])
                      | exact (by unfold nmv; rw [if_neg h0, if_neg h1, if_neg h2, if_neg h3, if_neg h4, if_pos hy5])
                      | exact (by unfold nmv; rw [if_neg h0, if_neg h1, if_neg h2, if_neg h3, if_pos hy4])
                      | exact (by unfold nmv; rw [if_neg h0, if_neg h1, if_neg h2, if_pos hy3])
                      | exact (by unfold nmv; rw [if_neg h0, if_neg h1, if_pos hy2])
                      | exact (by unfold nmv; rw [if_neg h0, if_pos hy1])
                      | exact (by unfold nmv; rw [if_pos hy0]))
            refine i_iload_n (j := 1) (q := 139) C rfl rfl dX8_nameOf_138 rfl ?_
            refine i_iconst (q := 140) C dX8_nameOf_139 rfl ?_
            refine i_icmp_ne (tgt := 165) (q := 143) C (by omega) (by omega) dX8_nameOf_140 (by decide) rfl (fun c_140 => ?_) (fun c_140 => ?_)
            · skip
              exact join_165  (by
                first
                  | exact hz5
                  | exact fun z => c_140 (by have := congrArg List.length z; simp only [List.length_cons, List.length_nil] at this; omega))
            · skip
              refine i_aload_n (j := 0) (q := 144) C rfl rfl dX8_nameOf_143 rfl ?_
              refine i_bipush (q := 146) C (by decide) dX8_nameOf_144 rfl ?_
              refine i_bipush (q := 148) C (by decide) dX8_nameOf_146 rfl ?_
              refine i_bipush (q := 150) C (by decide) dX8_nameOf_148 rfl ?_
              refine i_bipush (q := 152) C (by decide) dX8_nameOf_150 rfl ?_
              refine i_iconst (q := 153) C dX8_nameOf_152 rfl ?_
              refine i_iload_n (j := 1) (q := 154) C rfl rfl dX8_nameOf_153 rfl ?_
              refine i_callV (wr := []) (As := [vI 115, vI 108, vI 105, vI 112, vI 0, vI (rn 97 122 (rg tx ln) (nb (rg tx ln) pl))]) (st := []) (i := 0) (j := 0) (q := 157) C (c_X8_isName K l (am) (st) (bk) (un) (ck) (ty) (tm) (tx) (ln) (rf) (dg) (dn) (rk) (nb (rg tx ln) pl) (iw) (wd) (wm) (od) (oc) (115) (108) (105) (112) (0) (rn 97 122 (rg tx ln) (nb (rg tx ln) pl)) (by first | assumption | omega) (by first | assumption | omega) (by first | assumption | omega) (by first | assumption | omega) (by first | assumption | omega) (by first | assumption | omega) (by first | assumption | omega) (by first | assumption | omega) (by first | assumption | omega)) gX8_nameOf_X8_isName rfl hd_X8_isName ⟨Nat.le_of_ble_eq_true rfl, Nat.le_of_ble_eq_true rfl⟩ ⟨rfl, rfl⟩ ⟨Nat.le_of_ble_eq_true rfl, Nat.le_of_ble_eq_true rfl⟩ (permBy [0] (by decide) rfl rfl) rfl rfl rfl rfl (Nat.le_of_ble_eq_true rfl) dX8_nameOf_154 rfl (fun v w hq => ?_)
              obtain ⟨rfl, rfl⟩ := hq
              show V X 0 0 157 [(0, vP (am 0)), (1, vI (rn 97 122 (rg tx ln) (nb (rg tx ln) pl)))] [vI (if sli (rg tx ln) (nb (rg tx ln) pl) (rn 97 122 (rg tx ln) (nb (rg tx ln) pl)) = rg (nme 115 108 105 112 0) (rn 97 122 (rg tx ln) (nb (rg tx ln) pl)) then 1 else 0)] [mdW am (st, bk, un, ck, ty, tm, tx, ln, rf, dg, dn, rk, nb (rg tx ln) pl, iw, wd, wm, od, oc)]
              refine i_if_eq (tgt := 165) (q := 160) C (if01) dX8_nameOf_157 (by decide) rfl (fun c_157 => ?_) (fun c_157 => ?_)
              · skip
                have h_157 := if0 c_157
                have hz5 : ¬ sli (rg tx ln) (nb (rg tx ln) pl) (rn 97 122 (rg tx ln) (nb (rg tx ln) pl)) = [115, 108, 105, 112] := fun z => h_157 (by rw [z, c_140]; decide)
                exact join_165  (by
                  first
                    | exact hz5
                    | exact fun z => c_140 (by have := congrArg List.length z; simp only [List.length_cons, List.length_nil] at this; omega))
              · skip
                have h_157 := ifn0 c_157
                have hy5 : sli (rg tx ln) (nb (rg tx ln) pl) (rn 97 122 (rg tx ln) (nb (rg tx ln) pl)) = [115, 108, 105, 112] := by rw [h_157, c_140]; decide
                refine i_bipush (q := 162) C (by decide) dX8_nameOf_160 rfl ?_
                refine i_goto (q := 193) C dX8_nameOf_162 (by decide) ?_
                exact join_193 (6) (by
                  first
                    | exact (by unfold nmv; rw [if_neg h0, if_neg h1, if_neg h2, if_neg h3, if_neg h4, if_neg h5, if_neg h6])
                    | exact (by unfold nmv; rw [if_neg h0, if_neg h1, if_neg h2, if_neg h3, if_neg h4, if_neg h5, if_pos hy6])
                    | exact (by unfold nmv; rw [if_neg h0, if_neg h1, if_neg h2, if_neg h3, if_neg h4, if_pos hy5])
                    | exact (by unfold nmv; rw [if_neg h0, if_neg h1, if_neg h2, if_neg h3, if_pos hy4])
                    | exact (by unfold nmv; rw [if_neg h0, if_neg h1, if_neg h2, if_pos hy3])
                    | exact (by unfold nmv; rw [if_neg h0, if_neg h1, if_pos hy2])
                    | exact (by unfold nmv; rw [if_neg h0, if_pos hy1])
                    | exact (by unfold nmv; rw [if_pos hy0]))
          refine i_iload_n (j := 1) (q := 113) C rfl rfl dX8_nameOf_112 rfl ?_
          refine i_iconst (q := 114) C dX8_nameOf_113 rfl ?_
          refine i_icmp_ne (tgt := 138) (q := 117) C (by omega) (by omega) dX8_nameOf_114 (by decide) rfl (fun c_114 => ?_) (fun c_114 => ?_)
          · skip
            exact join_138  (by
              first
                | exact hz4
                | exact fun z => c_114 (by have := congrArg List.length z; simp only [List.length_cons, List.length_nil] at this; omega))
          · skip
            refine i_aload_n (j := 0) (q := 118) C rfl rfl dX8_nameOf_117 rfl ?_
            refine i_bipush (q := 120) C (by decide) dX8_nameOf_118 rfl ?_
            refine i_bipush (q := 122) C (by decide) dX8_nameOf_120 rfl ?_
            refine i_bipush (q := 124) C (by decide) dX8_nameOf_122 rfl ?_
            refine i_bipush (q := 126) C (by decide) dX8_nameOf_124 rfl ?_
            refine i_iconst (q := 127) C dX8_nameOf_126 rfl ?_
            refine i_iload_n (j := 1) (q := 128) C rfl rfl dX8_nameOf_127 rfl ?_
            refine i_callV (wr := []) (As := [vI 114, vI 97, vI 110, vI 107, vI 0, vI (rn 97 122 (rg tx ln) (nb (rg tx ln) pl))]) (st := []) (i := 0) (j := 0) (q := 131) C (c_X8_isName K l (am) (st) (bk) (un) (ck) (ty) (tm) (tx) (ln) (rf) (dg) (dn) (rk) (nb (rg tx ln) pl) (iw) (wd) (wm) (od) (oc) (114) (97) (110) (107) (0) (rn 97 122 (rg tx ln) (nb (rg tx ln) pl)) (by first | assumption | omega) (by first | assumption | omega) (by first | assumption | omega) (by first | assumption | omega) (by first | assumption | omega) (by first | assumption | omega) (by first | assumption | omega) (by first | assumption | omega) (by first | assumption | omega)) gX8_nameOf_X8_isName rfl hd_X8_isName ⟨Nat.le_of_ble_eq_true rfl, Nat.le_of_ble_eq_true rfl⟩ ⟨rfl, rfl⟩ ⟨Nat.le_of_ble_eq_true rfl, Nat.le_of_ble_eq_true rfl⟩ (permBy [0] (by decide) rfl rfl) rfl rfl rfl rfl (Nat.le_of_ble_eq_true rfl) dX8_nameOf_128 rfl (fun v w hq => ?_)
            obtain ⟨rfl, rfl⟩ := hq
            show V X 0 0 131 [(0, vP (am 0)), (1, vI (rn 97 122 (rg tx ln) (nb (rg tx ln) pl)))] [vI (if sli (rg tx ln) (nb (rg tx ln) pl) (rn 97 122 (rg tx ln) (nb (rg tx ln) pl)) = rg (nme 114 97 110 107 0) (rn 97 122 (rg tx ln) (nb (rg tx ln) pl)) then 1 else 0)] [mdW am (st, bk, un, ck, ty, tm, tx, ln, rf, dg, dn, rk, nb (rg tx ln) pl, iw, wd, wm, od, oc)]
            refine i_if_eq (tgt := 138) (q := 134) C (if01) dX8_nameOf_131 (by decide) rfl (fun c_131 => ?_) (fun c_131 => ?_)
            · skip
              have h_131 := if0 c_131
              have hz4 : ¬ sli (rg tx ln) (nb (rg tx ln) pl) (rn 97 122 (rg tx ln) (nb (rg tx ln) pl)) = [114, 97, 110, 107] := fun z => h_131 (by rw [z, c_114]; decide)
              exact join_138  (by
                first
                  | exact hz4
                  | exact fun z => c_114 (by have := congrArg List.length z; simp only [List.length_cons, List.length_nil] at this; omega))
            · skip
              have h_131 := ifn0 c_131
              have hy4 : sli (rg tx ln) (nb (rg tx ln) pl) (rn 97 122 (rg tx ln) (nb (rg tx ln) pl)) = [114, 97, 110, 107] := by rw [h_131, c_114]; decide
              refine i_iconst (q := 135) C dX8_nameOf_134 rfl ?_
              refine i_goto (q := 193) C dX8_nameOf_135 (by decide) ?_
              exact join_193 (5) (by
                first
                  | exact (by unfold nmv; rw [if_neg h0, if_neg h1, if_neg h2, if_neg h3, if_neg h4, if_neg h5, if_neg h6])
                  | exact (by unfold nmv; rw [if_neg h0, if_neg h1, if_neg h2, if_neg h3, if_neg h4, if_neg h5, if_pos hy6])
                  | exact (by unfold nmv; rw [if_neg h0, if_neg h1, if_neg h2, if_neg h3, if_neg h4, if_pos hy5])
                  | exact (by unfold nmv; rw [if_neg h0, if_neg h1, if_neg h2, if_neg h3, if_pos hy4])
                  | exact (by unfold nmv; rw [if_neg h0, if_neg h1, if_neg h2, if_pos hy3])
                  | exact (by unfold nmv; rw [if_neg h0, if_neg h1, if_pos hy2])
                  | exact (by unfold nmv; rw [if_neg h0, if_pos hy1])
                  | exact (by unfold nmv; rw [if_pos hy0]))
        refine i_iload_n (j := 1) (q := 87) C rfl rfl dX8_nameOf_86 rfl ?_
        refine i_iconst (q := 88) C dX8_nameOf_87 rfl ?_
        refine i_icmp_ne (tgt := 112) (q := 91) C (by omega) (by omega) dX8_nameOf_88 (by decide) rfl (fun c_88 => ?_) (fun c_88 => ?_)
        · skip
          exact join_112  (by
            first
              | exact hz3
              | exact fun z => c_88 (by have := congrArg List.length z; simp only [List.length_cons, List.length_nil] at this; omega))
        · skip
          refine i_aload_n (j := 0) (q := 92) C rfl rfl dX8_nameOf_91 rfl ?_
          refine i_bipush (q := 94) C (by decide) dX8_nameOf_92 rfl ?_
          refine i_bipush (q := 96) C (by decide) dX8_nameOf_94 rfl ?_
          refine i_bipush (q := 98) C (by decide) dX8_nameOf_96 rfl ?_
          refine i_bipush (q := 100) C (by decide) dX8_nameOf_98 rfl ?_
          refine i_iconst (q := 101) C dX8_nameOf_100 rfl ?_
          refine i_iload_n (j := 1) (q := 102) C rfl rfl dX8_nameOf_101 rfl ?_
          refine i_callV (wr := []) (As := [vI 100, vI 114, vI 111, vI 112, vI 0, vI (rn 97 122 (rg tx ln) (nb (rg tx ln) pl))]) (st := []) (i := 0) (j := 0) (q := 105) C (c_X8_isName K l (am) (st) (bk) (un) (ck) (ty) (tm) (tx) (ln) (rf) (dg) (dn) (rk) (nb (rg tx ln) pl) (iw) (wd) (wm) (od) (oc) (100) (114) (111) (112) (0) (rn 97 122 (rg tx ln) (nb (rg tx ln) pl)) (by first | assumption | omega) (by first | assumption | omega) (by first | assumption | omega) (by first | assumption | omega) (by first | assumption | omega) (by first | assumption | omega) (by first | assumption | omega) (by first | assumption | omega) (by first | assumption | omega)) gX8_nameOf_X8_isName rfl hd_X8_isName ⟨Nat.le_of_ble_eq_true rfl, Nat.le_of_ble_eq_true rfl⟩ ⟨rfl, rfl⟩ ⟨Nat.le_of_ble_eq_true rfl, Nat.le_of_ble_eq_true rfl⟩ (permBy [0] (by decide) rfl rfl) rfl rfl rfl rfl (Nat.le_of_ble_eq_true rfl) dX8_nameOf_102 rfl (fun v w hq => ?_)
          obtain ⟨rfl, rfl⟩ := hq
          show V X 0 0 105 [(0, vP (am 0)), (1, vI (rn 97 122 (rg tx ln) (nb (rg tx ln) pl)))] [vI (if sli (rg tx ln) (nb (rg tx ln) pl) (rn 97 122 (rg tx ln) (nb (rg tx ln) pl)) = rg (nme 100 114 111 112 0) (rn 97 122 (rg tx ln) (nb (rg tx ln) pl)) then 1 else 0)] [mdW am (st, bk, un, ck, ty, tm, tx, ln, rf, dg, dn, rk, nb (rg tx ln) pl, iw, wd, wm, od, oc)]
          refine i_if_eq (tgt := 112) (q := 108) C (if01) dX8_nameOf_105 (by decide) rfl (fun c_105 => ?_) (fun c_105 => ?_)
          · skip
            have h_105 := if0 c_105
            have hz3 : ¬ sli (rg tx ln) (nb (rg tx ln) pl) (rn 97 122 (rg tx ln) (nb (rg tx ln) pl)) = [100, 114, 111, 112] := fun z => h_105 (by rw [z, c_88]; decide)
            exact join_112  (by
              first
                | exact hz3
                | exact fun z => c_88 (by have := congrArg List.length z; simp only [List.length_cons, List.length_nil] at this; omega))
          · skip
            have h_105 := ifn0 c_105
            have hy3 : sli (rg tx ln) (nb (rg tx ln) pl) (rn 97 122 (rg tx ln) (nb (rg tx ln) pl)) = [100, 114, 111, 112] := by rw [h_105, c_88]; decide
            refine i_iconst (q := 109) C dX8_nameOf_108 rfl ?_
            refine i_goto (q := 193) C dX8_nameOf_109 (by decide) ?_
            exact join_193 (4) (by
              first
                | exact (by unfold nmv; rw [if_neg h0, if_neg h1, if_neg h2, if_neg h3, if_neg h4, if_neg h5, if_neg h6])
                | exact (by unfold nmv; rw [if_neg h0, if_neg h1, if_neg h2, if_neg h3, if_neg h4, if_neg h5, if_pos hy6])
                | exact (by unfold nmv; rw [if_neg h0, if_neg h1, if_neg h2, if_neg h3, if_neg h4, if_pos hy5])
                | exact (by unfold nmv; rw [if_neg h0, if_neg h1, if_neg h2, if_neg h3, if_pos hy4])
                | exact (by unfold nmv; rw [if_neg h0, if_neg h1, if_neg h2, if_pos hy3])
                | exact (by unfold nmv; rw [if_neg h0, if_neg h1, if_pos hy2])
                | exact (by unfold nmv; rw [if_neg h0, if_pos hy1])
                | exact (by unfold nmv; rw [if_pos hy0]))
      refine i_iload_n (j := 1) (q := 60) C rfl rfl dX8_nameOf_59 rfl ?_
      refine i_iconst (q := 61) C dX8_nameOf_60 rfl ?_
      refine i_icmp_ne (tgt := 86) (q := 64) C (by omega) (by omega) dX8_nameOf_61 (by decide) rfl (fun c_61 => ?_) (fun c_61 => ?_)
      · skip
        exact join_86  (by
          first
            | exact hz2
            | exact fun z => c_61 (by have := congrArg List.length z; simp only [List.length_cons, List.length_nil] at this; omega))
      · skip
        refine i_aload_n (j := 0) (q := 65) C rfl rfl dX8_nameOf_64 rfl ?_
        refine i_bipush (q := 67) C (by decide) dX8_nameOf_65 rfl ?_
        refine i_bipush (q := 69) C (by decide) dX8_nameOf_67 rfl ?_
        refine i_bipush (q := 71) C (by decide) dX8_nameOf_69 rfl ?_
        refine i_bipush (q := 73) C (by decide) dX8_nameOf_71 rfl ?_
        refine i_bipush (q := 75) C (by decide) dX8_nameOf_73 rfl ?_
        refine i_iload_n (j := 1) (q := 76) C rfl rfl dX8_nameOf_75 rfl ?_
        refine i_callV (wr := []) (As := [vI 115, vI 99, vI 111, vI 114, vI 101, vI (rn 97 122 (rg tx ln) (nb (rg tx ln) pl))]) (st := []) (i := 0) (j := 0) (q := 79) C (c_X8_isName K l (am) (st) (bk) (un) (ck) (ty) (tm) (tx) (ln) (rf) (dg) (dn) (rk) (nb (rg tx ln) pl) (iw) (wd) (wm) (od) (oc) (115) (99) (111) (114) (101) (rn 97 122 (rg tx ln) (nb (rg tx ln) pl)) (by first | assumption | omega) (by first | assumption | omega) (by first | assumption | omega) (by first | assumption | omega) (by first | assumption | omega) (by first | assumption | omega) (by first | assumption | omega) (by first | assumption | omega) (by first | assumption | omega)) gX8_nameOf_X8_isName rfl hd_X8_isName ⟨Nat.le_of_ble_eq_true rfl, Nat.le_of_ble_eq_true rfl⟩ ⟨rfl, rfl⟩ ⟨Nat.le_of_ble_eq_true rfl, Nat.le_of_ble_eq_true rfl⟩ (permBy [0] (by decide) rfl rfl) rfl rfl rfl rfl (Nat.le_of_ble_eq_true rfl) dX8_nameOf_76 rfl (fun v w hq => ?_)
        obtain ⟨rfl, rfl⟩ := hq
        show V X 0 0 79 [(0, vP (am 0)), (1, vI (rn 97 122 (rg tx ln) (nb (rg tx ln) pl)))] [vI (if sli (rg tx ln) (nb (rg tx ln) pl) (rn 97 122 (rg tx ln) (nb (rg tx ln) pl)) = rg (nme 115 99 111 114 101) (rn 97 122 (rg tx ln) (nb (rg tx ln) pl)) then 1 else 0)] [mdW am (st, bk, un, ck, ty, tm, tx, ln, rf, dg, dn, rk, nb (rg tx ln) pl, iw, wd, wm, od, oc)]
        refine i_if_eq (tgt := 86) (q := 82) C (if01) dX8_nameOf_79 (by decide) rfl (fun c_79 => ?_) (fun c_79 => ?_)
        · skip
          have h_79 := if0 c_79
          have hz2 : ¬ sli (rg tx ln) (nb (rg tx ln) pl) (rn 97 122 (rg tx ln) (nb (rg tx ln) pl)) = [115, 99, 111, 114, 101] := fun z => h_79 (by rw [z, c_61]; decide)
          exact join_86  (by
            first
              | exact hz2
              | exact fun z => c_61 (by have := congrArg List.length z; simp only [List.length_cons, List.length_nil] at this; omega))
        · skip
          have h_79 := ifn0 c_79
          have hy2 : sli (rg tx ln) (nb (rg tx ln) pl) (rn 97 122 (rg tx ln) (nb (rg tx ln) pl)) = [115, 99, 111, 114, 101] := by rw [h_79, c_61]; decide
          refine i_iconst (q := 83) C dX8_nameOf_82 rfl ?_
          refine i_goto (q := 193) C dX8_nameOf_83 (by decide) ?_
          exact join_193 (3) (by
            first
              | exact (by unfold nmv; rw [if_neg h0, if_neg h1, if_neg h2, if_neg h3, if_neg h4, if_neg h5, if_neg h6])
              | exact (by unfold nmv; rw [if_neg h0, if_neg h1, if_neg h2, if_neg h3, if_neg h4, if_neg h5, if_pos hy6])
              | exact (by unfold nmv; rw [if_neg h0, if_neg h1, if_neg h2, if_neg h3, if_neg h4, if_pos hy5])
              | exact (by unfold nmv; rw [if_neg h0, if_neg h1, if_neg h2, if_neg h3, if_pos hy4])
              | exact (by unfold nmv; rw [if_neg h0, if_neg h1, if_neg h2, if_pos hy3])
              | exact (by unfold nmv; rw [if_neg h0, if_neg h1, if_pos hy2])
              | exact (by unfold nmv; rw [if_neg h0, if_pos hy1])
              | exact (by unfold nmv; rw [if_pos hy0]))
    refine i_iload_n (j := 1) (q := 35) C rfl rfl dX8_nameOf_34 rfl ?_
    refine i_iconst (q := 36) C dX8_nameOf_35 rfl ?_
    refine i_icmp_ne (tgt := 59) (q := 39) C (by omega) (by omega) dX8_nameOf_36 (by decide) rfl (fun c_36 => ?_) (fun c_36 => ?_)
    · skip
      exact join_59  (by
        first
          | exact hz1
          | exact fun z => c_36 (by have := congrArg List.length z; simp only [List.length_cons, List.length_nil] at this; omega))
    · skip
      refine i_aload_n (j := 0) (q := 40) C rfl rfl dX8_nameOf_39 rfl ?_
      refine i_bipush (q := 42) C (by decide) dX8_nameOf_40 rfl ?_
      refine i_bipush (q := 44) C (by decide) dX8_nameOf_42 rfl ?_
      refine i_bipush (q := 46) C (by decide) dX8_nameOf_44 rfl ?_
      refine i_iconst (q := 47) C dX8_nameOf_46 rfl ?_
      refine i_iconst (q := 48) C dX8_nameOf_47 rfl ?_
      refine i_iload_n (j := 1) (q := 49) C rfl rfl dX8_nameOf_48 rfl ?_
      refine i_callV (wr := []) (As := [vI 117, vI 115, vI 101, vI 0, vI 0, vI (rn 97 122 (rg tx ln) (nb (rg tx ln) pl))]) (st := []) (i := 0) (j := 0) (q := 52) C (c_X8_isName K l (am) (st) (bk) (un) (ck) (ty) (tm) (tx) (ln) (rf) (dg) (dn) (rk) (nb (rg tx ln) pl) (iw) (wd) (wm) (od) (oc) (117) (115) (101) (0) (0) (rn 97 122 (rg tx ln) (nb (rg tx ln) pl)) (by first | assumption | omega) (by first | assumption | omega) (by first | assumption | omega) (by first | assumption | omega) (by first | assumption | omega) (by first | assumption | omega) (by first | assumption | omega) (by first | assumption | omega) (by first | assumption | omega)) gX8_nameOf_X8_isName rfl hd_X8_isName ⟨Nat.le_of_ble_eq_true rfl, Nat.le_of_ble_eq_true rfl⟩ ⟨rfl, rfl⟩ ⟨Nat.le_of_ble_eq_true rfl, Nat.le_of_ble_eq_true rfl⟩ (permBy [0] (by decide) rfl rfl) rfl rfl rfl rfl (Nat.le_of_ble_eq_true rfl) dX8_nameOf_49 rfl (fun v w hq => ?_)
      obtain ⟨rfl, rfl⟩ := hq
      show V X 0 0 52 [(0, vP (am 0)), (1, vI (rn 97 122 (rg tx ln) (nb (rg tx ln) pl)))] [vI (if sli (rg tx ln) (nb (rg tx ln) pl) (rn 97 122 (rg tx ln) (nb (rg tx ln) pl)) = rg (nme 117 115 101 0 0) (rn 97 122 (rg tx ln) (nb (rg tx ln) pl)) then 1 else 0)] [mdW am (st, bk, un, ck, ty, tm, tx, ln, rf, dg, dn, rk, nb (rg tx ln) pl, iw, wd, wm, od, oc)]
      refine i_if_eq (tgt := 59) (q := 55) C (if01) dX8_nameOf_52 (by decide) rfl (fun c_52 => ?_) (fun c_52 => ?_)
      · skip
        have h_52 := if0 c_52
        have hz1 : ¬ sli (rg tx ln) (nb (rg tx ln) pl) (rn 97 122 (rg tx ln) (nb (rg tx ln) pl)) = [117, 115, 101] := fun z => h_52 (by rw [z, c_36]; decide)
        exact join_59  (by
          first
            | exact hz1
            | exact fun z => c_36 (by have := congrArg List.length z; simp only [List.length_cons, List.length_nil] at this; omega))
      · skip
        have h_52 := ifn0 c_52
        have hy1 : sli (rg tx ln) (nb (rg tx ln) pl) (rn 97 122 (rg tx ln) (nb (rg tx ln) pl)) = [117, 115, 101] := by rw [h_52, c_36]; decide
        refine i_iconst (q := 56) C dX8_nameOf_55 rfl ?_
        refine i_goto (q := 193) C dX8_nameOf_56 (by decide) ?_
        exact join_193 (2) (by
          first
            | exact (by unfold nmv; rw [if_neg h0, if_neg h1, if_neg h2, if_neg h3, if_neg h4, if_neg h5, if_neg h6])
            | exact (by unfold nmv; rw [if_neg h0, if_neg h1, if_neg h2, if_neg h3, if_neg h4, if_neg h5, if_pos hy6])
            | exact (by unfold nmv; rw [if_neg h0, if_neg h1, if_neg h2, if_neg h3, if_neg h4, if_pos hy5])
            | exact (by unfold nmv; rw [if_neg h0, if_neg h1, if_neg h2, if_neg h3, if_pos hy4])
            | exact (by unfold nmv; rw [if_neg h0, if_neg h1, if_neg h2, if_pos hy3])
            | exact (by unfold nmv; rw [if_neg h0, if_neg h1, if_pos hy2])
            | exact (by unfold nmv; rw [if_neg h0, if_pos hy1])
            | exact (by unfold nmv; rw [if_pos hy0]))
  refine i_iload_n (j := 0) (q := 10) C rfl rfl dX8_nameOf_9 rfl ?_
  refine i_iconst (q := 11) C dX8_nameOf_10 rfl ?_
  refine i_icmp_ne (tgt := 34) (q := 14) C (by omega) (by omega) dX8_nameOf_11 (by decide) rfl (fun c_11 => ?_) (fun c_11 => ?_)
  · skip
    refine V.lv [1, 0] rfl ?_
    exact join_34  (by
      first
        | exact hz0
        | exact fun z => c_11 (by have := congrArg List.length z; simp only [List.length_cons, List.length_nil] at this; omega))
  · skip
    refine i_aload_n (j := 1) (q := 15) C rfl rfl dX8_nameOf_14 rfl ?_
    refine i_bipush (q := 17) C (by decide) dX8_nameOf_15 rfl ?_
    refine i_bipush (q := 19) C (by decide) dX8_nameOf_17 rfl ?_
    refine i_bipush (q := 21) C (by decide) dX8_nameOf_19 rfl ?_
    refine i_iconst (q := 22) C dX8_nameOf_21 rfl ?_
    refine i_iconst (q := 23) C dX8_nameOf_22 rfl ?_
    refine i_iload_n (j := 0) (q := 24) C rfl rfl dX8_nameOf_23 rfl ?_
    refine i_callV (wr := []) (As := [vI 97, vI 100, vI 100, vI 0, vI 0, vI (rn 97 122 (rg tx ln) (nb (rg tx ln) pl))]) (st := []) (i := 0) (j := 0) (q := 27) C (c_X8_isName K l (am) (st) (bk) (un) (ck) (ty) (tm) (tx) (ln) (rf) (dg) (dn) (rk) (nb (rg tx ln) pl) (iw) (wd) (wm) (od) (oc) (97) (100) (100) (0) (0) (rn 97 122 (rg tx ln) (nb (rg tx ln) pl)) (by first | assumption | omega) (by first | assumption | omega) (by first | assumption | omega) (by first | assumption | omega) (by first | assumption | omega) (by first | assumption | omega) (by first | assumption | omega) (by first | assumption | omega) (by first | assumption | omega)) gX8_nameOf_X8_isName rfl hd_X8_isName ⟨Nat.le_of_ble_eq_true rfl, Nat.le_of_ble_eq_true rfl⟩ ⟨rfl, rfl⟩ ⟨Nat.le_of_ble_eq_true rfl, Nat.le_of_ble_eq_true rfl⟩ (permBy [0] (by decide) rfl rfl) rfl rfl rfl rfl (Nat.le_of_ble_eq_true rfl) dX8_nameOf_24 rfl (fun v w hq => ?_)
    obtain ⟨rfl, rfl⟩ := hq
    show V X 0 0 27 [(1, vI (rn 97 122 (rg tx ln) (nb (rg tx ln) pl))), (0, vP (am 0))] [vI (if sli (rg tx ln) (nb (rg tx ln) pl) (rn 97 122 (rg tx ln) (nb (rg tx ln) pl)) = rg (nme 97 100 100 0 0) (rn 97 122 (rg tx ln) (nb (rg tx ln) pl)) then 1 else 0)] [mdW am (st, bk, un, ck, ty, tm, tx, ln, rf, dg, dn, rk, nb (rg tx ln) pl, iw, wd, wm, od, oc)]
    refine i_if_eq (tgt := 34) (q := 30) C (if01) dX8_nameOf_27 (by decide) rfl (fun c_27 => ?_) (fun c_27 => ?_)
    · skip
      have h_27 := if0 c_27
      have hz0 : ¬ sli (rg tx ln) (nb (rg tx ln) pl) (rn 97 122 (rg tx ln) (nb (rg tx ln) pl)) = [97, 100, 100] := fun z => h_27 (by rw [z, c_11]; decide)
      refine V.lv [1, 0] rfl ?_
      exact join_34  (by
        first
          | exact hz0
          | exact fun z => c_11 (by have := congrArg List.length z; simp only [List.length_cons, List.length_nil] at this; omega))
    · skip
      have h_27 := ifn0 c_27
      have hy0 : sli (rg tx ln) (nb (rg tx ln) pl) (rn 97 122 (rg tx ln) (nb (rg tx ln) pl)) = [97, 100, 100] := by rw [h_27, c_11]; decide
      refine i_iconst (q := 31) C dX8_nameOf_30 rfl ?_
      refine i_goto (q := 193) C dX8_nameOf_31 (by decide) ?_
      refine V.lv [1, 0] rfl ?_
      exact join_193 (1) (by
        first
          | exact (by unfold nmv; rw [if_neg h0, if_neg h1, if_neg h2, if_neg h3, if_neg h4, if_neg h5, if_neg h6])
          | exact (by unfold nmv; rw [if_neg h0, if_neg h1, if_neg h2, if_neg h3, if_neg h4, if_neg h5, if_pos hy6])
          | exact (by unfold nmv; rw [if_neg h0, if_neg h1, if_neg h2, if_neg h3, if_neg h4, if_pos hy5])
          | exact (by unfold nmv; rw [if_neg h0, if_neg h1, if_neg h2, if_neg h3, if_pos hy4])
          | exact (by unfold nmv; rw [if_neg h0, if_neg h1, if_neg h2, if_pos hy3])
          | exact (by unfold nmv; rw [if_neg h0, if_neg h1, if_pos hy2])
          | exact (by unfold nmv; rw [if_neg h0, if_pos hy1])
          | exact (by unfold nmv; rw [if_pos hy0]))
