theorem lk_X8_chosen_50 : Cond.fieldLink RX8 50 (TX8 3).1 (TX8 3).2.1 (TX8 3).2.2.1 ∈ wsX8_chosen := List.mem_of_getElem? (i := 1) rfl
theorem hi_X8_chosen_X8 : ∀ w ∈ u_ws RX8 TX8 18, w ∈ wsX8_chosen := by decide +kernel
theorem lk_X8_chosen_7 : Cond.fieldLink RX8 7 (TX8 0).1 (TX8 0).2.1 (TX8 0).2.2.1 ∈ wsX8_chosen := List.mem_of_getElem? (i := 2) rfl
theorem hd_X8_scoreBy : yX8_scoreBy.cls = RX8 ∧ yX8_scoreBy.cls ≠ "java/lang/invoke/MethodHandle" ∧ yX8_scoreBy.cls ≠ "java/lang/invoke/VarHandle" ∧ (parseMethodDescriptor yX8_scoreBy.desc).map (fun d => d.parameters.length) = some 3 := by decide +kernel
set_option maxHeartbeats 400000 in
set_option maxRecDepth 100000 in
theorem c_X8_chosen (K : KT) (l : Launch) (am : Nat → Nat) (st : Int → Int) (bk : Int → Int) (un : Int) (ck : Int) (ty : Int → Int) (tm : Int) (tx : Int → Int) (ln : Int) (rf : Int → Int) (dg : Int) (dn : Int → Int) (rk : Int → Int) (pl : Int) (iw : Int) (wd : Int → Int) (wm : Int) (od : Int → Int) (oc : Int) (U : Int) (p : Int) (hs : okS U st) (hp : 0 ≤ p ∧ p < st 2800) (hp1 : st (14 * p) = 1) (hck : 0 ≤ ck ∧ ck ≤ 9999) (hU : U < 1000000) : Mt K l yX8_chosen wsX8_chosen ({ frames := 2, cells := 0, slots := 0, locals := 48 }) [vP (am 0), vI p] [mdW am (st, bk, un, ck, ty, tm, tx, ln, rf, dg, dn, rk, pl, iw, wd, wm, od, oc)] 0 0 (fun v w => ∃ st3 : Int → Int, v = some (vI (nsc (st 2801) (st (14 * p + 1)) (st (14 * p + 4)) (st (14 * p + 5)) (tick ck))) ∧ w = [mdW am (st3, bk, un, tick ck, ty, tm, tx, ln, rf, dg, dn, rk, pl, iw, wd, wm, od, oc)] ∧ (bo st3 = useB (bo st) p (tick ck)) ∧ (okS (U + 1) st3)) := by
  refine Mt.of (own := RX8) (cc := cX8_chosen) (maxL := 2) (ret := (some .int)) (lv0 := [(0, vP (am 0)), (1, vI p)]) (by decide) rfl rfl (Nat.le_of_ble_eq_true rfl) rfl (fun X C hR hN => ?_)
  have htk : 0 ≤ tick ck ∧ tick ck ≤ 9999 := by unfold tick; omega
  have htk1 : tick ck = if ck = 9999 then 9999 else ck + 1 := by unfold tick; split <;> omega
  have hns := nsc_in (st 2801) (st (14 * p + 1)) (st (14 * p + 4)) (st (14 * p + 5)) (tick ck) (hs.k1 p hp.1 hp.2)
  have k1 := hs.k1 p hp.1 hp.2
  have k4 := hs.k4 p hp.1 hp.2
  have kd := hs.kd
  have hgv := hs.gv
  refine i_aload_n (j := 0) (q := 1) C rfl rfl dX8_chosen_0 rfl ?_
  refine i_aload_n (j := 0) (q := 2) C rfl rfl dX8_chosen_1 rfl ?_
  refine i_get (i := 0) (j := 0) (f := 3) (q := 5) C rfl rfl rfl hi_X8_chosen_X8 (by decide) lk_X8_chosen_50 rfl dX8_chosen_2 rfl ?_
  refine i_sipush (q := 8) C (by decide) dX8_chosen_5 rfl ?_
  have join_23 : ∀ (c2 : Int), (c2 = tick ck) → V X 0 0 23 [(0, vP (am 0)), (1, vI p)] [vI c2, vP (am 0)] [mdW am (st, bk, un, ck, ty, tm, tx, ln, rf, dg, dn, rk, pl, iw, wd, wm, od, oc)] := by
    intro c2 hc2
    refine V.top (b := tick ck) hc2 ?_
    refine i_putI (i := 0) (j := 0) (f := 3) (q := 26) (cs' := [mdW am (st, bk, un, tick ck, ty, tm, tx, ln, rf, dg, dn, rk, pl, iw, wd, wm, od, oc)]) C rfl rfl rfl hi_X8_chosen_X8 tyX8 tyX8_ok nmX8 (by decide) (Nat.le_of_ble_eq_true rfl) lk_X8_chosen_50 rfl rfl dX8_chosen_23 rfl rfl ?_
    refine i_aload_n (j := 0) (q := 27) C rfl rfl dX8_chosen_26 rfl ?_
    refine i_get (i := 0) (j := 0) (f := 0) (q := 30) C rfl rfl rfl hi_X8_chosen_X8 (by decide) lk_X8_chosen_7 rfl dX8_chosen_27 rfl ?_
    refine i_bipush (q := 32) C (by decide) dX8_chosen_30 rfl ?_
    refine i_iload_n (j := 1) (q := 33) C rfl rfl dX8_chosen_32 rfl ?_
    refine i_imul (q := 34) C dX8_chosen_33 rfl ?_
    refine i_iconst (q := 35) C dX8_chosen_34 rfl ?_
    refine i_iadd (q := 36) C dX8_chosen_35 rfl ?_
    refine i_aload_n (j := 0) (q := 37) C rfl rfl dX8_chosen_36 rfl ?_
    refine i_aload_n (j := 0) (q := 38) C rfl rfl dX8_chosen_37 rfl ?_
    refine i_get (i := 0) (j := 0) (f := 0) (q := 41) C rfl rfl rfl hi_X8_chosen_X8 (by decide) lk_X8_chosen_7 rfl dX8_chosen_38 rfl ?_
    refine i_sipush (q := 44) C (by decide) dX8_chosen_41 rfl ?_
    refine i_iald (i := 0) (j := 1) (q := 45) C rfl rfl (by omega) dX8_chosen_44 rfl ?_
    have ld_44 := hs.kd
    refine i_iload_n (j := 1) (q := 46) C rfl rfl dX8_chosen_45 rfl ?_
    refine i_aload_n (j := 0) (q := 47) C rfl rfl dX8_chosen_46 rfl ?_
    refine i_get (i := 0) (j := 0) (f := 3) (q := 50) C rfl rfl rfl hi_X8_chosen_X8 (by decide) lk_X8_chosen_50 rfl dX8_chosen_47 rfl ?_
    refine i_callV (wr := []) (As := [vI (st 2801), vI p, vI (tick ck)]) (st := [vI ((14 * p) + 1), vP (am 1)]) (i := 0) (j := 0) (q := 53) C (c_X8_scoreBy K l (am) (st) (bk) (un) (tick ck) (ty) (tm) (tx) (ln) (rf) (dg) (dn) (rk) (pl) (iw) (wd) (wm) (od) (oc) (U) (st 2801) (p) (tick ck) (by first | assumption | omega) (by first | assumption | omega) (by first | assumption | omega) (by first | assumption | omega)) gX8_chosen_X8_scoreBy rfl hd_X8_scoreBy ⟨Nat.le_of_ble_eq_true rfl, Nat.le_of_ble_eq_true rfl⟩ ⟨rfl, rfl⟩ ⟨Nat.le_of_ble_eq_true rfl, Nat.le_of_ble_eq_true rfl⟩ (permBy [0] (by decide) rfl rfl) rfl rfl rfl rfl (Nat.le_of_ble_eq_true rfl) dX8_chosen_50 rfl (fun v w hq => ?_)
    obtain ⟨rfl, rfl⟩ := hq
    show V X 0 0 53 [(0, vP (am 0)), (1, vI p)] [vI (nsc (st 2801) (st (14 * p + 1)) (st (14 * p + 4)) (st (14 * p + 5)) (tick ck)), vI ((14 * p) + 1), vP (am 1)] [mdW am (st, bk, un, tick ck, ty, tm, tx, ln, rf, dg, dn, rk, pl, iw, wd, wm, od, oc)]
    refine i_iast (i := 0) (j := 1) (q := 54) (cs' := [mdW am (up st ((14 * p) + 1) (nsc (st 2801) (st (14 * p + 1)) (st (14 * p + 4)) (st (14 * p + 5)) (tick ck)), bk, un, tick ck, ty, tm, tx, ln, rf, dg, dn, rk, pl, iw, wd, wm, od, oc)]) C rfl rfl (by omega) dX8_chosen_53 rfl rfl ?_
    refine i_aload_n (j := 0) (q := 55) C rfl rfl dX8_chosen_54 rfl ?_
    refine i_get (i := 0) (j := 0) (f := 0) (q := 58) C rfl rfl rfl hi_X8_chosen_X8 (by decide) lk_X8_chosen_7 rfl dX8_chosen_55 rfl ?_
    refine i_bipush (q := 60) C (by decide) dX8_chosen_58 rfl ?_
    refine i_iload_n (j := 1) (q := 61) C rfl rfl dX8_chosen_60 rfl ?_
    refine i_imul (q := 62) C dX8_chosen_61 rfl ?_
    refine i_iconst (q := 63) C dX8_chosen_62 rfl ?_
    refine i_iadd (q := 64) C dX8_chosen_63 rfl ?_
    refine i_dup2 (q := 65) C rfl rfl dX8_chosen_64 rfl ?_
    refine i_iald (i := 0) (j := 1) (q := 66) C rfl rfl (by omega) dX8_chosen_65 rfl ?_
    skip
    refine V.top (b := st (14 * p + 4)) (by rw [up_n _ _ (by omega)]) ?_
    refine i_iconst (q := 67) C dX8_chosen_66 rfl ?_
    refine i_iadd (q := 68) C dX8_chosen_67 rfl ?_
    refine i_iast (i := 0) (j := 1) (q := 69) (cs' := [mdW am (up (up st ((14 * p) + 1) (nsc (st 2801) (st (14 * p + 1)) (st (14 * p + 4)) (st (14 * p + 5)) (tick ck))) ((14 * p) + 4) ((st (14 * p + 4)) + 1), bk, un, tick ck, ty, tm, tx, ln, rf, dg, dn, rk, pl, iw, wd, wm, od, oc)]) C rfl rfl (by omega) dX8_chosen_68 rfl rfl ?_
    refine i_aload_n (j := 0) (q := 70) C rfl rfl dX8_chosen_69 rfl ?_
    refine i_get (i := 0) (j := 0) (f := 0) (q := 73) C rfl rfl rfl hi_X8_chosen_X8 (by decide) lk_X8_chosen_7 rfl dX8_chosen_70 rfl ?_
    refine i_bipush (q := 75) C (by decide) dX8_chosen_73 rfl ?_
    refine i_iload_n (j := 1) (q := 76) C rfl rfl dX8_chosen_75 rfl ?_
    refine i_imul (q := 77) C dX8_chosen_76 rfl ?_
    refine i_iconst (q := 78) C dX8_chosen_77 rfl ?_
    refine i_iadd (q := 79) C dX8_chosen_78 rfl ?_
    refine i_aload_n (j := 0) (q := 80) C rfl rfl dX8_chosen_79 rfl ?_
    refine i_get (i := 0) (j := 0) (f := 3) (q := 83) C rfl rfl rfl hi_X8_chosen_X8 (by decide) lk_X8_chosen_50 rfl dX8_chosen_80 rfl ?_
    refine i_iast (i := 0) (j := 1) (q := 84) (cs' := [mdW am (up (up (up st ((14 * p) + 1) (nsc (st 2801) (st (14 * p + 1)) (st (14 * p + 4)) (st (14 * p + 5)) (tick ck))) ((14 * p) + 4) ((st (14 * p + 4)) + 1)) ((14 * p) + 5) (tick ck), bk, un, tick ck, ty, tm, tx, ln, rf, dg, dn, rk, pl, iw, wd, wm, od, oc)]) C rfl rfl (by omega) dX8_chosen_83 rfl rfl ?_
    refine i_aload_n (j := 0) (q := 85) C rfl rfl dX8_chosen_84 rfl ?_
    refine i_get (i := 0) (j := 0) (f := 0) (q := 88) C rfl rfl rfl hi_X8_chosen_X8 (by decide) lk_X8_chosen_7 rfl dX8_chosen_85 rfl ?_
    refine i_bipush (q := 90) C (by decide) dX8_chosen_88 rfl ?_
    refine i_iload_n (j := 1) (q := 91) C rfl rfl dX8_chosen_90 rfl ?_
    refine i_imul (q := 92) C dX8_chosen_91 rfl ?_
    refine i_iconst (q := 93) C dX8_chosen_92 rfl ?_
    refine i_iadd (q := 94) C dX8_chosen_93 rfl ?_
    refine i_iald (i := 0) (j := 1) (q := 95) C rfl rfl (by omega) dX8_chosen_94 rfl ?_
    skip
    refine V.top (b := nsc (st 2801) (st (14 * p + 1)) (st (14 * p + 4)) (st (14 * p + 5)) (tick ck)) (by rw [up_n _ _ (by omega), up_n _ _ (by omega), up_s]) ?_
    refine i_iret C hR dX8_chosen_95 ?_
    have w1 : ∀ k, k ≠ 14 * p + 1 → k ≠ 14 * p + 4 → k ≠ 14 * p + 5 → up (up (up st (14 * p + 1) (nsc (st 2801) (st (14 * p + 1)) (st (14 * p + 4)) (st (14 * p + 5)) (tick ck))) (14 * p + 4) (st (14 * p + 4) + 1)) (14 * p + 5) (tick ck) k = st k := fun k g1 g2 g3 => by rw [up_n _ _ g3, up_n _ _ g2, up_n _ _ g1]
    have v1 : up (up (up st (14 * p + 1) (nsc (st 2801) (st (14 * p + 1)) (st (14 * p + 4)) (st (14 * p + 5)) (tick ck))) (14 * p + 4) (st (14 * p + 4) + 1)) (14 * p + 5) (tick ck) (14 * p + 1) = nsc (st 2801) (st (14 * p + 1)) (st (14 * p + 4)) (st (14 * p + 5)) (tick ck) := by rw [up_n _ _ (by omega), up_n _ _ (by omega), up_s]
    have v4 : up (up (up st (14 * p + 1) (nsc (st 2801) (st (14 * p + 1)) (st (14 * p + 4)) (st (14 * p + 5)) (tick ck))) (14 * p + 4) (st (14 * p + 4) + 1)) (14 * p + 5) (tick ck) (14 * p + 4) = st (14 * p + 4) + 1 := by rw [up_n _ _ (by omega), up_s]
    have v5 : up (up (up st (14 * p + 1) (nsc (st 2801) (st (14 * p + 1)) (st (14 * p + 4)) (st (14 * p + 5)) (tick ck))) (14 * p + 4) (st (14 * p + 4) + 1)) (14 * p + 5) (tick ck) (14 * p + 5) = tick ck := by rw [up_s]
    obtain ⟨g1, g2⟩ := set_ok (U2 := U + 1) hs (by omega) (by omega) hp (fun y => (y.1, y.2.1, nsc (bo st).2.2.1 y.2.2.1 y.2.2.2.2.1 y.2.2.2.2.2 (tick ck), y.2.2.2.1, y.2.2.2.2.1 + 1, tick ck)) (fun k _ _ a b c => w1 k a b c) (by rw [v1]; exact hns) (by rw [v4]; omega) (by rw [v5]; omega) (fun _ => by rw [v1, v4, v5]; rfl)
    exact ⟨_, rfl, rfl, g1, g2⟩
  refine i_icmp_ne (tgt := 17) (q := 11) C (by omega) (by omega) dX8_chosen_8 (by decide) rfl (fun c_8 => ?_) (fun c_8 => ?_)
  · skip
    refine i_aload_n (j := 0) (q := 18) C rfl rfl dX8_chosen_17 rfl ?_
    refine i_get (i := 0) (j := 0) (f := 3) (q := 21) C rfl rfl rfl hi_X8_chosen_X8 (by decide) lk_X8_chosen_50 rfl dX8_chosen_18 rfl ?_
    refine i_iconst (q := 22) C dX8_chosen_21 rfl ?_
    refine i_iadd (q := 23) C dX8_chosen_22 rfl ?_
    exact join_23 (ck + 1) (by rw [htk1]; split <;> omega)
  · skip
    refine i_sipush (q := 14) C (by decide) dX8_chosen_11 rfl ?_
    refine i_goto (q := 23) C dX8_chosen_14 (by decide) ?_
    exact join_23 (9999) (by rw [htk1]; split <;> omega)

theorem lk_X8_halves_7 : Cond.fieldLink RX8 7 (TX8 0).1 (TX8 0).2.1 (TX8 0).2.2.1 ∈ wsX8_halves := List.mem_of_getElem? (i := 1) rfl
theorem hi_X8_halves_X8 : ∀ w ∈ u_ws RX8 TX8 18, w ∈ wsX8_halves := by decide +kernel
set_option maxHeartbeats 400000 in
set_option maxRecDepth 100000 in
theorem c_X8_halves (K : KT) (l : Launch) (am : Nat → Nat) (st : Int → Int) (bk : Int → Int) (un : Int) (ck : Int) (ty : Int → Int) (tm : Int) (tx : Int → Int) (ln : Int) (rf : Int → Int) (dg : Int) (dn : Int → Int) (rk : Int → Int) (pl : Int) (iw : Int) (wd : Int → Int) (wm : Int) (od : Int → Int) (oc : Int) (U : Int) (hs : okS U st) : Mt K l yX8_halves wsX8_halves ({ frames := 0, cells := 0, slots := 0, locals := 0 }) [vP (am 0)] [mdW am (st, bk, un, ck, ty, tm, tx, ln, rf, dg, dn, rk, pl, iw, wd, wm, od, oc)] 0 0 (fun v w => ∃ st3 : Int → Int, v = none ∧ w = [mdW am (st3, bk, un, ck, ty, tm, tx, ln, rf, dg, dn, rk, pl, iw, wd, wm, od, oc)] ∧ (bo st3 = halfB (bo st)) ∧ (okS U st3)) := by
  refine Mt.of (own := RX8) (cc := cX8_halves) (maxL := 2) (ret := none) (lv0 := [(0, vP (am 0))]) (by decide) rfl rfl (Nat.le_of_ble_eq_true rfl) rfl (fun X C hR hN => ?_)
  refine i_iconst (q := 1) C dX8_halves_0 rfl ?_
  refine i_istore_n (q := 2) (lv' := [(1, vI 0), (0, vP (am 0))]) C rfl (by decide) rfl dX8_halves_1 rfl ?_
  have loop_2 : ∀ (fuel : Nat) (p : Int) (st4 : Int → Int), ((st 2800 - p).toNat) < fuel → (0 ≤ p ∧ p ≤ st 2800) → (∀ q, 0 ≤ q → q < p → st4 (14 * q + 1) = st (14 * q + 1) / 2) → (∀ q, p ≤ q → st4 (14 * q + 1) = st (14 * q + 1)) → (∀ k, (∀ q, 0 ≤ q → q < st 2800 → k ≠ 14 * q + 1) → st4 k = st k) → V X 0 0 2 [(0, vP (am 0)), (1, vI p)] [] [mdW am (st4, bk, un, ck, ty, tm, tx, ln, rf, dg, dn, rk, pl, iw, wd, wm, od, oc)] := by
    intro fuel
    induction fuel with
    | zero => intro p st4 hz; exact absurd hz (Nat.not_lt_zero _)
    | succ fuel ih_2 =>
      intro p st4 hfu_2 hp hdone hrest hsame
      have hrest : ∀ q, p ≤ q → st4 (14 * q + 1) = st (14 * q + 1) := hrest
      refine i_iload_n (j := 1) (q := 3) C rfl rfl dX8_halves_2 rfl ?_
      refine i_aload_n (j := 0) (q := 4) C rfl rfl dX8_halves_3 rfl ?_
      refine i_get (i := 0) (j := 0) (f := 0) (q := 7) C rfl rfl rfl hi_X8_halves_X8 (by decide) lk_X8_halves_7 rfl dX8_halves_4 rfl ?_
      refine i_sipush (q := 10) C (by decide) dX8_halves_7 rfl ?_
      refine i_iald (i := 0) (j := 1) (q := 11) C rfl rfl (by omega) dX8_halves_10 rfl ?_
      have ld_10 := hs.gv
      refine V.top (b := st 2800) (hsame 2800 (fun q _ _ => by omega)) ?_
      refine i_icmp_ge (tgt := 35) (q := 14) C (by omega) (by omega) dX8_halves_11 (by decide) rfl (fun c_11 => ?_) (fun c_11 => ?_)
      · skip
        refine i_vret C hR dX8_halves_35 ?_
        obtain ⟨g1, g2⟩ := half_ok hs (fun q g0 g1 => hdone q g0 (by omega)) hsame
        exact ⟨st4, rfl, rfl, g1, g2⟩
      · skip
        refine i_aload_n (j := 0) (q := 15) C rfl rfl dX8_halves_14 rfl ?_
        refine i_get (i := 0) (j := 0) (f := 0) (q := 18) C rfl rfl rfl hi_X8_halves_X8 (by decide) lk_X8_halves_7 rfl dX8_halves_15 rfl ?_
        refine i_bipush (q := 20) C (by decide) dX8_halves_18 rfl ?_
        refine i_iload_n (j := 1) (q := 21) C rfl rfl dX8_halves_20 rfl ?_
        refine i_imul (q := 22) C dX8_halves_21 rfl ?_
        refine i_iconst (q := 23) C dX8_halves_22 rfl ?_
        refine i_iadd (q := 24) C dX8_halves_23 rfl ?_
        refine i_dup2 (q := 25) C rfl rfl dX8_halves_24 rfl ?_
        refine i_iald (i := 0) (j := 1) (q := 26) C rfl rfl (by omega) dX8_halves_25 rfl ?_
        have ld_25 := hs.gv
        refine V.top (b := st (14 * p + 1)) (hrest p (Int.le_refl p)) ?_
        refine i_iconst (q := 27) C dX8_halves_26 rfl ?_
        refine i_idiv (q := 28) C (by have := hs.k1 p (by omega) (by omega); omega) dX8_halves_27 rfl ?_
        refine i_iast (i := 0) (j := 1) (q := 29) (cs' := [mdW am (up st4 ((14 * p) + 1) ((st (14 * p + 1)) / 2), bk, un, ck, ty, tm, tx, ln, rf, dg, dn, rk, pl, iw, wd, wm, od, oc)]) C rfl rfl (by omega) dX8_halves_28 rfl rfl ?_
        refine i_iinc (j := 1) (q := 32) (lv' := [(1, vI (p + 1)), (0, vP (am 0))]) C rfl (by decide) rfl dX8_halves_29 rfl ?_
        refine i_goto (q := 2) C dX8_halves_32 (by decide) ?_
        refine V.lv [1, 0] rfl ?_
        exact ih_2 (p + 1) (up st4 ((14 * p) + 1) ((st (14 * p + 1)) / 2)) (by omega) (by omega) (fun q g0 g1 => by
          by_cases e : q = p
          · subst e; rw [up_s]
          · rw [up_n _ _ (by omega)]; exact hdone q g0 (by omega)) (fun q g0 => by rw [up_n _ _ (by omega)]; exact hrest q (by omega)) (fun k g => by rw [up_n _ _ (g p (by omega) (by omega))]; exact hsame k g)
  refine V.lv [1, 0] rfl ?_
  exact loop_2 _ (0) (st) (Nat.lt_succ_self _) (by have := hs.gv; omega) (fun q _ _ => by omega) (fun q _ => rfl) (fun k _ => rfl)

theorem lk_X8_draws_108 : Cond.fieldLink RX8 108 (TX8 9).1 (TX8 9).2.1 (TX8 9).2.2.1 ∈ wsX8_draws := List.mem_of_getElem? (i := 1) rfl
theorem hi_X8_draws_X8 : ∀ w ∈ u_ws RX8 TX8 18, w ∈ wsX8_draws := by decide +kernel
set_option maxHeartbeats 400000 in
set_option maxRecDepth 100000 in
theorem c_X8_draws (K : KT) (l : Launch) (am : Nat → Nat) (st : Int → Int) (bk : Int → Int) (un : Int) (ck : Int) (ty : Int → Int) (tm : Int) (tx : Int → Int) (ln : Int) (rf : Int → Int) (dg : Int) (dn : Int → Int) (rk : Int → Int) (pl : Int) (iw : Int) (wd : Int → Int) (wm : Int) (od : Int → Int) (oc : Int) (hdg : 0 ≤ dg ∧ dg < 2147483648) : Mt K l yX8_draws wsX8_draws ({ frames := 0, cells := 0, slots := 0, locals := 0 }) [vP (am 0)] [mdW am (st, bk, un, ck, ty, tm, tx, ln, rf, dg, dn, rk, pl, iw, wd, wm, od, oc)] 0 0 (fun v w => v = none ∧ w = [mdW am (st, bk, un, ck, ty, tm, tx, ln, rf, nxt dg, dn, rk, pl, iw, wd, wm, od, oc)]) := by
  refine Mt.of (own := RX8) (cc := cX8_draws) (maxL := 1) (ret := none) (lv0 := [(0, vP (am 0))]) (by decide) rfl rfl (Nat.le_of_ble_eq_true rfl) rfl (fun X C hR hN => ?_)
  refine i_aload_n (j := 0) (q := 1) C rfl rfl dX8_draws_0 rfl ?_
  refine i_aload_n (j := 0) (q := 2) C rfl rfl dX8_draws_1 rfl ?_
  refine i_get (i := 0) (j := 0) (f := 9) (q := 5) C rfl rfl rfl hi_X8_draws_X8 (by decide) lk_X8_draws_108 rfl dX8_draws_2 rfl ?_
  refine i_ldc2 (z := 1103515245) (q := 8) C (List.mem_of_getElem? (i := 2) rfl) dX8_draws_5 rfl ?_
  refine i_lmul (q := 9) C dX8_draws_8 rfl ?_
  refine i_ldc2 (z := 12345) (q := 12) C (List.mem_of_getElem? (i := 3) rfl) dX8_draws_9 rfl ?_
  refine i_ladd (q := 13) C dX8_draws_12 rfl ?_
  refine i_ldc2 (z := 2147483648) (q := 16) C (List.mem_of_getElem? (i := 4) rfl) dX8_draws_13 rfl ?_
  refine i_lrem (q := 17) C (by omega) dX8_draws_16 rfl ?_
  refine i_putJ (i := 0) (j := 0) (f := 9) (q := 20) (cs' := [mdW am (st, bk, un, ck, ty, tm, tx, ln, rf, ((dg * 1103515245) + 12345) % 2147483648, dn, rk, pl, iw, wd, wm, od, oc)]) C rfl rfl rfl hi_X8_draws_X8 tyX8 tyX8_ok nmX8 (by decide) (Nat.le_of_ble_eq_true rfl) lk_X8_draws_108 rfl rfl dX8_draws_17 rfl rfl ?_
  refine i_vret C hR dX8_draws_20 ?_
  exact ⟨rfl, rfl⟩
