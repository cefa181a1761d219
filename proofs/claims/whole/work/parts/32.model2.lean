theorem hd_X8_many : yX8_many.cls = RX8 ∧ yX8_many.cls ≠ "java/lang/invoke/MethodHandle" ∧ yX8_many.cls ≠ "java/lang/invoke/VarHandle" ∧ (parseMethodDescriptor yX8_many.desc).map (fun d => d.parameters.length) = some 0 := by decide +kernel
theorem lk_X8_mayCome_7 : Cond.fieldLink RX8 7 (TX8 0).1 (TX8 0).2.1 (TX8 0).2.2.1 ∈ wsX8_mayCome := List.mem_of_getElem? (i := 1) rfl
theorem hi_X8_mayCome_X8 : ∀ w ∈ u_ws RX8 TX8 18, w ∈ wsX8_mayCome := by decide +kernel
set_option maxHeartbeats 400000 in
set_option maxRecDepth 100000 in
theorem c_X8_mayCome (K : KT) (l : Launch) (am : Nat → Nat) (st : Int → Int) (bk : Int → Int) (un : Int) (ck : Int) (ty : Int → Int) (tm : Int) (tx : Int → Int) (ln : Int) (rf : Int → Int) (dg : Int) (dn : Int → Int) (rk : Int → Int) (pl : Int) (iw : Int) (wd : Int → Int) (wm : Int) (od : Int → Int) (oc : Int) (U : Int) (hs : okS U st) : Mt K l yX8_mayCome wsX8_mayCome ({ frames := 1, cells := 0, slots := 0, locals := 22 }) [vP (am 0)] [mdW am (st, bk, un, ck, ty, tm, tx, ln, rf, dg, dn, rk, pl, iw, wd, wm, od, oc)] 0 0 (fun v w => v = some (vI (if roomB (bo st) = true then 1 else 0)) ∧ w = [mdW am (st, bk, un, ck, ty, tm, tx, ln, rf, dg, dn, rk, pl, iw, wd, wm, od, oc)]) := by
  refine Mt.of (own := RX8) (cc := cX8_mayCome) (maxL := 1) (ret := (some .boolean)) (lv0 := [(0, vP (am 0))]) (by decide) rfl rfl (Nat.le_of_ble_eq_true rfl) rfl (fun X C hR hN => ?_)
  have hrm : roomB (bo st) = true ↔ ((ml st (st 2800).toNat).length : Int) < 40 ∧ st 2800 < 200 := by
    unfold roomB bo
    simp only [Bool.and_eq_true, decide_eq_true_eq]
    omega
  have hlen : ((ml st (st 2800).toNat).length : Int) ≤ 200 := by
    have h1 := ml_len st (st 2800).toNat
    have h2 := hs.gv
    omega
  refine i_aload_n (j := 0) (q := 1) C rfl rfl dX8_mayCome_0 rfl ?_
  refine i_callV (wr := []) (As := []) (st := []) (i := 0) (j := 0) (q := 4) C (c_X8_many K l (am) (st) (bk) (un) (ck) (ty) (tm) (tx) (ln) (rf) (dg) (dn) (rk) (pl) (iw) (wd) (wm) (od) (oc) (U) (by first | assumption | omega)) gX8_mayCome_X8_many rfl hd_X8_many ⟨Nat.le_of_ble_eq_true rfl, Nat.le_of_ble_eq_true rfl⟩ ⟨rfl, rfl⟩ ⟨Nat.le_of_ble_eq_true rfl, Nat.le_of_ble_eq_true rfl⟩ (permBy [0] (by decide) rfl rfl) rfl rfl rfl rfl (Nat.le_of_ble_eq_true rfl) dX8_mayCome_1 rfl (fun v w hq => ?_)
  obtain ⟨rfl, rfl⟩ := hq
  show V X 0 0 4 [(0, vP (am 0))] [vI ((ml st (st 2800).toNat).length : Int)] [mdW am (st, bk, un, ck, ty, tm, tx, ln, rf, dg, dn, rk, pl, iw, wd, wm, od, oc)]
  refine i_bipush (q := 6) C (by decide) dX8_mayCome_4 rfl ?_
  refine i_icmp_ge (tgt := 27) (q := 9) C (by omega) (by omega) dX8_mayCome_6 (by decide) rfl (fun c_6 => ?_) (fun c_6 => ?_)
  · skip
    refine i_iconst (q := 28) C dX8_mayCome_27 rfl ?_
    refine i_zret C hR (by omega) dX8_mayCome_28 ?_
    exact ⟨by simp only [Option.some.injEq, Sum.inl.injEq, hrm]; split <;> omega, rfl⟩
  · skip
    refine i_aload_n (j := 0) (q := 10) C rfl rfl dX8_mayCome_9 rfl ?_
    refine i_get (i := 0) (j := 0) (f := 0) (q := 13) C rfl rfl rfl hi_X8_mayCome_X8 (by decide) lk_X8_mayCome_7 rfl dX8_mayCome_10 rfl ?_
    refine i_sipush (q := 16) C (by decide) dX8_mayCome_13 rfl ?_
    refine i_iald (i := 0) (j := 1) (q := 17) C rfl rfl (by omega) dX8_mayCome_16 rfl ?_
    have ld_16 := hs.gv
    refine i_sipush (q := 20) C (by decide) dX8_mayCome_17 rfl ?_
    refine i_icmp_ge (tgt := 27) (q := 23) C (by omega) (by omega) dX8_mayCome_20 (by decide) rfl (fun c_20 => ?_) (fun c_20 => ?_)
    · skip
      refine i_iconst (q := 28) C dX8_mayCome_27 rfl ?_
      refine i_zret C hR (by omega) dX8_mayCome_28 ?_
      exact ⟨by simp only [Option.some.injEq, Sum.inl.injEq, hrm]; split <;> omega, rfl⟩
    · skip
      refine i_iconst (q := 24) C dX8_mayCome_23 rfl ?_
      refine i_goto (q := 28) C dX8_mayCome_24 (by decide) ?_
      refine i_zret C hR (by omega) dX8_mayCome_28 ?_
      exact ⟨by simp only [Option.some.injEq, Sum.inl.injEq, hrm]; split <;> omega, rfl⟩

theorem lk_X8_comes_7 : Cond.fieldLink RX8 7 (TX8 0).1 (TX8 0).2.1 (TX8 0).2.2.1 ∈ wsX8_comes := List.mem_of_getElem? (i := 1) rfl
theorem hi_X8_comes_X8 : ∀ w ∈ u_ws RX8 TX8 18, w ∈ wsX8_comes := by decide +kernel
theorem hd_X8_bring : yX8_bring.cls ≠ "java/lang/invoke/MethodHandle" ∧ yX8_bring.cls ≠ "java/lang/invoke/VarHandle" ∧ (parseMethodDescriptor yX8_bring.desc).map (fun d => d.parameters.length) = some 5 := by decide +kernel
set_option maxHeartbeats 400000 in
set_option maxRecDepth 100000 in
theorem c_X8_comes_ty (K : KT) (l : Launch) (am : Nat → Nat) (st : Int → Int) (bk : Int → Int) (un : Int) (ck : Int) (ty : Int → Int) (tm : Int) (tx : Int → Int) (ln : Int) (rf : Int → Int) (dg : Int) (dn : Int → Int) (rk : Int → Int) (pl : Int) (iw : Int) (wd : Int → Int) (wm : Int) (od : Int → Int) (oc : Int) (U : Int) (n : Int) (x : Int) (y : Int) (hs : okS U st) (hg : st 2800 < 200) (hn : 1 ≤ n ∧ n ≤ 8) : Mt K l yX8_comes wsX8_comes ({ frames := 1, cells := 0, slots := 0, locals := 25 }) [vP (am 0), vP (am 3), vI n, vI x, vI y] [mdW am (st, bk, un, ck, ty, tm, tx, ln, rf, dg, dn, rk, pl, iw, wd, wm, od, oc)] 0 0 (fun v w => v = some (vI (st 2800)) ∧ w = [mdW am (cmS st ty n x y, bk, un, ck, ty, tm, tx, ln, rf, dg, dn, rk, pl, iw, wd, wm, od, oc)]) := by
  refine Mt.of (own := RX8) (cc := cX8_comes) (maxL := 7) (ret := (some .int)) (lv0 := [(0, vP (am 0)), (1, vP (am 3)), (2, vI n), (3, vI x), (4, vI y)]) (by decide) rfl rfl (Nat.le_of_ble_eq_true rfl) rfl (fun X C hR hN => ?_)
  refine i_aload_n (j := 0) (q := 1) C rfl rfl dX8_comes_0 rfl ?_
  refine i_get (i := 0) (j := 0) (f := 0) (q := 4) C rfl rfl rfl hi_X8_comes_X8 (by decide) lk_X8_comes_7 rfl dX8_comes_1 rfl ?_
  refine i_sipush (q := 7) C (by decide) dX8_comes_4 rfl ?_
  refine i_iald (i := 0) (j := 1) (q := 8) C rfl rfl (by omega) dX8_comes_7 rfl ?_
  have ld_7 := hs.gv
  refine i_istore (q := 10) (lv' := [(5, vI (st 2800)), (0, vP (am 0)), (1, vP (am 3)), (2, vI n), (3, vI x), (4, vI y)]) C (by decide) rfl dX8_comes_8 rfl ?_
  refine i_bipush (q := 12) C (by decide) dX8_comes_10 rfl ?_
  refine i_iload (j := 0) (q := 14) C rfl dX8_comes_12 rfl ?_
  refine i_imul (q := 15) C dX8_comes_14 rfl ?_
  refine i_istore (q := 17) (lv' := [(6, vI (14 * (st 2800))), (5, vI (st 2800)), (0, vP (am 0)), (1, vP (am 3)), (2, vI n), (3, vI x), (4, vI y)]) C (by decide) rfl dX8_comes_15 rfl ?_
  refine i_aload_n (j := 2) (q := 18) C rfl rfl dX8_comes_17 rfl ?_
  refine i_get (i := 0) (j := 0) (f := 0) (q := 21) C rfl rfl rfl hi_X8_comes_X8 (by decide) lk_X8_comes_7 rfl dX8_comes_18 rfl ?_
  refine i_iload (j := 0) (q := 23) C rfl dX8_comes_21 rfl ?_
  refine i_iconst (q := 24) C dX8_comes_23 rfl ?_
  refine i_iast (i := 0) (j := 1) (q := 25) (cs' := [mdW am (up st (14 * (st 2800)) 1, bk, un, ck, ty, tm, tx, ln, rf, dg, dn, rk, pl, iw, wd, wm, od, oc)]) C rfl rfl (by omega) dX8_comes_24 rfl rfl ?_
  refine i_aload_n (j := 2) (q := 26) C rfl rfl dX8_comes_25 rfl ?_
  refine i_get (i := 0) (j := 0) (f := 0) (q := 29) C rfl rfl rfl hi_X8_comes_X8 (by decide) lk_X8_comes_7 rfl dX8_comes_26 rfl ?_
  refine i_iload (j := 0) (q := 31) C rfl dX8_comes_29 rfl ?_
  refine i_iconst (q := 32) C dX8_comes_31 rfl ?_
  refine i_iadd (q := 33) C dX8_comes_32 rfl ?_
  refine i_iload_n (j := 5) (q := 34) C rfl rfl dX8_comes_33 rfl ?_
  refine i_iast (i := 0) (j := 1) (q := 35) (cs' := [mdW am (up (up st (14 * (st 2800)) 1) ((14 * (st 2800)) + 1) x, bk, un, ck, ty, tm, tx, ln, rf, dg, dn, rk, pl, iw, wd, wm, od, oc)]) C rfl rfl (by omega) dX8_comes_34 rfl rfl ?_
  refine i_aload_n (j := 2) (q := 36) C rfl rfl dX8_comes_35 rfl ?_
  refine i_get (i := 0) (j := 0) (f := 0) (q := 39) C rfl rfl rfl hi_X8_comes_X8 (by decide) lk_X8_comes_7 rfl dX8_comes_36 rfl ?_
  refine i_iload (j := 0) (q := 41) C rfl dX8_comes_39 rfl ?_
  refine i_iconst (q := 42) C dX8_comes_41 rfl ?_
  refine i_iadd (q := 43) C dX8_comes_42 rfl ?_
  refine i_iload (j := 6) (q := 45) C rfl dX8_comes_43 rfl ?_
  refine i_iast (i := 0) (j := 1) (q := 46) (cs' := [mdW am (up (up (up st (14 * (st 2800)) 1) ((14 * (st 2800)) + 1) x) ((14 * (st 2800)) + 2) y, bk, un, ck, ty, tm, tx, ln, rf, dg, dn, rk, pl, iw, wd, wm, od, oc)]) C rfl rfl (by omega) dX8_comes_45 rfl rfl ?_
  refine i_aload_n (j := 2) (q := 47) C rfl rfl dX8_comes_46 rfl ?_
  refine i_get (i := 0) (j := 0) (f := 0) (q := 50) C rfl rfl rfl hi_X8_comes_X8 (by decide) lk_X8_comes_7 rfl dX8_comes_47 rfl ?_
  refine i_iload (j := 0) (q := 52) C rfl dX8_comes_50 rfl ?_
  refine i_iconst (q := 53) C dX8_comes_52 rfl ?_
  refine i_iadd (q := 54) C dX8_comes_53 rfl ?_
  refine i_iload_n (j := 4) (q := 55) C rfl rfl dX8_comes_54 rfl ?_
  refine i_iast (i := 0) (j := 1) (q := 56) (cs' := [mdW am (up (up (up (up st (14 * (st 2800)) 1) ((14 * (st 2800)) + 1) x) ((14 * (st 2800)) + 2) y) ((14 * (st 2800)) + 3) n, bk, un, ck, ty, tm, tx, ln, rf, dg, dn, rk, pl, iw, wd, wm, od, oc)]) C rfl rfl (by omega) dX8_comes_55 rfl rfl ?_
  refine i_aload_n (j := 2) (q := 57) C rfl rfl dX8_comes_56 rfl ?_
  refine i_get (i := 0) (j := 0) (f := 0) (q := 60) C rfl rfl rfl hi_X8_comes_X8 (by decide) lk_X8_comes_7 rfl dX8_comes_57 rfl ?_
  refine i_iload (j := 0) (q := 62) C rfl dX8_comes_60 rfl ?_
  refine i_iconst (q := 63) C dX8_comes_62 rfl ?_
  refine i_iadd (q := 64) C dX8_comes_63 rfl ?_
  refine i_iconst (q := 65) C dX8_comes_64 rfl ?_
  refine i_iast (i := 0) (j := 1) (q := 66) (cs' := [mdW am (up (up (up (up (up st (14 * (st 2800)) 1) ((14 * (st 2800)) + 1) x) ((14 * (st 2800)) + 2) y) ((14 * (st 2800)) + 3) n) ((14 * (st 2800)) + 4) 0, bk, un, ck, ty, tm, tx, ln, rf, dg, dn, rk, pl, iw, wd, wm, od, oc)]) C rfl rfl (by omega) dX8_comes_65 rfl rfl ?_
  refine i_aload_n (j := 2) (q := 67) C rfl rfl dX8_comes_66 rfl ?_
  refine i_get (i := 0) (j := 0) (f := 0) (q := 70) C rfl rfl rfl hi_X8_comes_X8 (by decide) lk_X8_comes_7 rfl dX8_comes_67 rfl ?_
  refine i_iload (j := 0) (q := 72) C rfl dX8_comes_70 rfl ?_
  refine i_iconst (q := 73) C dX8_comes_72 rfl ?_
  refine i_iadd (q := 74) C dX8_comes_73 rfl ?_
  refine i_iconst (q := 75) C dX8_comes_74 rfl ?_
  refine i_iast (i := 0) (j := 1) (q := 76) (cs' := [mdW am (up (up (up (up (up (up st (14 * (st 2800)) 1) ((14 * (st 2800)) + 1) x) ((14 * (st 2800)) + 2) y) ((14 * (st 2800)) + 3) n) ((14 * (st 2800)) + 4) 0) ((14 * (st 2800)) + 5) (-1), bk, un, ck, ty, tm, tx, ln, rf, dg, dn, rk, pl, iw, wd, wm, od, oc)]) C rfl rfl (by omega) dX8_comes_75 rfl rfl ?_
  refine i_aload_n (j := 3) (q := 77) C rfl rfl dX8_comes_76 rfl ?_
  refine i_iconst (q := 78) C dX8_comes_77 rfl ?_
  refine i_aload_n (j := 2) (q := 79) C rfl rfl dX8_comes_78 rfl ?_
  refine i_get (i := 0) (j := 0) (f := 0) (q := 82) C rfl rfl rfl hi_X8_comes_X8 (by decide) lk_X8_comes_7 rfl dX8_comes_79 rfl ?_
  refine i_iload (j := 0) (q := 84) C rfl dX8_comes_82 rfl ?_
  refine i_bipush (q := 86) C (by decide) dX8_comes_84 rfl ?_
  refine i_iadd (q := 87) C dX8_comes_86 rfl ?_
  refine i_iload_n (j := 4) (q := 88) C rfl rfl dX8_comes_87 rfl ?_
  refine i_callS (wr := []) (As := [vP (am 3), vI 0, vP (am 1), vI ((14 * (st 2800)) + 6), vI n]) (st := []) (q := 91) C (c_X8_bring_ty_st K l (am) (up (up (up (up (up (up st (14 * (st 2800)) 1) ((14 * (st 2800)) + 1) x) ((14 * (st 2800)) + 2) y) ((14 * (st 2800)) + 3) n) ((14 * (st 2800)) + 4) 0) ((14 * (st 2800)) + 5) (-1)) (bk) (un) (ck) (ty) (tm) (tx) (ln) (rf) (dg) (dn) (rk) (pl) (iw) (wd) (wm) (od) (oc) (0) ((14 * (st 2800)) + 6) (n) (by first | assumption | omega) (by first | assumption | omega) (by first | assumption | omega)) gX8_comes_X8_bring rfl hd_X8_bring ⟨Nat.le_of_ble_eq_true rfl, Nat.le_of_ble_eq_true rfl⟩ ⟨rfl, rfl⟩ ⟨Nat.le_of_ble_eq_true rfl, Nat.le_of_ble_eq_true rfl⟩ (permBy [0] (by decide) rfl rfl) rfl (Nat.le_of_ble_eq_true rfl) dX8_comes_88 rfl (fun v w hq => ?_)
  obtain ⟨rfl, rfl⟩ := hq
  show V X 0 0 91 [(6, vI (14 * (st 2800))), (5, vI (st 2800)), (0, vP (am 0)), (1, vP (am 3)), (2, vI n), (3, vI x), (4, vI y)] [] [mdW am (cpy ty 0 (up (up (up (up (up (up st (14 * (st 2800)) 1) ((14 * (st 2800)) + 1) x) ((14 * (st 2800)) + 2) y) ((14 * (st 2800)) + 3) n) ((14 * (st 2800)) + 4) 0) ((14 * (st 2800)) + 5) (-1)) ((14 * (st 2800)) + 6) n, bk, un, ck, ty, tm, tx, ln, rf, dg, dn, rk, pl, iw, wd, wm, od, oc)]
  refine i_aload_n (j := 2) (q := 92) C rfl rfl dX8_comes_91 rfl ?_
  refine i_get (i := 0) (j := 0) (f := 0) (q := 95) C rfl rfl rfl hi_X8_comes_X8 (by decide) lk_X8_comes_7 rfl dX8_comes_92 rfl ?_
  refine i_sipush (q := 98) C (by decide) dX8_comes_95 rfl ?_
  refine i_dup2 (q := 99) C rfl rfl dX8_comes_98 rfl ?_
  refine i_iald (i := 0) (j := 1) (q := 100) C rfl rfl (by omega) dX8_comes_99 rfl ?_
  skip
  refine V.top (b := st 2800) (by have := hs.gv; rw [cpy_out _ _ _ _ _ _ (by omega), up_n _ _ (by omega), up_n _ _ (by omega), up_n _ _ (by omega), up_n _ _ (by omega), up_n _ _ (by omega), up_n _ _ (by omega)]) ?_
  refine i_iconst (q := 101) C dX8_comes_100 rfl ?_
  refine i_iadd (q := 102) C dX8_comes_101 rfl ?_
  refine i_iast (i := 0) (j := 1) (q := 103) (cs' := [mdW am (up (cpy ty 0 (up (up (up (up (up (up st (14 * (st 2800)) 1) ((14 * (st 2800)) + 1) x) ((14 * (st 2800)) + 2) y) ((14 * (st 2800)) + 3) n) ((14 * (st 2800)) + 4) 0) ((14 * (st 2800)) + 5) (-1)) ((14 * (st 2800)) + 6) n) 2800 ((st 2800) + 1), bk, un, ck, ty, tm, tx, ln, rf, dg, dn, rk, pl, iw, wd, wm, od, oc)]) C rfl rfl (by omega) dX8_comes_102 rfl rfl ?_
  refine i_iload (j := 1) (q := 105) C rfl dX8_comes_103 rfl ?_
  refine i_iret C hR dX8_comes_105 ?_
  exact ⟨rfl, rfl⟩

set_option maxHeartbeats 400000 in
set_option maxRecDepth 100000 in
theorem c_X8_comes_dn (K : KT) (l : Launch) (am : Nat → Nat) (st : Int → Int) (bk : Int → Int) (un : Int) (ck : Int) (ty : Int → Int) (tm : Int) (tx : Int → Int) (ln : Int) (rf : Int → Int) (dg : Int) (dn : Int → Int) (rk : Int → Int) (pl : Int) (iw : Int) (wd : Int → Int) (wm : Int) (od : Int → Int) (oc : Int) (U : Int) (n : Int) (x : Int) (y : Int) (hs : okS U st) (hg : st 2800 < 200) (hn : 1 ≤ n ∧ n ≤ 8) : Mt K l yX8_comes wsX8_comes ({ frames := 1, cells := 0, slots := 0, locals := 25 }) [vP (am 0), vP (am 6), vI n, vI x, vI y] [mdW am (st, bk, un, ck, ty, tm, tx, ln, rf, dg, dn, rk, pl, iw, wd, wm, od, oc)] 0 0 (fun v w => v = some (vI (st 2800)) ∧ w = [mdW am (cmS st dn n x y, bk, un, ck, ty, tm, tx, ln, rf, dg, dn, rk, pl, iw, wd, wm, od, oc)]) := by
  refine Mt.of (own := RX8) (cc := cX8_comes) (maxL := 7) (ret := (some .int)) (lv0 := [(0, vP (am 0)), (1, vP (am 6)), (2, vI n), (3, vI x), (4, vI y)]) (by decide) rfl rfl (Nat.le_of_ble_eq_true rfl) rfl (fun X C hR hN => ?_)
  refine i_aload_n (j := 0) (q := 1) C rfl rfl dX8_comes_0 rfl ?_
  refine i_get (i := 0) (j := 0) (f := 0) (q := 4) C rfl rfl rfl hi_X8_comes_X8 (by decide) lk_X8_comes_7 rfl dX8_comes_1 rfl ?_
  refine i_sipush (q := 7) C (by decide) dX8_comes_4 rfl ?_
  refine i_iald (i := 0) (j := 1) (q := 8) C rfl rfl (by omega) dX8_comes_7 rfl ?_
  have ld_7 := hs.gv
  refine i_istore (q := 10) (lv' := [(5, vI (st 2800)), (0, vP (am 0)), (1, vP (am 6)), (2, vI n), (3, vI x), (4, vI y)]) C (by decide) rfl dX8_comes_8 rfl ?_
  refine i_bipush (q := 12) C (by decide) dX8_comes_10 rfl ?_
  refine i_iload (j := 0) (q := 14) C rfl dX8_comes_12 rfl ?_
  refine i_imul (q := 15) C dX8_comes_14 rfl ?_
  refine i_istore (q := 17) (lv' := [(6, vI (14 * (st 2800))), (5, vI (st 2800)), (0, vP (am 0)), (1, vP (am 6)), (2, vI n), (3, vI x), (4, vI y)]) C (by decide) rfl dX8_comes_15 rfl ?_
  refine i_aload_n (j := 2) (q := 18) C rfl rfl dX8_comes_17 rfl ?_
  refine i_get (i := 0) (j := 0) (f := 0) (q := 21) C rfl rfl rfl hi_X8_comes_X8 (by decide) lk_X8_comes_7 rfl dX8_comes_18 rfl ?_
  refine i_iload (j := 0) (q := 23) C rfl dX8_comes_21 rfl ?_
  refine i_iconst (q := 24) C dX8_comes_23 rfl ?_
  refine i_iast (i := 0) (j := 1) (q := 25) (cs' := [mdW am (up st (14 * (st 2800)) 1, bk, un, ck, ty, tm, tx, ln, rf, dg, dn, rk, pl, iw, wd, wm, od, oc)]) C rfl rfl (by omega) dX8_comes_24 rfl rfl ?_
  refine i_aload_n (j := 2) (q := 26) C rfl rfl dX8_comes_25 rfl ?_
  refine i_get (i := 0) (j := 0) (f := 0) (q := 29) C rfl rfl rfl hi_X8_comes_X8 (by decide) lk_X8_comes_7 rfl dX8_comes_26 rfl ?_
  refine i_iload (j := 0) (q := 31) C rfl dX8_comes_29 rfl ?_
  refine i_iconst (q := 32) C dX8_comes_31 rfl ?_
  refine i_iadd (q := 33) C dX8_comes_32 rfl ?_
  refine i_iload_n (j := 5) (q := 34) C rfl rfl dX8_comes_33 rfl ?_
  refine i_iast (i := 0) (j := 1) (q := 35) (cs' := [mdW am (up (up st (14 * (st 2800)) 1) ((14 * (st 2800)) + 1) x, bk, un, ck, ty, tm, tx, ln, rf, dg, dn, rk, pl, iw, wd, wm, od, oc)]) C rfl rfl (by omega) dX8_comes_34 rfl rfl ?_
  refine i_aload_n (j := 2) (q := 36) C rfl rfl dX8_comes_35 rfl ?_
  refine i_get (i := 0) (j := 0) (f := 0) (q := 39) C rfl rfl rfl hi_X8_comes_X8 (by decide) lk_X8_comes_7 rfl dX8_comes_36 rfl ?_
  refine i_iload (j := 0) (q := 41) C rfl dX8_comes_39 rfl ?_
  refine i_iconst (q := 42) C dX8_comes_41 rfl ?_
  refine i_iadd (q := 43) C dX8_comes_42 rfl ?_
  refine i_iload (j := 6) (q := 45) C rfl dX8_comes_43 rfl ?_
  refine i_iast (i := 0) (j := 1) (q := 46) (cs' := [mdW am (up (up (up st (14 * (st 2800)) 1) ((14 * (st 2800)) + 1) x) ((14 * (st 2800)) + 2) y, bk, un, ck, ty, tm, tx, ln, rf, dg, dn, rk, pl, iw, wd, wm, od, oc)]) C rfl rfl (by omega) dX8_comes_45 rfl rfl ?_
  refine i_aload_n (j := 2) (q := 47) C rfl rfl dX8_comes_46 rfl ?_
  refine i_get (i := 0) (j := 0) (f := 0) (q := 50) C rfl rfl rfl hi_X8_comes_X8 (by decide) lk_X8_comes_7 rfl dX8_comes_47 rfl ?_
  refine i_iload (j := 0) (q := 52) C rfl dX8_comes_50 rfl ?_
  refine i_iconst (q := 53) C dX8_comes_52 rfl ?_
  refine i_iadd (q := 54) C dX8_comes_53 rfl ?_
  refine i_iload_n (j := 4) (q := 55) C rfl rfl dX8_comes_54 rfl ?_
  refine i_iast (i := 0) (j := 1) (q := 56) (cs' := [mdW am (up (up (up (up st (14 * (st 2800)) 1) ((14 * (st 2800)) + 1) x) ((14 * (st 2800)) + 2) y) ((14 * (st 2800)) + 3) n, bk, un, ck, ty, tm, tx, ln, rf, dg, dn, rk, pl, iw, wd, wm, od, oc)]) C rfl rfl (by omega) dX8_comes_55 rfl rfl ?_
  refine i_aload_n (j := 2) (q := 57) C rfl rfl dX8_comes_56 rfl ?_
  refine i_get (i := 0) (j := 0) (f := 0) (q := 60) C rfl rfl rfl hi_X8_comes_X8 (by decide) lk_X8_comes_7 rfl dX8_comes_57 rfl ?_
  refine i_iload (j := 0) (q := 62) C rfl dX8_comes_60 rfl ?_
  refine i_iconst (q := 63) C dX8_comes_62 rfl ?_
  refine i_iadd (q := 64) C dX8_comes_63 rfl ?_
  refine i_iconst (q := 65) C dX8_comes_64 rfl ?_
  refine i_iast (i := 0) (j := 1) (q := 66) (cs' := [mdW am (up (up (up (up (up st (14 * (st 2800)) 1) ((14 * (st 2800)) + 1) x) ((14 * (st 2800)) + 2) y) ((14 * (st 2800)) + 3) n) ((14 * (st 2800)) + 4) 0, bk, un, ck, ty, tm, tx, ln, rf, dg, dn, rk, pl, iw, wd, wm, od, oc)]) C rfl rfl (by omega) dX8_comes_65 rfl rfl ?_
  refine i_aload_n (j := 2) (q := 67) C rfl rfl dX8_comes_66 rfl ?_
  refine i_get (i := 0) (j := 0) (f := 0) (q := 70) C rfl rfl rfl hi_X8_comes_X8 (by decide) lk_X8_comes_7 rfl dX8_comes_67 rfl ?_
  refine i_iload (j := 0) (q := 72) C rfl dX8_comes_70 rfl ?_
  refine i_iconst (q := 73) C dX8_comes_72 rfl ?_
  refine i_iadd (q := 74) C dX8_comes_73 rfl ?_
  refine i_iconst (q := 75) C dX8_comes_74 rfl ?_
  refine i_iast (i := 0) (j := 1) (q := 76) (cs' := [mdW am (up (up (up (up (up (up st (14 * (st 2800)) 1) ((14 * (st 2800)) + 1) x) ((14 * (st 2800)) + 2) y) ((14 * (st 2800)) + 3) n) ((14 * (st 2800)) + 4) 0) ((14 * (st 2800)) + 5) (-1), bk, un, ck, ty, tm, tx, ln, rf, dg, dn, rk, pl, iw, wd, wm, od, oc)]) C rfl rfl (by omega) dX8_comes_75 rfl rfl ?_
  refine i_aload_n (j := 3) (q := 77) C rfl rfl dX8_comes_76 rfl ?_
  refine i_iconst (q := 78) C dX8_comes_77 rfl ?_
  refine i_aload_n (j := 2) (q := 79) C rfl rfl dX8_comes_78 rfl ?_
  refine i_get (i := 0) (j := 0) (f := 0) (q := 82) C rfl rfl rfl hi_X8_comes_X8 (by decide) lk_X8_comes_7 rfl dX8_comes_79 rfl ?_
  refine i_iload (j := 0) (q := 84) C rfl dX8_comes_82 rfl ?_
  refine i_bipush (q := 86) C (by decide) dX8_comes_84 rfl ?_
  refine i_iadd (q := 87) C dX8_comes_86 rfl ?_
  refine i_iload_n (j := 4) (q := 88) C rfl rfl dX8_comes_87 rfl ?_
  refine i_callS (wr := []) (As := [vP (am 6), vI 0, vP (am 1), vI ((14 * (st 2800)) + 6), vI n]) (st := []) (q := 91) C (c_X8_bring_dn_st K l (am) (up (up (up (up (up (up st (14 * (st 2800)) 1) ((14 * (st 2800)) + 1) x) ((14 * (st 2800)) + 2) y) ((14 * (st 2800)) + 3) n) ((14 * (st 2800)) + 4) 0) ((14 * (st 2800)) + 5) (-1)) (bk) (un) (ck) (ty) (tm) (tx) (ln) (rf) (dg) (dn) (rk) (pl) (iw) (wd) (wm) (od) (oc) (0) ((14 * (st 2800)) + 6) (n) (by first | assumption | omega) (by first | assumption | omega) (by first | assumption | omega)) gX8_comes_X8_bring rfl hd_X8_bring ⟨Nat.le_of_ble_eq_true rfl, Nat.le_of_ble_eq_true rfl⟩ ⟨rfl, rfl⟩ ⟨Nat.le_of_ble_eq_true rfl, Nat.le_of_ble_eq_true rfl⟩ (permBy [0] (by decide) rfl rfl) rfl (Nat.le_of_ble_eq_true rfl) dX8_comes_88 rfl (fun v w hq => ?_)
  obtain ⟨rfl, rfl⟩ := hq
  show V X 0 0 91 [(6, vI (14 * (st 2800))), (5, vI (st 2800)), (0, vP (am 0)), (1, vP (am 6)), (2, vI n), (3, vI x), (4, vI y)] [] [mdW am (cpy dn 0 (up (up (up (up (up (up st (14 * (st 2800)) 1) ((14 * (st 2800)) + 1) x) ((14 * (st 2800)) + 2) y) ((14 * (st 2800)) + 3) n) ((14 * (st 2800)) + 4) 0) ((14 * (st 2800)) + 5) (-1)) ((14 * (st 2800)) + 6) n, bk, un, ck, ty, tm, tx, ln, rf, dg, dn, rk, pl, iw, wd, wm, od, oc)]
  refine i_aload_n (j := 2) (q := 92) C rfl rfl dX8_comes_91 rfl ?_
  refine i_get (i := 0) (j := 0) (f := 0) (q := 95) C rfl rfl rfl hi_X8_comes_X8 (by decide) lk_X8_comes_7 rfl dX8_comes_92 rfl ?_
  refine i_sipush (q := 98) C (by decide) dX8_comes_95 rfl ?_
  refine i_dup2 (q := 99) C rfl rfl dX8_comes_98 rfl ?_
  refine i_iald (i := 0) (j := 1) (q := 100) C rfl rfl (by omega) dX8_comes_99 rfl ?_
  skip
  refine V.top (b := st 2800) (by have := hs.gv; rw [cpy_out _ _ _ _ _ _ (by omega), up_n _ _ (by omega), up_n _ _ (by omega), up_n _ _ (by omega), up_n _ _ (by omega), up_n _ _ (by omega), up_n _ _ (by omega)]) ?_
  refine i_iconst (q := 101) C dX8_comes_100 rfl ?_
  refine i_iadd (q := 102) C dX8_comes_101 rfl ?_
  refine i_iast (i := 0) (j := 1) (q := 103) (cs' := [mdW am (up (cpy dn 0 (up (up (up (up (up (up st (14 * (st 2800)) 1) ((14 * (st 2800)) + 1) x) ((14 * (st 2800)) + 2) y) ((14 * (st 2800)) + 3) n) ((14 * (st 2800)) + 4) 0) ((14 * (st 2800)) + 5) (-1)) ((14 * (st 2800)) + 6) n) 2800 ((st 2800) + 1), bk, un, ck, ty, tm, tx, ln, rf, dg, dn, rk, pl, iw, wd, wm, od, oc)]) C rfl rfl (by omega) dX8_comes_102 rfl rfl ?_
  refine i_iload (j := 1) (q := 105) C rfl dX8_comes_103 rfl ?_
  refine i_iret C hR dX8_comes_105 ?_
  exact ⟨rfl, rfl⟩

set_option maxHeartbeats 400000 in
set_option maxRecDepth 100000 in
theorem c_X8_comes_wd (K : KT) (l : Launch) (am : Nat → Nat) (st : Int → Int) (bk : Int → Int) (un : Int) (ck : Int) (ty : Int → Int) (tm : Int) (tx : Int → Int) (ln : Int) (rf : Int → Int) (dg : Int) (dn : Int → Int) (rk : Int → Int) (pl : Int) (iw : Int) (wd : Int → Int) (wm : Int) (od : Int → Int) (oc : Int) (U : Int) (n : Int) (x : Int) (y : Int) (hs : okS U st) (hg : st 2800 < 200) (hn : 1 ≤ n ∧ n ≤ 8) : Mt K l yX8_comes wsX8_comes ({ frames := 1, cells := 0, slots := 0, locals := 25 }) [vP (am 0), vP (am 8), vI n, vI x, vI y] [mdW am (st, bk, un, ck, ty, tm, tx, ln, rf, dg, dn, rk, pl, iw, wd, wm, od, oc)] 0 0 (fun v w => v = some (vI (st 2800)) ∧ w = [mdW am (cmS st wd n x y, bk, un, ck, ty, tm, tx, ln, rf, dg, dn, rk, pl, iw, wd, wm, od, oc)]) := by
  refine Mt.of (own := RX8) (cc := cX8_comes) (maxL := 7) (ret := (some .int)) (lv0 := [(0, vP (am 0)), (1, vP (am 8)), (2, vI n), (3, vI x), (4, vI y)]) (by decide) rfl rfl (Nat.le_of_ble_eq_true rfl) rfl (fun X C hR hN => ?_)
  refine i_aload_n (j := 0) (q := 1) C rfl rfl dX8_comes_0 rfl ?_
  refine i_get (i := 0) (j := 0) (f := 0) (q := 4) C rfl rfl rfl hi_X8_comes_X8 (by decide) lk_X8_comes_7 rfl dX8_comes_1 rfl ?_
  refine i_sipush (q := 7) C (by decide) dX8_comes_4 rfl ?_
  refine i_iald (i := 0) (j := 1) (q := 8) C rfl rfl (by omega) dX8_comes_7 rfl ?_
  have ld_7 := hs.gv
  refine i_istore (q := 10) (lv' := [(5, vI (st 2800)), (0, vP (am 0)), (1, vP (am 8)), (2, vI n), (3, vI x), (4, vI y)]) C (by decide) rfl dX8_comes_8 rfl ?_
  refine i_bipush (q := 12) C (by decide) dX8_comes_10 rfl ?_
  refine i_iload (j := 0) (q := 14) C rfl dX8_comes_12 rfl ?_
  refine i_imul (q := 15) C dX8_comes_14 rfl ?_
  refine i_istore (q := 17) (lv' := [(6, vI (14 * (st 2800))), (5, vI (st 2800)), (0, vP (am 0)), (1, vP (am 8)), (2, vI n), (3, vI x), (4, vI y)]) C (by decide) rfl dX8_comes_15 rfl ?_
  refine i_aload_n (j := 2) (q := 18) C rfl rfl dX8_comes_17 rfl ?_
  refine i_get (i := 0) (j := 0) (f := 0) (q := 21) C rfl rfl rfl hi_X8_comes_X8 (by decide) lk_X8_comes_7 rfl dX8_comes_18 rfl ?_
  refine i_iload (j := 0) (q := 23) C rfl dX8_comes_21 rfl ?_
  refine i_iconst (q := 24) C dX8_comes_23 rfl ?_
  refine i_iast (i := 0) (j := 1) (q := 25) (cs' := [mdW am (up st (14 * (st 2800)) 1, bk, un, ck, ty, tm, tx, ln, rf, dg, dn, rk, pl, iw, wd, wm, od, oc)]) C rfl rfl (by omega) dX8_comes_24 rfl rfl ?_
  refine i_aload_n (j := 2) (q := 26) C rfl rfl dX8_comes_25 rfl ?_
  refine i_get (i := 0) (j := 0) (f := 0) (q := 29) C rfl rfl rfl hi_X8_comes_X8 (by decide) lk_X8_comes_7 rfl dX8_comes_26 rfl ?_
  refine i_iload (j := 0) (q := 31) C rfl dX8_comes_29 rfl ?_
  refine i_iconst (q := 32) C dX8_comes_31 rfl ?_
  refine i_iadd (q := 33) C dX8_comes_32 rfl ?_
  refine i_iload_n (j := 5) (q := 34) C rfl rfl dX8_comes_33 rfl ?_
  refine i_iast (i := 0) (j := 1) (q := 35) (cs' := [mdW am (up (up st (14 * (st 2800)) 1) ((14 * (st 2800)) + 1) x, bk, un, ck, ty, tm, tx, ln, rf, dg, dn, rk, pl, iw, wd, wm, od, oc)]) C rfl rfl (by omega) dX8_comes_34 rfl rfl ?_
  refine i_aload_n (j := 2) (q := 36) C rfl rfl dX8_comes_35 rfl ?_
  refine i_get (i := 0) (j := 0) (f := 0) (q := 39) C rfl rfl rfl hi_X8_comes_X8 (by decide) lk_X8_comes_7 rfl dX8_comes_36 rfl ?_
  refine i_iload (j := 0) (q := 41) C rfl dX8_comes_39 rfl ?_
  refine i_iconst (q := 42) C dX8_comes_41 rfl ?_
  refine i_iadd (q := 43) C dX8_comes_42 rfl ?_
  refine i_iload (j := 6) (q := 45) C rfl dX8_comes_43 rfl ?_
  refine i_iast (i := 0) (j := 1) (q := 46) (cs' := [mdW am (up (up (up st (14 * (st 2800)) 1) ((14 * (st 2800)) + 1) x) ((14 * (st 2800)) + 2) y, bk, un, ck, ty, tm, tx, ln, rf, dg, dn, rk, pl, iw, wd, wm, od, oc)]) C rfl rfl (by omega) dX8_comes_45 rfl rfl ?_
  refine i_aload_n (j := 2) (q := 47) C rfl rfl dX8_comes_46 rfl ?_
  refine i_get (i := 0) (j := 0) (f := 0) (q := 50) C rfl rfl rfl hi_X8_comes_X8 (by decide) lk_X8_comes_7 rfl dX8_comes_47 rfl ?_
  refine i_iload (j := 0) (q := 52) C rfl dX8_comes_50 rfl ?_
  refine i_iconst (q := 53) C dX8_comes_52 rfl ?_
  refine i_iadd (q := 54) C dX8_comes_53 rfl ?_
  refine i_iload_n (j := 4) (q := 55) C rfl rfl dX8_comes_54 rfl ?_
  refine i_iast (i := 0) (j := 1) (q := 56) (cs' := [mdW am (up (up (up (up st (14 * (st 2800)) 1) ((14 * (st 2800)) + 1) x) ((14 * (st 2800)) + 2) y) ((14 * (st 2800)) + 3) n, bk, un, ck, ty, tm, tx, ln, rf, dg, dn, rk, pl, iw, wd, wm, od, oc)]) C rfl rfl (by omega) dX8_comes_55 rfl rfl ?_
  refine i_aload_n (j := 2) (q := 57) C rfl rfl dX8_comes_56 rfl ?_
  refine i_get (i := 0) (j := 0) (f := 0) (q := 60) C rfl rfl rfl hi_X8_comes_X8 (by decide) lk_X8_comes_7 rfl dX8_comes_57 rfl ?_
  refine i_iload (j := 0) (q := 62) C rfl dX8_comes_60 rfl ?_
  refine i_iconst (q := 63) C dX8_comes_62 rfl ?_
  refine i_iadd (q := 64) C dX8_comes_63 rfl ?_
  refine i_iconst (q := 65) C dX8_comes_64 rfl ?_
  refine i_iast (i := 0) (j := 1) (q := 66) (cs' := [mdW am (up (up (up (up (up st (14 * (st 2800)) 1) ((14 * (st 2800)) + 1) x) ((14 * (st 2800)) + 2) y) ((14 * (st 2800)) + 3) n) ((14 * (st 2800)) + 4) 0, bk, un, ck, ty, tm, tx, ln, rf, dg, dn, rk, pl, iw, wd, wm, od, oc)]) C rfl rfl (by omega) dX8_comes_65 rfl rfl ?_
  refine i_aload_n (j := 2) (q := 67) C rfl rfl dX8_comes_66 rfl ?_
  refine i_get (i := 0) (j := 0) (f := 0) (q := 70) C rfl rfl rfl hi_X8_comes_X8 (by decide) lk_X8_comes_7 rfl dX8_comes_67 rfl ?_
  refine i_iload (j := 0) (q := 72) C rfl dX8_comes_70 rfl ?_
  refine i_iconst (q := 73) C dX8_comes_72 rfl ?_
  refine i_iadd (q := 74) C dX8_comes_73 rfl ?_
  refine i_iconst (q := 75) C dX8_comes_74 rfl ?_
  refine i_iast (i := 0) (j := 1) (q := 76) (cs' := [mdW am (up (up (up (up (up (up st (14 * (st 2800)) 1) ((14 * (st 2800)) + 1) x) ((14 * (st 2800)) + 2) y) ((14 * (st 2800)) + 3) n) ((14 * (st 2800)) + 4) 0) ((14 * (st 2800)) + 5) (-1), bk, un, ck, ty, tm, tx, ln, rf, dg, dn, rk, pl, iw, wd, wm, od, oc)]) C rfl rfl (by omega) dX8_comes_75 rfl rfl ?_
  refine i_aload_n (j := 3) (q := 77) C rfl rfl dX8_comes_76 rfl ?_
  refine i_iconst (q := 78) C dX8_comes_77 rfl ?_
  refine i_aload_n (j := 2) (q := 79) C rfl rfl dX8_comes_78 rfl ?_
  refine i_get (i := 0) (j := 0) (f := 0) (q := 82) C rfl rfl rfl hi_X8_comes_X8 (by decide) lk_X8_comes_7 rfl dX8_comes_79 rfl ?_
  refine i_iload (j := 0) (q := 84) C rfl dX8_comes_82 rfl ?_
  refine i_bipush (q := 86) C (by decide) dX8_comes_84 rfl ?_
  refine i_iadd (q := 87) C dX8_comes_86 rfl ?_
  refine i_iload_n (j := 4) (q := 88) C rfl rfl dX8_comes_87 rfl ?_
  refine i_callS (wr := []) (As := [vP (am 8), vI 0, vP (am 1), vI ((14 * (st 2800)) + 6), vI n]) (st := []) (q := 91) C (c_X8_bring_wd_st K l (am) (up (up (up (up (up (up st (14 * (st 2800)) 1) ((14 * (st 2800)) + 1) x) ((14 * (st 2800)) + 2) y) ((14 * (st 2800)) + 3) n) ((14 * (st 2800)) + 4) 0) ((14 * (st 2800)) + 5) (-1)) (bk) (un) (ck) (ty) (tm) (tx) (ln) (rf) (dg) (dn) (rk) (pl) (iw) (wd) (wm) (od) (oc) (0) ((14 * (st 2800)) + 6) (n) (by first | assumption | omega) (by first | assumption | omega) (by first | assumption | omega)) gX8_comes_X8_bring rfl hd_X8_bring ⟨Nat.le_of_ble_eq_true rfl, Nat.le_of_ble_eq_true rfl⟩ ⟨rfl, rfl⟩ ⟨Nat.le_of_ble_eq_true rfl, Nat.le_of_ble_eq_true rfl⟩ (permBy [0] (by decide) rfl rfl) rfl (Nat.le_of_ble_eq_true rfl) dX8_comes_88 rfl (fun v w hq => ?_)
  obtain ⟨rfl, rfl⟩ := hq
  show V X 0 0 91 [(6, vI (14 * (st 2800))), (5, vI (st 2800)), (0, vP (am 0)), (1, vP (am 8)), (2, vI n), (3, vI x), (4, vI y)] [] [mdW am (cpy wd 0 (up (up (up (up (up (up st (14 * (st 2800)) 1) ((14 * (st 2800)) + 1) x) ((14 * (st 2800)) + 2) y) ((14 * (st 2800)) + 3) n) ((14 * (st 2800)) + 4) 0) ((14 * (st 2800)) + 5) (-1)) ((14 * (st 2800)) + 6) n, bk, un, ck, ty, tm, tx, ln, rf, dg, dn, rk, pl, iw, wd, wm, od, oc)]
  refine i_aload_n (j := 2) (q := 92) C rfl rfl dX8_comes_91 rfl ?_
  refine i_get (i := 0) (j := 0) (f := 0) (q := 95) C rfl rfl rfl hi_X8_comes_X8 (by decide) lk_X8_comes_7 rfl dX8_comes_92 rfl ?_
  refine i_sipush (q := 98) C (by decide) dX8_comes_95 rfl ?_
  refine i_dup2 (q := 99) C rfl rfl dX8_comes_98 rfl ?_
  refine i_iald (i := 0) (j := 1) (q := 100) C rfl rfl (by omega) dX8_comes_99 rfl ?_
  skip
  refine V.top (b := st 2800) (by have := hs.gv; rw [cpy_out _ _ _ _ _ _ (by omega), up_n _ _ (by omega), up_n _ _ (by omega), up_n _ _ (by omega), up_n _ _ (by omega), up_n _ _ (by omega), up_n _ _ (by omega)]) ?_
  refine i_iconst (q := 101) C dX8_comes_100 rfl ?_
  refine i_iadd (q := 102) C dX8_comes_101 rfl ?_
  refine i_iast (i := 0) (j := 1) (q := 103) (cs' := [mdW am (up (cpy wd 0 (up (up (up (up (up (up st (14 * (st 2800)) 1) ((14 * (st 2800)) + 1) x) ((14 * (st 2800)) + 2) y) ((14 * (st 2800)) + 3) n) ((14 * (st 2800)) + 4) 0) ((14 * (st 2800)) + 5) (-1)) ((14 * (st 2800)) + 6) n) 2800 ((st 2800) + 1), bk, un, ck, ty, tm, tx, ln, rf, dg, dn, rk, pl, iw, wd, wm, od, oc)]) C rfl rfl (by omega) dX8_comes_102 rfl rfl ?_
  refine i_iload (j := 1) (q := 105) C rfl dX8_comes_103 rfl ?_
  refine i_iret C hR dX8_comes_105 ?_
  exact ⟨rfl, rfl⟩

theorem lk_X8_notes_46 : Cond.fieldLink RX8 46 (TX8 2).1 (TX8 2).2.1 (TX8 2).2.2.1 ∈ wsX8_notes := List.mem_of_getElem? (i := 1) rfl
theorem hi_X8_notes_X8 : ∀ w ∈ u_ws RX8 TX8 18, w ∈ wsX8_notes := by decide +kernel
theorem lk_X8_notes_7 : Cond.fieldLink RX8 7 (TX8 0).1 (TX8 0).2.1 (TX8 0).2.2.1 ∈ wsX8_notes := List.mem_of_getElem? (i := 3) rfl
theorem lk_X8_notes_14 : Cond.fieldLink RX8 14 (TX8 1).1 (TX8 1).2.1 (TX8 1).2.2.1 ∈ wsX8_notes := List.mem_of_getElem? (i := 2) rfl
set_option maxHeartbeats 400000 in
set_option maxRecDepth 100000 in
theorem c_X8_notes (K : KT) (l : Launch) (am : Nat → Nat) (st : Int → Int) (bk : Int → Int) (un : Int) (ck : Int) (ty : Int → Int) (tm : Int) (tx : Int → Int) (ln : Int) (rf : Int → Int) (dg : Int) (dn : Int → Int) (rk : Int → Int) (pl : Int) (iw : Int) (wd : Int → Int) (wm : Int) (od : Int → Int) (oc : Int) (U : Int) (hs : okS U st) (hH : okH U bk un) : Mt K l yX8_notes wsX8_notes ({ frames := 1, cells := 0, slots := 0, locals := 25 }) [vP (am 0)] [mdW am (st, bk, un, ck, ty, tm, tx, ln, rf, dg, dn, rk, pl, iw, wd, wm, od, oc)] 0 0 (fun v w => ∃ bk3 : Int → Int, ∃ un3 : Int, v = none ∧ w = [mdW am (st, bk3, un3, ck, ty, tm, tx, ln, rf, dg, dn, rk, pl, iw, wd, wm, od, oc)] ∧ (hs_ bk3 un3 = noteH (hs_ bk un) (bo st)) ∧ (okH U bk3 un3)) := by
  refine Mt.of (own := RX8) (cc := cX8_notes) (maxL := 1) (ret := none) (lv0 := [(0, vP (am 0))]) (by decide) rfl rfl (Nat.le_of_ble_eq_true rfl) rfl (fun X C hR hN => ?_)
  have hun := hH.1
  refine i_aload_n (j := 0) (q := 1) C rfl rfl dX8_notes_0 rfl ?_
  refine i_get (i := 0) (j := 0) (f := 2) (q := 4) C rfl rfl rfl hi_X8_notes_X8 (by decide) lk_X8_notes_46 rfl dX8_notes_1 rfl ?_
  refine i_bipush (q := 6) C (by decide) dX8_notes_4 rfl ?_
  refine i_icmp_ne (tgt := 37) (q := 9) C (by omega) (by omega) dX8_notes_6 (by decide) rfl (fun c_6 => ?_) (fun c_6 => ?_)
  · skip
    have h12 : ¬ (hs_ bk un).length = 12 := by rw [hs_len]; omega
    obtain ⟨g1, g2⟩ := hs_push hs hH (by omega)
    refine i_aload_n (j := 0) (q := 38) C rfl rfl dX8_notes_37 rfl ?_
    refine i_get (i := 0) (j := 0) (f := 0) (q := 41) C rfl rfl rfl hi_X8_notes_X8 (by decide) lk_X8_notes_7 rfl dX8_notes_38 rfl ?_
    refine i_iconst (q := 42) C dX8_notes_41 rfl ?_
    refine i_aload_n (j := 0) (q := 43) C rfl rfl dX8_notes_42 rfl ?_
    refine i_get (i := 0) (j := 0) (f := 1) (q := 46) C rfl rfl rfl hi_X8_notes_X8 (by decide) lk_X8_notes_14 rfl dX8_notes_43 rfl ?_
    refine i_sipush (q := 49) C (by decide) dX8_notes_46 rfl ?_
    refine i_aload_n (j := 0) (q := 50) C rfl rfl dX8_notes_49 rfl ?_
    refine i_get (i := 0) (j := 0) (f := 2) (q := 53) C rfl rfl rfl hi_X8_notes_X8 (by decide) lk_X8_notes_46 rfl dX8_notes_50 rfl ?_
    refine i_imul (q := 54) C dX8_notes_53 rfl ?_
    refine i_sipush (q := 57) C (by decide) dX8_notes_54 rfl ?_
    refine i_callS (wr := []) (As := [vP (am 1), vI 0, vP (am 2), vI (2803 * un), vI 2803]) (st := []) (q := 60) C (c_X8_bring_st_bk K l (am) (st) (bk) (un) (ck) (ty) (tm) (tx) (ln) (rf) (dg) (dn) (rk) (pl) (iw) (wd) (wm) (od) (oc) (0) (2803 * un) (2803) (by first | assumption | omega) (by first | assumption | omega) (by first | assumption | omega)) gX8_notes_X8_bring rfl hd_X8_bring ⟨Nat.le_of_ble_eq_true rfl, Nat.le_of_ble_eq_true rfl⟩ ⟨rfl, rfl⟩ ⟨Nat.le_of_ble_eq_true rfl, Nat.le_of_ble_eq_true rfl⟩ (permBy [0] (by decide) rfl rfl) rfl (Nat.le_of_ble_eq_true rfl) dX8_notes_57 rfl (fun v w hq => ?_)
    obtain ⟨rfl, rfl⟩ := hq
    show V X 0 0 60 [(0, vP (am 0))] [] [mdW am (st, cpy st 0 bk (2803 * un) 2803, un, ck, ty, tm, tx, ln, rf, dg, dn, rk, pl, iw, wd, wm, od, oc)]
    refine i_aload_n (j := 0) (q := 61) C rfl rfl dX8_notes_60 rfl ?_
    refine i_dup (q := 62) C rfl dX8_notes_61 rfl ?_
    refine i_get (i := 0) (j := 0) (f := 2) (q := 65) C rfl rfl rfl hi_X8_notes_X8 (by decide) lk_X8_notes_46 rfl dX8_notes_62 rfl ?_
    refine i_iconst (q := 66) C dX8_notes_65 rfl ?_
    refine i_iadd (q := 67) C dX8_notes_66 rfl ?_
    refine i_putI (i := 0) (j := 0) (f := 2) (q := 70) (cs' := [mdW am (st, cpy st 0 bk (2803 * un) 2803, un + 1, ck, ty, tm, tx, ln, rf, dg, dn, rk, pl, iw, wd, wm, od, oc)]) C rfl rfl rfl hi_X8_notes_X8 tyX8 tyX8_ok nmX8 (by decide) (Nat.le_of_ble_eq_true rfl) lk_X8_notes_46 rfl rfl dX8_notes_67 rfl rfl ?_
    refine i_vret C hR dX8_notes_70 ?_
    exact ⟨_, _, rfl, rfl, by rw [g1]; simp only [noteH, if_neg h12], g2⟩
  · skip
    have hH12 : okH U bk 12 := c_6 ▸ hH
    obtain ⟨g1, g2⟩ := hs_shift hH12
    obtain ⟨g3, g4⟩ := hs_push hs g2 (by omega)
    refine i_aload_n (j := 0) (q := 10) C rfl rfl dX8_notes_9 rfl ?_
    refine i_get (i := 0) (j := 0) (f := 1) (q := 13) C rfl rfl rfl hi_X8_notes_X8 (by decide) lk_X8_notes_14 rfl dX8_notes_10 rfl ?_
    refine i_sipush (q := 16) C (by decide) dX8_notes_13 rfl ?_
    refine i_aload_n (j := 0) (q := 17) C rfl rfl dX8_notes_16 rfl ?_
    refine i_get (i := 0) (j := 0) (f := 1) (q := 20) C rfl rfl rfl hi_X8_notes_X8 (by decide) lk_X8_notes_14 rfl dX8_notes_17 rfl ?_
    refine i_iconst (q := 21) C dX8_notes_20 rfl ?_
    refine i_sipush (q := 24) C (by decide) dX8_notes_21 rfl ?_
    refine i_callS (wr := []) (As := [vP (am 2), vI 2803, vP (am 2), vI 0, vI 30833]) (st := []) (q := 27) C (c_X8_bring_bk_bk K l (am) (st) (bk) (un) (ck) (ty) (tm) (tx) (ln) (rf) (dg) (dn) (rk) (pl) (iw) (wd) (wm) (od) (oc) (2803) (0) (30833) (by first | assumption | omega) (by first | assumption | omega) (by first | assumption | omega) (by first | assumption | omega)) gX8_notes_X8_bring rfl hd_X8_bring ⟨Nat.le_of_ble_eq_true rfl, Nat.le_of_ble_eq_true rfl⟩ ⟨rfl, rfl⟩ ⟨Nat.le_of_ble_eq_true rfl, Nat.le_of_ble_eq_true rfl⟩ (permBy [0] (by decide) rfl rfl) rfl (Nat.le_of_ble_eq_true rfl) dX8_notes_24 rfl (fun v w hq => ?_)
    obtain ⟨rfl, rfl⟩ := hq
    show V X 0 0 27 [(0, vP (am 0))] [] [mdW am (st, cpy bk 2803 bk 0 30833, un, ck, ty, tm, tx, ln, rf, dg, dn, rk, pl, iw, wd, wm, od, oc)]
    refine i_aload_n (j := 0) (q := 28) C rfl rfl dX8_notes_27 rfl ?_
    refine i_dup (q := 29) C rfl dX8_notes_28 rfl ?_
    refine i_get (i := 0) (j := 0) (f := 2) (q := 32) C rfl rfl rfl hi_X8_notes_X8 (by decide) lk_X8_notes_46 rfl dX8_notes_29 rfl ?_
    refine i_iconst (q := 33) C dX8_notes_32 rfl ?_
    refine i_isub (q := 34) C dX8_notes_33 rfl ?_
    refine i_putI (i := 0) (j := 0) (f := 2) (q := 37) (cs' := [mdW am (st, cpy bk 2803 bk 0 30833, un - 1, ck, ty, tm, tx, ln, rf, dg, dn, rk, pl, iw, wd, wm, od, oc)]) C rfl rfl rfl hi_X8_notes_X8 tyX8 tyX8_ok nmX8 (by decide) (Nat.le_of_ble_eq_true rfl) lk_X8_notes_46 rfl rfl dX8_notes_34 rfl rfl ?_
    refine i_aload_n (j := 0) (q := 38) C rfl rfl dX8_notes_37 rfl ?_
    refine i_get (i := 0) (j := 0) (f := 0) (q := 41) C rfl rfl rfl hi_X8_notes_X8 (by decide) lk_X8_notes_7 rfl dX8_notes_38 rfl ?_
    refine i_iconst (q := 42) C dX8_notes_41 rfl ?_
    refine i_aload_n (j := 0) (q := 43) C rfl rfl dX8_notes_42 rfl ?_
    refine i_get (i := 0) (j := 0) (f := 1) (q := 46) C rfl rfl rfl hi_X8_notes_X8 (by decide) lk_X8_notes_14 rfl dX8_notes_43 rfl ?_
    refine i_sipush (q := 49) C (by decide) dX8_notes_46 rfl ?_
    refine i_aload_n (j := 0) (q := 50) C rfl rfl dX8_notes_49 rfl ?_
    refine i_get (i := 0) (j := 0) (f := 2) (q := 53) C rfl rfl rfl hi_X8_notes_X8 (by decide) lk_X8_notes_46 rfl dX8_notes_50 rfl ?_
    refine i_imul (q := 54) C dX8_notes_53 rfl ?_
    refine i_sipush (q := 57) C (by decide) dX8_notes_54 rfl ?_
    refine i_callS (wr := []) (As := [vP (am 1), vI 0, vP (am 2), vI (2803 * (un - 1)), vI 2803]) (st := []) (q := 60) C (c_X8_bring_st_bk K l (am) (st) (cpy bk 2803 bk 0 30833) (un - 1) (ck) (ty) (tm) (tx) (ln) (rf) (dg) (dn) (rk) (pl) (iw) (wd) (wm) (od) (oc) (0) (2803 * (un - 1)) (2803) (by first | assumption | omega) (by first | assumption | omega) (by first | assumption | omega)) gX8_notes_X8_bring rfl hd_X8_bring ⟨Nat.le_of_ble_eq_true rfl, Nat.le_of_ble_eq_true rfl⟩ ⟨rfl, rfl⟩ ⟨Nat.le_of_ble_eq_true rfl, Nat.le_of_ble_eq_true rfl⟩ (permBy [0] (by decide) rfl rfl) rfl (Nat.le_of_ble_eq_true rfl) dX8_notes_57 rfl (fun v w hq => ?_)
    obtain ⟨rfl, rfl⟩ := hq
    show V X 0 0 60 [(0, vP (am 0))] [] [mdW am (st, cpy st 0 (cpy bk 2803 bk 0 30833) (2803 * (un - 1)) 2803, un - 1, ck, ty, tm, tx, ln, rf, dg, dn, rk, pl, iw, wd, wm, od, oc)]
    refine i_aload_n (j := 0) (q := 61) C rfl rfl dX8_notes_60 rfl ?_
    refine i_dup (q := 62) C rfl dX8_notes_61 rfl ?_
    refine i_get (i := 0) (j := 0) (f := 2) (q := 65) C rfl rfl rfl hi_X8_notes_X8 (by decide) lk_X8_notes_46 rfl dX8_notes_62 rfl ?_
    refine i_iconst (q := 66) C dX8_notes_65 rfl ?_
    refine i_iadd (q := 67) C dX8_notes_66 rfl ?_
    refine i_putI (i := 0) (j := 0) (f := 2) (q := 70) (cs' := [mdW am (st, cpy st 0 (cpy bk 2803 bk 0 30833) (2803 * (un - 1)) 2803, (un - 1) + 1, ck, ty, tm, tx, ln, rf, dg, dn, rk, pl, iw, wd, wm, od, oc)]) C rfl rfl rfl hi_X8_notes_X8 tyX8 tyX8_ok nmX8 (by decide) (Nat.le_of_ble_eq_true rfl) lk_X8_notes_46 rfl rfl dX8_notes_67 rfl rfl ?_
    refine i_vret C hR dX8_notes_70 ?_
    exact ⟨_, _, rfl, rfl, by rw [show un - 1 = 11 by omega, g3, g1, c_6]; simp only [noteH]; rw [if_pos (by rw [hs_len]; rfl)], by rw [show un - 1 = 11 by omega]; exact g4⟩

theorem lk_X8_scoreBy_7 : Cond.fieldLink RX8 7 (TX8 0).1 (TX8 0).2.1 (TX8 0).2.2.1 ∈ wsX8_scoreBy := List.mem_of_getElem? (i := 1) rfl
theorem hi_X8_scoreBy_X8 : ∀ w ∈ u_ws RX8 TX8 18, w ∈ wsX8_scoreBy := by decide +kernel
theorem hd_X8_held : yX8_held.cls ≠ "java/lang/invoke/MethodHandle" ∧ yX8_held.cls ≠ "java/lang/invoke/VarHandle" ∧ (parseMethodDescriptor yX8_held.desc).map (fun d => d.parameters.length) = some 1 := by decide +kernel
set_option maxHeartbeats 400000 in
set_option maxRecDepth 100000 in
theorem c_X8_scoreBy (K : KT) (l : Launch) (am : Nat → Nat) (st : Int → Int) (bk : Int → Int) (un : Int) (ck : Int) (ty : Int → Int) (tm : Int) (tx : Int → Int) (ln : Int) (rf : Int → Int) (dg : Int) (dn : Int → Int) (rk : Int → Int) (pl : Int) (iw : Int) (wd : Int → Int) (wm : Int) (od : Int → Int) (oc : Int) (U : Int) (x : Int) (p : Int) (t : Int) (hs : okS U st) (hx : 0 ≤ x ∧ x ≤ 4) (hp : 0 ≤ p ∧ p < st 2800) (ht : 0 ≤ t ∧ t ≤ 9999) : Mt K l yX8_scoreBy wsX8_scoreBy ({ frames := 1, cells := 0, slots := 0, locals := 20 }) [vP (am 0), vI x, vI p, vI t] [mdW am (st, bk, un, ck, ty, tm, tx, ln, rf, dg, dn, rk, pl, iw, wd, wm, od, oc)] 0 0 (fun v w => v = some (vI (nsc x (st (14 * p + 1)) (st (14 * p + 4)) (st (14 * p + 5)) t)) ∧ w = [mdW am (st, bk, un, ck, ty, tm, tx, ln, rf, dg, dn, rk, pl, iw, wd, wm, od, oc)]) := by
  refine Mt.of (own := RX8) (cc := cX8_scoreBy) (maxL := 9) (ret := (some .int)) (lv0 := [(0, vP (am 0)), (1, vI x), (2, vI p), (3, vI t)]) (by decide) rfl rfl (Nat.le_of_ble_eq_true rfl) rfl (fun X C hR hN => ?_)
  have hgv := hs.gv
  refine i_aload_n (j := 0) (q := 1) C rfl rfl dX8_scoreBy_0 rfl ?_
  refine i_get (i := 0) (j := 0) (f := 0) (q := 4) C rfl rfl rfl hi_X8_scoreBy_X8 (by decide) lk_X8_scoreBy_7 rfl dX8_scoreBy_1 rfl ?_
  refine i_bipush (q := 6) C (by decide) dX8_scoreBy_4 rfl ?_
  refine i_iload_n (j := 2) (q := 7) C rfl rfl dX8_scoreBy_6 rfl ?_
  refine i_imul (q := 8) C dX8_scoreBy_7 rfl ?_
  refine i_iconst (q := 9) C dX8_scoreBy_8 rfl ?_
  refine i_iadd (q := 10) C dX8_scoreBy_9 rfl ?_
  refine i_iald (i := 0) (j := 1) (q := 11) C rfl rfl (by omega) dX8_scoreBy_10 rfl ?_
  have ld_10 := hs.k1 p (by omega) (by omega)
  refine i_istore (q := 13) (lv' := [(4, vI (st ((14 * p) + 1))), (0, vP (am 0)), (1, vI x), (2, vI p), (3, vI t)]) C (by decide) rfl dX8_scoreBy_11 rfl ?_
  refine i_iload (j := 0) (q := 15) C rfl dX8_scoreBy_13 rfl ?_
  refine i_bipush (q := 17) C (by decide) dX8_scoreBy_15 rfl ?_
  refine i_iadd (q := 18) C dX8_scoreBy_17 rfl ?_
  refine i_callS (wr := [mdW am (st, bk, un, ck, ty, tm, tx, ln, rf, dg, dn, rk, pl, iw, wd, wm, od, oc)]) (As := [vI ((st ((14 * p) + 1)) + 10)]) (st := []) (q := 21) C (c_X8_held K l ((st ((14 * p) + 1)) + 10) (by first | assumption | omega)) gX8_scoreBy_X8_held rfl hd_X8_held ⟨Nat.le_of_ble_eq_true rfl, Nat.le_of_ble_eq_true rfl⟩ ⟨rfl, rfl⟩ ⟨Nat.le_of_ble_eq_true rfl, Nat.le_of_ble_eq_true rfl⟩ (permBy [0] (by decide) rfl rfl) rfl (Nat.le_of_ble_eq_true rfl) dX8_scoreBy_18 rfl (fun v w hq => ?_)
  obtain ⟨rfl, rfl, hh_18⟩ := hq
  show V X 0 0 21 [(4, vI (st ((14 * p) + 1))), (0, vP (am 0)), (1, vI x), (2, vI p), (3, vI t)] [vI (hld ((st ((14 * p) + 1)) + 10))] [mdW am (st, bk, un, ck, ty, tm, tx, ln, rf, dg, dn, rk, pl, iw, wd, wm, od, oc)]
  refine i_istore (q := 23) (lv' := [(5, vI (hld ((st ((14 * p) + 1)) + 10))), (4, vI (st ((14 * p) + 1))), (0, vP (am 0)), (1, vI x), (2, vI p), (3, vI t)]) C (by decide) rfl dX8_scoreBy_21 rfl ?_
  refine i_aload_n (j := 2) (q := 24) C rfl rfl dX8_scoreBy_23 rfl ?_
  refine i_get (i := 0) (j := 0) (f := 0) (q := 27) C rfl rfl rfl hi_X8_scoreBy_X8 (by decide) lk_X8_scoreBy_7 rfl dX8_scoreBy_24 rfl ?_
  refine i_bipush (q := 29) C (by decide) dX8_scoreBy_27 rfl ?_
  refine i_iload_n (j := 4) (q := 30) C rfl rfl dX8_scoreBy_29 rfl ?_
  refine i_imul (q := 31) C dX8_scoreBy_30 rfl ?_
  refine i_iconst (q := 32) C dX8_scoreBy_31 rfl ?_
  refine i_iadd (q := 33) C dX8_scoreBy_32 rfl ?_
  refine i_iald (i := 0) (j := 1) (q := 34) C rfl rfl (by omega) dX8_scoreBy_33 rfl ?_
  have ld_33 := hs.k5 p (by omega) (by omega)
  have join_59 : ∀ (b : Int), ((b = 1 ∧ 0 ≤ st (14 * p + 5) ∧ t - 3 ≤ st (14 * p + 5)) ∨ (b = 0 ∧ ¬ (0 ≤ st (14 * p + 5) ∧ t - 3 ≤ st (14 * p + 5)))) → V X 0 0 59 [(0, vP (am 0)), (1, vI x), (2, vI p), (3, vI t), (4, vI (st ((14 * p) + 1))), (5, vI (hld ((st ((14 * p) + 1)) + 10)))] [vI b] [mdW am (st, bk, un, ck, ty, tm, tx, ln, rf, dg, dn, rk, pl, iw, wd, wm, od, oc)] := by
    intro b hb
    refine i_istore (q := 61) (lv' := [(6, vI b), (0, vP (am 0)), (1, vI x), (2, vI p), (3, vI t), (4, vI (st ((14 * p) + 1))), (5, vI (hld ((st ((14 * p) + 1)) + 10)))]) C (by decide) rfl dX8_scoreBy_59 rfl ?_
    refine i_iload (j := 0) (q := 63) C rfl dX8_scoreBy_61 rfl ?_
    have join_79 : ∀ (fr : Int), (fr = if 0 ≤ st (14 * p + 5) ∧ t - 3 ≤ st (14 * p + 5) then hld (hld (st (14 * p + 1) + 10) + 20) else hld (st (14 * p + 1) + 10)) → (0 ≤ fr ∧ fr ≤ 1000) → V X 0 0 79 [(0, vP (am 0)), (1, vI x), (2, vI p), (3, vI t), (4, vI (st ((14 * p) + 1))), (5, vI (hld ((st ((14 * p) + 1)) + 10))), (6, vI b)] [vI fr] [mdW am (st, bk, un, ck, ty, tm, tx, ln, rf, dg, dn, rk, pl, iw, wd, wm, od, oc)] := by
      intro fr hfr hfb
      refine i_istore (q := 81) (lv' := [(7, vI fr), (0, vP (am 0)), (1, vI x), (2, vI p), (3, vI t), (4, vI (st ((14 * p) + 1))), (5, vI (hld ((st ((14 * p) + 1)) + 10))), (6, vI b)]) C (by decide) rfl dX8_scoreBy_79 rfl ?_
      refine i_aload_n (j := 1) (q := 82) C rfl rfl dX8_scoreBy_81 rfl ?_
      refine i_get (i := 0) (j := 0) (f := 0) (q := 85) C rfl rfl rfl hi_X8_scoreBy_X8 (by decide) lk_X8_scoreBy_7 rfl dX8_scoreBy_82 rfl ?_
      refine i_bipush (q := 87) C (by decide) dX8_scoreBy_85 rfl ?_
      refine i_iload_n (j := 3) (q := 88) C rfl rfl dX8_scoreBy_87 rfl ?_
      refine i_imul (q := 89) C dX8_scoreBy_88 rfl ?_
      refine i_iconst (q := 90) C dX8_scoreBy_89 rfl ?_
      refine i_iadd (q := 91) C dX8_scoreBy_90 rfl ?_
      refine i_iald (i := 0) (j := 1) (q := 92) C rfl rfl (by omega) dX8_scoreBy_91 rfl ?_
      have ld_91 := hs.k4 p (by omega) (by omega)
      refine i_istore (q := 94) (lv' := [(8, vI (st ((14 * p) + 4))), (7, vI fr), (0, vP (am 0)), (1, vI x), (2, vI p), (3, vI t), (4, vI (st ((14 * p) + 1))), (5, vI (hld ((st ((14 * p) + 1)) + 10))), (6, vI b)]) C (by decide) rfl dX8_scoreBy_92 rfl ?_
      refine i_iload_n (j := 3) (q := 95) C rfl rfl dX8_scoreBy_94 rfl ?_
      by_cases e_95_0 : x = 0
      · skip
        refine i_tsIn (q := 124) 0 C e_95_0 dX8_scoreBy_95 (by decide) rfl (by decide) ?_
        refine i_iload (j := 6) (q := 126) C rfl dX8_scoreBy_124 rfl ?_
        refine i_iret C hR dX8_scoreBy_126 ?_
        exact ⟨by rw [e_95_0]; rfl, rfl⟩
      by_cases e_95_1 : x = 1
      · skip
        refine i_tsIn (q := 127) 1 C e_95_1 dX8_scoreBy_95 (by decide) rfl (by decide) ?_
        refine i_iload (j := 7) (q := 129) C rfl dX8_scoreBy_127 rfl ?_
        refine i_iret C hR dX8_scoreBy_129 ?_
        exact ⟨by rw [e_95_1]; rfl, rfl⟩
      by_cases e_95_2 : x = 2
      · skip
        refine i_tsIn (q := 130) 2 C e_95_2 dX8_scoreBy_95 (by decide) rfl (by decide) ?_
        refine i_iload (j := 1) (q := 132) C rfl dX8_scoreBy_130 rfl ?_
        refine i_iret C hR dX8_scoreBy_132 ?_
        exact ⟨by rw [e_95_2, hfr]; rfl, rfl⟩
      by_cases e_95_3 : x = 3
      · skip
        refine i_tsIn (q := 133) 3 C e_95_3 dX8_scoreBy_95 (by decide) rfl (by decide) ?_
        refine i_iload (j := 7) (q := 135) C rfl dX8_scoreBy_133 rfl ?_
        refine i_iload (j := 0) (q := 137) C rfl dX8_scoreBy_135 rfl ?_
        refine i_bipush (q := 139) C (by decide) dX8_scoreBy_137 rfl ?_
        refine i_icmp_le (tgt := 147) (q := 142) C (by omega) (by omega) dX8_scoreBy_139 (by decide) rfl (fun c_139 => ?_) (fun c_139 => ?_)
        · skip
          refine i_iload (j := 0) (q := 149) C rfl dX8_scoreBy_147 rfl ?_
          refine i_iadd (q := 150) C dX8_scoreBy_149 rfl ?_
          refine i_callS (wr := [mdW am (st, bk, un, ck, ty, tm, tx, ln, rf, dg, dn, rk, pl, iw, wd, wm, od, oc)]) (As := [vI ((hld ((st ((14 * p) + 1)) + 10)) + (st ((14 * p) + 4)))]) (st := []) (q := 153) C (c_X8_held K l ((hld ((st ((14 * p) + 1)) + 10)) + (st ((14 * p) + 4))) (by first | assumption | omega)) gX8_scoreBy_X8_held rfl hd_X8_held ⟨Nat.le_of_ble_eq_true rfl, Nat.le_of_ble_eq_true rfl⟩ ⟨rfl, rfl⟩ ⟨Nat.le_of_ble_eq_true rfl, Nat.le_of_ble_eq_true rfl⟩ (permBy [0] (by decide) rfl rfl) rfl (Nat.le_of_ble_eq_true rfl) dX8_scoreBy_150 rfl (fun v w hq => ?_)
          obtain ⟨rfl, rfl, hh_150⟩ := hq
          show V X 0 0 153 [(8, vI (st ((14 * p) + 4))), (7, vI fr), (0, vP (am 0)), (1, vI x), (2, vI p), (3, vI t), (4, vI (st ((14 * p) + 1))), (5, vI (hld ((st ((14 * p) + 1)) + 10))), (6, vI b)] [vI (hld ((hld ((st ((14 * p) + 1)) + 10)) + (st ((14 * p) + 4))))] [mdW am (st, bk, un, ck, ty, tm, tx, ln, rf, dg, dn, rk, pl, iw, wd, wm, od, oc)]
          refine i_iret C hR dX8_scoreBy_153 ?_
          exact ⟨by rw [e_95_3]; simp only [nsc, hld, Option.some.injEq, Sum.inl.injEq]; simp; omega, rfl⟩
        · skip
          refine i_bipush (q := 144) C (by decide) dX8_scoreBy_142 rfl ?_
          refine i_goto (q := 149) C dX8_scoreBy_144 (by decide) ?_
          refine i_iadd (q := 150) C dX8_scoreBy_149 rfl ?_
          refine i_callS (wr := [mdW am (st, bk, un, ck, ty, tm, tx, ln, rf, dg, dn, rk, pl, iw, wd, wm, od, oc)]) (As := [vI ((hld ((st ((14 * p) + 1)) + 10)) + 30)]) (st := []) (q := 153) C (c_X8_held K l ((hld ((st ((14 * p) + 1)) + 10)) + 30) (by first | assumption | omega)) gX8_scoreBy_X8_held rfl hd_X8_held ⟨Nat.le_of_ble_eq_true rfl, Nat.le_of_ble_eq_true rfl⟩ ⟨rfl, rfl⟩ ⟨Nat.le_of_ble_eq_true rfl, Nat.le_of_ble_eq_true rfl⟩ (permBy [0] (by decide) rfl rfl) rfl (Nat.le_of_ble_eq_true rfl) dX8_scoreBy_150 rfl (fun v w hq => ?_)
          obtain ⟨rfl, rfl, hh_150⟩ := hq
          show V X 0 0 153 [(8, vI (st ((14 * p) + 4))), (7, vI fr), (0, vP (am 0)), (1, vI x), (2, vI p), (3, vI t), (4, vI (st ((14 * p) + 1))), (5, vI (hld ((st ((14 * p) + 1)) + 10))), (6, vI b)] [vI (hld ((hld ((st ((14 * p) + 1)) + 10)) + 30))] [mdW am (st, bk, un, ck, ty, tm, tx, ln, rf, dg, dn, rk, pl, iw, wd, wm, od, oc)]
          refine i_iret C hR dX8_scoreBy_153 ?_
          exact ⟨by rw [e_95_3]; simp only [nsc, hld, Option.some.injEq, Sum.inl.injEq]; simp; omega, rfl⟩
      refine i_tsOut (q := 154) C (by omega) (by omega) dX8_scoreBy_95 (by decide) ?_
      refine i_iload (j := 6) (q := 156) C rfl dX8_scoreBy_154 rfl ?_
      refine i_iconst (q := 157) C dX8_scoreBy_156 rfl ?_
      refine i_iload (j := 1) (q := 159) C rfl dX8_scoreBy_157 rfl ?_
      refine i_iload (j := 6) (q := 161) C rfl dX8_scoreBy_159 rfl ?_
      refine i_isub (q := 162) C dX8_scoreBy_161 rfl ?_
      refine i_imul (q := 163) C dX8_scoreBy_162 rfl ?_
      refine i_iadd (q := 164) C dX8_scoreBy_163 rfl ?_
      refine i_callS (wr := [mdW am (st, bk, un, ck, ty, tm, tx, ln, rf, dg, dn, rk, pl, iw, wd, wm, od, oc)]) (As := [vI ((st ((14 * p) + 1)) + (2 * (fr - (st ((14 * p) + 1)))))]) (st := []) (q := 167) C (c_X8_held K l ((st ((14 * p) + 1)) + (2 * (fr - (st ((14 * p) + 1))))) (by first | assumption | omega)) gX8_scoreBy_X8_held rfl hd_X8_held ⟨Nat.le_of_ble_eq_true rfl, Nat.le_of_ble_eq_true rfl⟩ ⟨rfl, rfl⟩ ⟨Nat.le_of_ble_eq_true rfl, Nat.le_of_ble_eq_true rfl⟩ (permBy [0] (by decide) rfl rfl) rfl (Nat.le_of_ble_eq_true rfl) dX8_scoreBy_164 rfl (fun v w hq => ?_)
      obtain ⟨rfl, rfl, hh_164⟩ := hq
      show V X 0 0 167 [(8, vI (st ((14 * p) + 4))), (7, vI fr), (0, vP (am 0)), (1, vI x), (2, vI p), (3, vI t), (4, vI (st ((14 * p) + 1))), (5, vI (hld ((st ((14 * p) + 1)) + 10))), (6, vI b)] [vI (hld ((st ((14 * p) + 1)) + (2 * (fr - (st ((14 * p) + 1))))))] [mdW am (st, bk, un, ck, ty, tm, tx, ln, rf, dg, dn, rk, pl, iw, wd, wm, od, oc)]
      refine i_iret C hR dX8_scoreBy_167 ?_
      exact ⟨by simp only [nsc, if_neg e_95_0, if_neg e_95_1, if_neg e_95_2, if_neg e_95_3, ← hfr] <;> rfl, rfl⟩
    refine i_if_eq (tgt := 77) (q := 66) C (by omega) dX8_scoreBy_63 (by decide) rfl (fun c_63 => ?_) (fun c_63 => ?_)
    · skip
      refine i_iload (j := 6) (q := 79) C rfl dX8_scoreBy_77 rfl ?_
      refine V.lv [1, 2, 3, 4, 5, 6, 0] rfl ?_
      exact join_79 (hld ((st ((14 * p) + 1)) + 10)) (by
        rcases hb with ⟨h1, h2⟩ | ⟨h1, h2⟩
        · rw [if_pos h2] <;> first | rfl | omega
        · rw [if_neg h2] <;> first | rfl | omega) (by omega)
    · skip
      refine i_iload (j := 6) (q := 68) C rfl dX8_scoreBy_66 rfl ?_
      refine i_bipush (q := 70) C (by decide) dX8_scoreBy_68 rfl ?_
      refine i_iadd (q := 71) C dX8_scoreBy_70 rfl ?_
      refine i_callS (wr := [mdW am (st, bk, un, ck, ty, tm, tx, ln, rf, dg, dn, rk, pl, iw, wd, wm, od, oc)]) (As := [vI ((hld ((st ((14 * p) + 1)) + 10)) + 20)]) (st := []) (q := 74) C (c_X8_held K l ((hld ((st ((14 * p) + 1)) + 10)) + 20) (by first | assumption | omega)) gX8_scoreBy_X8_held rfl hd_X8_held ⟨Nat.le_of_ble_eq_true rfl, Nat.le_of_ble_eq_true rfl⟩ ⟨rfl, rfl⟩ ⟨Nat.le_of_ble_eq_true rfl, Nat.le_of_ble_eq_true rfl⟩ (permBy [0] (by decide) rfl rfl) rfl (Nat.le_of_ble_eq_true rfl) dX8_scoreBy_71 rfl (fun v w hq => ?_)
      obtain ⟨rfl, rfl, hh_71⟩ := hq
      show V X 0 0 74 [(6, vI b), (0, vP (am 0)), (1, vI x), (2, vI p), (3, vI t), (4, vI (st ((14 * p) + 1))), (5, vI (hld ((st ((14 * p) + 1)) + 10)))] [vI (hld ((hld ((st ((14 * p) + 1)) + 10)) + 20))] [mdW am (st, bk, un, ck, ty, tm, tx, ln, rf, dg, dn, rk, pl, iw, wd, wm, od, oc)]
      refine i_goto (q := 79) C dX8_scoreBy_74 (by decide) ?_
      refine V.lv [1, 2, 3, 4, 5, 6, 0] rfl ?_
      exact join_79 (hld ((hld ((st ((14 * p) + 1)) + 10)) + 20)) (by
        rcases hb with ⟨h1, h2⟩ | ⟨h1, h2⟩
        · rw [if_pos h2] <;> first | rfl | omega
        · rw [if_neg h2] <;> first | rfl | omega) (by omega)
  refine i_if_lt (tgt := 58) (q := 37) C (by omega) dX8_scoreBy_34 (by decide) rfl (fun c_34 => ?_) (fun c_34 => ?_)
  · skip
    refine i_iconst (q := 59) C dX8_scoreBy_58 rfl ?_
    refine V.lv [2, 3, 4, 5, 1, 0] rfl ?_
    exact join_59 (0) (by omega)
  · skip
    refine i_aload_n (j := 2) (q := 38) C rfl rfl dX8_scoreBy_37 rfl ?_
    refine i_get (i := 0) (j := 0) (f := 0) (q := 41) C rfl rfl rfl hi_X8_scoreBy_X8 (by decide) lk_X8_scoreBy_7 rfl dX8_scoreBy_38 rfl ?_
    refine i_bipush (q := 43) C (by decide) dX8_scoreBy_41 rfl ?_
    refine i_iload_n (j := 4) (q := 44) C rfl rfl dX8_scoreBy_43 rfl ?_
    refine i_imul (q := 45) C dX8_scoreBy_44 rfl ?_
    refine i_iconst (q := 46) C dX8_scoreBy_45 rfl ?_
    refine i_iadd (q := 47) C dX8_scoreBy_46 rfl ?_
    refine i_iald (i := 0) (j := 1) (q := 48) C rfl rfl (by omega) dX8_scoreBy_47 rfl ?_
    have ld_47 := hs.k5 p (by omega) (by omega)
    refine i_iload_n (j := 5) (q := 49) C rfl rfl dX8_scoreBy_48 rfl ?_
    refine i_iconst (q := 50) C dX8_scoreBy_49 rfl ?_
    refine i_isub (q := 51) C dX8_scoreBy_50 rfl ?_
    refine i_icmp_lt (tgt := 58) (q := 54) C (by omega) (by omega) dX8_scoreBy_51 (by decide) rfl (fun c_51 => ?_) (fun c_51 => ?_)
    · skip
      refine i_iconst (q := 59) C dX8_scoreBy_58 rfl ?_
      refine V.lv [2, 3, 4, 5, 1, 0] rfl ?_
      exact join_59 (0) (by omega)
    · skip
      refine i_iconst (q := 55) C dX8_scoreBy_54 rfl ?_
      refine i_goto (q := 59) C dX8_scoreBy_55 (by decide) ?_
      refine V.lv [2, 3, 4, 5, 1, 0] rfl ?_
      exact join_59 (1) (by omega)

theorem lk_X8_chosen_50 : Cond.fieldLink RX8 50 (TX8 3).1 (TX8 3).2.1 (TX8 3).2.2.1 ∈ wsX8_chosen := List.mem_of_getElem? (i := 1) rfl
theorem hi_X8_chosen_X8 : ∀ w ∈ u_ws RX8 TX8 18, w ∈ wsX8_chosen := by decide +kernel
theorem lk_X8_chosen_7 : Cond.fieldLink RX8 7 (TX8 0).1 (TX8 0).2.1 (TX8 0).2.2.1 ∈ wsX8_chosen := List.mem_of_getElem? (i := 2) rfl
theorem hd_X8_scoreBy : yX8_scoreBy.cls = RX8 ∧ yX8_scoreBy.cls ≠ "java/lang/invoke/MethodHandle" ∧ yX8_scoreBy.cls ≠ "java/lang/invoke/VarHandle" ∧ (parseMethodDescriptor yX8_scoreBy.desc).map (fun d => d.parameters.length) = some 3 := by decide +kernel
set_option maxHeartbeats 400000 in
set_option maxRecDepth 100000 in
theorem c_X8_chosen (K : KT) (l : Launch) (am : Nat → Nat) (st : Int → Int) (bk : Int → Int) (un : Int) (ck : Int) (ty : Int → Int) (tm : Int) (tx : Int → Int) (ln : Int) (rf : Int → Int) (dg : Int) (dn : Int → Int) (rk : Int → Int) (pl : Int) (iw : Int) (wd : Int → Int) (wm : Int) (od : Int → Int) (oc : Int) (U : Int) (p : Int) (hs : okS U st) (hp : 0 ≤ p ∧ p < st 2800) (hp1 : st (14 * p) = 1) (hck : 0 ≤ ck ∧ ck ≤ 9999) (hU : U < 1000000) : Mt K l yX8_chosen wsX8_chosen ({ frames := 2, cells := 0, slots := 0, locals := 48 }) [vP (am 0), vI p] [mdW am (st, bk, un, ck, ty, tm, tx, ln, rf, dg, dn, rk, pl, iw, wd, wm, od, oc)] 0 0 (fun v w => ∃ st3 : Int → Int, v = some (vI (nsc (st 2801) (st (14 * p + 1)) (st (14 * p + 4)) (st (14 * p + 5)) (tick ck))) ∧ w = [mdW am (st3, bk, un, tick ck, ty, tm, tx, ln, rf, dg, dn, rk, pl, iw, wd, wm, od, oc)] ∧ (bo st3 = useB (bo st) p (tick ck)) ∧ (okS (U + 1) st3)) := by
  refine Mt.of (own := RX8) (cc := cX8_chosen) (maxL := 2) (ret := (some .int)) (lv0 := [(0, vP (am 0)), (1, vI p)]) (by decide) rfl rfl (Nat.le_of_ble_eq_true rfl) rfl (fun X C hR hN => ?_)
  have htk : 0 ≤ tick ck ∧ tick ck ≤ 9999 := by unfold tick; omega
  have htk1 : tick ck = if ck = 9999 then 9999 else ck + 1 := by unfold tick; split <;> omega
  have hns := nsc_in (st 2801) (st (14 * p + 1)) (st (14 * p + 4)) (st (14 * p + 5)) (tick ck) (hs.k1 p hp.1 hp.2)
  have k1 := hs.k1 p hp.1 hp.2
  have k4 := hs.k4 p hp.1 hp.2
  have kd := hs.kd
  have hgv := hs.gv
  refine i_aload_n (j := 0) (q := 1) C rfl rfl dX8_chosen_0 rfl ?_
  refine i_aload_n (j := 0) (q := 2) C rfl rfl dX8_chosen_1 rfl ?_
  refine i_get (i := 0) (j := 0) (f := 3) (q := 5) C rfl rfl rfl hi_X8_chosen_X8 (by decide) lk_X8_chosen_50 rfl dX8_chosen_2 rfl ?_
  refine i_sipush (q := 8) C (by decide) dX8_chosen_5 rfl ?_
  have join_23 : ∀ (c2 : Int), (c2 = tick ck) → V X 0 0 23 [(0, vP (am 0)), (1, vI p)] [vI c2, vP (am 0)] [mdW am (st, bk, un, ck, ty, tm, tx, ln, rf, dg, dn, rk, pl, iw, wd, wm, od, oc)] := by
    intro c2 hc2
    refine V.top (b := tick ck) hc2 ?_
    refine i_putI (i := 0) (j := 0) (f := 3) (q := 26) (cs' := [mdW am (st, bk, un, tick ck, ty, tm, tx, ln, rf, dg, dn, rk, pl, iw, wd, wm, od, oc)]) C rfl rfl rfl hi_X8_chosen_X8 tyX8 tyX8_ok nmX8 (by decide) (Nat.le_of_ble_eq_true rfl) lk_X8_chosen_50 rfl rfl dX8_chosen_23 rfl rfl ?_
    refine i_aload_n (j := 0) (q := 27) C rfl rfl dX8_chosen_26 rfl ?_
    refine i_get (i := 0) (j := 0) (f := 0) (q := 30) C rfl rfl rfl hi_X8_chosen_X8 (by decide) lk_X8_chosen_7 rfl dX8_chosen_27 rfl ?_
    refine i_bipush (q := 32) C (by decide) dX8_chosen_30 rfl ?_
    refine i_iload_n (j := 1) (q := 33) C rfl rfl dX8_chosen_32 rfl ?_
    refine i_imul (q := 34) C dX8_chosen_33 rfl ?_
    refine i_iconst (q := 35) C dX8_chosen_34 rfl ?_
    refine i_iadd (q := 36) C dX8_chosen_35 rfl ?_
    refine i_aload_n (j := 0) (q := 37) C rfl rfl dX8_chosen_36 rfl ?_
    refine i_aload_n (j := 0) (q := 38) C rfl rfl dX8_chosen_37 rfl ?_
    refine i_get (i := 0) (j := 0) (f := 0) (q := 41) C rfl rfl rfl hi_X8_chosen_X8 (by decide) lk_X8_chosen_7 rfl dX8_chosen_38 rfl ?_
    refine i_sipush (q := 44) C (by decide) dX8_chosen_41 rfl ?_
    refine i_iald (i := 0) (j := 1) (q := 45) C rfl rfl (by omega) dX8_chosen_44 rfl ?_
    have ld_44 := hs.kd
    refine i_iload_n (j := 1) (q := 46) C rfl rfl dX8_chosen_45 rfl ?_
    refine i_aload_n (j := 0) (q := 47) C rfl rfl dX8_chosen_46 rfl ?_
    refine i_get (i := 0) (j := 0) (f := 3) (q := 50) C rfl rfl rfl hi_X8_chosen_X8 (by decide) lk_X8_chosen_50 rfl dX8_chosen_47 rfl ?_
    refine i_callV (wr := []) (As := [vI (st 2801), vI p, vI (tick ck)]) (st := [vI ((14 * p) + 1), vP (am 1)]) (i := 0) (j := 0) (q := 53) C (c_X8_scoreBy K l (am) (st) (bk) (un) (tick ck) (ty) (tm) (tx) (ln) (rf) (dg) (dn) (rk) (pl) (iw) (wd) (wm) (od) (oc) (U) (st 2801) (p) (tick ck) (by first | assumption | omega) (by first | assumption | omega) (by first | assumption | omega) (by first | assumption | omega)) gX8_chosen_X8_scoreBy rfl hd_X8_scoreBy ⟨Nat.le_of_ble_eq_true rfl, Nat.le_of_ble_eq_true rfl⟩ ⟨rfl, rfl⟩ ⟨Nat.le_of_ble_eq_true rfl, Nat.le_of_ble_eq_true rfl⟩ (permBy [0] (by decide) rfl rfl) rfl rfl rfl rfl (Nat.le_of_ble_eq_true rfl) dX8_chosen_50 rfl (fun v w hq => ?_)
    obtain ⟨rfl, rfl⟩ := hq
    show V X 0 0 53 [(0, vP (am 0)), (1, vI p)] [vI (nsc (st 2801) (st (14 * p + 1)) (st (14 * p + 4)) (st (14 * p + 5)) (tick ck)), vI ((14 * p) + 1), vP (am 1)] [mdW am (st, bk, un, tick ck, ty, tm, tx, ln, rf, dg, dn, rk, pl, iw, wd, wm, od, oc)]
    refine i_iast (i := 0) (j := 1) (q := 54) (cs' := [mdW am (up st ((14 * p) + 1) (nsc (st 2801) (st (14 * p + 1)) (st (14 * p + 4)) (st (14 * p + 5)) (tick ck)), bk, un, tick ck, ty, tm, tx, ln, rf, dg, dn, rk, pl, iw, wd, wm, od, oc)]) C rfl rfl (by omega) dX8_chosen_53 rfl rfl ?_
    refine i_aload_n (j := 0) (q := 55) C rfl rfl dX8_chosen_54 rfl ?_
    refine i_get (i := 0) (j := 0) (f := 0) (q := 58) C rfl rfl rfl hi_X8_chosen_X8 (by decide) lk_X8_chosen_7 rfl dX8_chosen_55 rfl ?_
    refine i_bipush (q := 60) C (by decide) dX8_chosen_58 rfl ?_
    refine i_iload_n (j := 1) (q := 61) C rfl rfl dX8_chosen_60 rfl ?_
    refine i_imul (q := 62) C dX8_chosen_61 rfl ?_
    refine i_iconst (q := 63) C dX8_chosen_62 rfl ?_
    refine i_iadd (q := 64) C dX8_chosen_63 rfl ?_
    refine i_dup2 (q := 65) C rfl rfl dX8_chosen_64 rfl ?_
    refine i_iald (i := 0) (j := 1) (q := 66) C rfl rfl (by omega) dX8_chosen_65 rfl ?_
    skip
    refine V.top (b := st (14 * p + 4)) (by rw [up_n _ _ (by omega)]) ?_
    refine i_iconst (q := 67) C dX8_chosen_66 rfl ?_
    refine i_iadd (q := 68) C dX8_chosen_67 rfl ?_
    refine i_iast (i := 0) (j := 1) (q := 69) (cs' := [mdW am (up (up st ((14 * p) + 1) (nsc (st 2801) (st (14 * p + 1)) (st (14 * p + 4)) (st (14 * p + 5)) (tick ck))) ((14 * p) + 4) ((st (14 * p + 4)) + 1), bk, un, tick ck, ty, tm, tx, ln, rf, dg, dn, rk, pl, iw, wd, wm, od, oc)]) C rfl rfl (by omega) dX8_chosen_68 rfl rfl ?_
    refine i_aload_n (j := 0) (q := 70) C rfl rfl dX8_chosen_69 rfl ?_
    refine i_get (i := 0) (j := 0) (f := 0) (q := 73) C rfl rfl rfl hi_X8_chosen_X8 (by decide) lk_X8_chosen_7 rfl dX8_chosen_70 rfl ?_
    refine i_bipush (q := 75) C (by decide) dX8_chosen_73 rfl ?_
    refine i_iload_n (j := 1) (q := 76) C rfl rfl dX8_chosen_75 rfl ?_
    refine i_imul (q := 77) C dX8_chosen_76 rfl ?_
    refine i_iconst (q := 78) C dX8_chosen_77 rfl ?_
    refine i_iadd (q := 79) C dX8_chosen_78 rfl ?_
    refine i_aload_n (j := 0) (q := 80) C rfl rfl dX8_chosen_79 rfl ?_
    refine i_get (i := 0) (j := 0) (f := 3) (q := 83) C rfl rfl rfl hi_X8_chosen_X8 (by decide) lk_X8_chosen_50 rfl dX8_chosen_80 rfl ?_
    refine i_iast (i := 0) (j := 1) (q := 84) (cs' := [mdW am (up (up (up st ((14 * p) + 1) (nsc (st 2801) (st (14 * p + 1)) (st (14 * p + 4)) (st (14 * p + 5)) (tick ck))) ((14 * p) + 4) ((st (14 * p + 4)) + 1)) ((14 * p) + 5) (tick ck), bk, un, tick ck, ty, tm, tx, ln, rf, dg, dn, rk, pl, iw, wd, wm, od, oc)]) C rfl rfl (by omega) dX8_chosen_83 rfl rfl ?_
    refine i_aload_n (j := 0) (q := 85) C rfl rfl dX8_chosen_84 rfl ?_
    refine i_get (i := 0) (j := 0) (f := 0) (q := 88) C rfl rfl rfl hi_X8_chosen_X8 (by decide) lk_X8_chosen_7 rfl dX8_chosen_85 rfl ?_
    refine i_bipush (q := 90) C (by decide) dX8_chosen_88 rfl ?_
    refine i_iload_n (j := 1) (q := 91) C rfl rfl dX8_chosen_90 rfl ?_
    refine i_imul (q := 92) C dX8_chosen_91 rfl ?_
    refine i_iconst (q := 93) C dX8_chosen_92 rfl ?_
    refine i_iadd (q := 94) C dX8_chosen_93 rfl ?_
    refine i_iald (i := 0) (j := 1) (q := 95) C rfl rfl (by omega) dX8_chosen_94 rfl ?_
    skip
    refine V.top (b := nsc (st 2801) (st (14 * p + 1)) (st (14 * p + 4)) (st (14 * p + 5)) (tick ck)) (by rw [up_n _ _ (by omega), up_n _ _ (by omega), up_s]) ?_
    refine i_iret C hR dX8_chosen_95 ?_
    have w1 : ∀ k, k ≠ 14 * p + 1 → k ≠ 14 * p + 4 → k ≠ 14 * p + 5 → up (up (up st (14 * p + 1) (nsc (st 2801) (st (14 * p + 1)) (st (14 * p + 4)) (st (14 * p + 5)) (tick ck))) (14 * p + 4) (st (14 * p + 4) + 1)) (14 * p + 5) (tick ck) k = st k := fun k g1 g2 g3 => by rw [up_n _ _ g3, up_n _ _ g2, up_n _ _ g1]
    have v1 : up (up (up st (14 * p + 1) (nsc (st 2801) (st (14 * p + 1)) (st (14 * p + 4)) (st (14 * p + 5)) (tick ck))) (14 * p + 4) (st (14 * p + 4) + 1)) (14 * p + 5) (tick ck) (14 * p + 1) = nsc (st 2801) (st (14 * p + 1)) (st (14 * p + 4)) (st (14 * p + 5)) (tick ck) := by rw [up_n _ _ (by omega), up_n _ _ (by omega), up_s]
    have v4 : up (up (up st (14 * p + 1) (nsc (st 2801) (st (14 * p + 1)) (st (14 * p + 4)) (st (14 * p + 5)) (tick ck))) (14 * p + 4) (st (14 * p + 4) + 1)) (14 * p + 5) (tick ck) (14 * p + 4) = st (14 * p + 4) + 1 := by rw [up_n _ _ (by omega), up_s]
    have v5 : up (up (up st (14 * p + 1) (nsc (st 2801) (st (14 * p + 1)) (st (14 * p + 4)) (st (14 * p + 5)) (tick ck))) (14 * p + 4) (st (14 * p + 4) + 1)) (14 * p + 5) (tick ck) (14 * p + 5) = tick ck := by rw [up_s]
    obtain ⟨g1, g2⟩ := set_ok (U2 := U + 1) hs (by omega) (by omega) hp (fun y => (y.1, y.2.1, nsc (bo st).2.2.1 y.2.2.1 y.2.2.2.2.1 y.2.2.2.2.2 (tick ck), y.2.2.2.1, y.2.2.2.2.1 + 1, tick ck)) (fun k _ _ a b c => w1 k a b c) (by rw [v1]; exact hns) (by rw [v4]; omega) (by rw [v5]; omega) (fun _ => by rw [v1, v4, v5]; rfl)
    exact ⟨_, rfl, rfl, g1, g2⟩
  refine i_icmp_ne (tgt := 17) (q := 11) C (by omega) (by omega) dX8_chosen_8 (by decide) rfl (fun c_8 => ?_) (fun c_8 => ?_)
  · skip
    refine i_aload_n (j := 0) (q := 18) C rfl rfl dX8_chosen_17 rfl ?_
    refine i_get (i := 0) (j := 0) (f := 3) (q := 21) C rfl rfl rfl hi_X8_chosen_X8 (by decide) lk_X8_chosen_50 rfl dX8_chosen_18 rfl ?_
    refine i_iconst (q := 22) C dX8_chosen_21 rfl ?_
    refine i_iadd (q := 23) C dX8_chosen_22 rfl ?_
    exact join_23 (ck + 1) (by rw [htk1]; split <;> omega)
  · skip
    refine i_sipush (q := 14) C (by decide) dX8_chosen_11 rfl ?_
    refine i_goto (q := 23) C dX8_chosen_14 (by decide) ?_
    exact join_23 (9999) (by rw [htk1]; split <;> omega)

theorem lk_X8_halves_7 : Cond.fieldLink RX8 7 (TX8 0).1 (TX8 0).2.1 (TX8 0).2.2.1 ∈ wsX8_halves := List.mem_of_getElem? (i := 1) rfl
theorem hi_X8_halves_X8 : ∀ w ∈ u_ws RX8 TX8 18, w ∈ wsX8_halves := by decide +kernel
set_option maxHeartbeats 400000 in
set_option maxRecDepth 100000 in
theorem c_X8_halves (K : KT) (l : Launch) (am : Nat → Nat) (st : Int → Int) (bk : Int → Int) (un : Int) (ck : Int) (ty : Int → Int) (tm : Int) (tx : Int → Int) (ln : Int) (rf : Int → Int) (dg : Int) (dn : Int → Int) (rk : Int → Int) (pl : Int) (iw : Int) (wd : Int → Int) (wm : Int) (od : Int → Int) (oc : Int) (U : Int) (hs : okS U st) : Mt K l yX8_halves wsX8_halves ({ frames := 0, cells := 0, slots := 0, locals := 0 }) [vP (am 0)] [mdW am (st, bk, un, ck, ty, tm, tx, ln, rf, dg, dn, rk, pl, iw, wd, wm, od, oc)] 0 0 (fun v w => ∃ st3 : Int → Int, v = none ∧ w = [mdW am (st3, bk, un, ck, ty, tm, tx, ln, rf, dg, dn, rk, pl, iw, wd, wm, od, oc)] ∧ (bo st3 = halfB (bo st)) ∧ (okS U st3)) := by
  refine Mt.of (own := RX8) (cc := cX8_halves) (maxL := 2) (ret := none) (lv0 := [(0, vP (am 0))]) (by decide) rfl rfl (Nat.le_of_ble_eq_true rfl) rfl (fun X C hR hN => ?_)
  refine i_iconst (q := 1) C dX8_halves_0 rfl ?_
  refine i_istore_n (q := 2) (lv' := [(1, vI 0), (0, vP (am 0))]) C rfl (by decide) rfl dX8_halves_1 rfl ?_
  have loop_2 : ∀ (fuel : Nat) (p : Int) (st4 : Int → Int), ((st 2800 - p).toNat) < fuel → (0 ≤ p ∧ p ≤ st 2800) → (∀ q, 0 ≤ q → q < p → st4 (14 * q + 1) = st (14 * q + 1) / 2) → (∀ q, p ≤ q → st4 (14 * q + 1) = st (14 * q + 1)) → (∀ k, (∀ q, 0 ≤ q → q < st 2800 → k ≠ 14 * q + 1) → st4 k = st k) → V X 0 0 2 [(0, vP (am 0)), (1, vI p)] [] [mdW am (st4, bk, un, ck, ty, tm, tx, ln, rf, dg, dn, rk, pl, iw, wd, wm, od, oc)] := by
    intro fuel
    induction fuel with
    | zero => intro p st4 hz; exact absurd hz (Nat.not_lt_zero _)
    | succ fuel ih_2 =>
      intro p st4 hfu_2 hp hdone hrest hsame
      have hrest : ∀ q, p ≤ q → st4 (14 * q + 1) = st (14 * q + 1) := hrest
      refine i_iload_n (j := 1) (q := 3) C rfl rfl dX8_halves_2 rfl ?_
      refine i_aload_n (j := 0) (q := 4) C rfl rfl dX8_halves_3 rfl ?_
      refine i_get (i := 0) (j := 0) (f := 0) (q := 7) C rfl rfl rfl hi_X8_halves_X8 (by decide) lk_X8_halves_7 rfl dX8_halves_4 rfl ?_
      refine i_sipush (q := 10) C (by decide) dX8_halves_7 rfl ?_
      refine i_iald (i := 0) (j := 1) (q := 11) C rfl rfl (by omega) dX8_halves_10 rfl ?_
      have ld_10 := hs.gv
      refine V.top (b := st 2800) (hsame 2800 (fun q _ _ => by omega)) ?_
      refine i_icmp_ge (tgt := 35) (q := 14) C (by omega) (by omega) dX8_halves_11 (by decide) rfl (fun c_11 => ?_) (fun c_11 => ?_)
      · skip
        refine i_vret C hR dX8_halves_35 ?_
        obtain ⟨g1, g2⟩ := half_ok hs (fun q g0 g1 => hdone q g0 (by omega)) hsame
        exact ⟨st4, rfl, rfl, g1, g2⟩
      · skip
        refine i_aload_n (j := 0) (q := 15) C rfl rfl dX8_halves_14 rfl ?_
        refine i_get (i := 0) (j := 0) (f := 0) (q := 18) C rfl rfl rfl hi_X8_halves_X8 (by decide) lk_X8_halves_7 rfl dX8_halves_15 rfl ?_
        refine i_bipush (q := 20) C (by decide) dX8_halves_18 rfl ?_
        refine i_iload_n (j := 1) (q := 21) C rfl rfl dX8_halves_20 rfl ?_
        refine i_imul (q := 22) C dX8_halves_21 rfl ?_
        refine i_iconst (q := 23) C dX8_halves_22 rfl ?_
        refine i_iadd (q := 24) C dX8_halves_23 rfl ?_
        refine i_dup2 (q := 25) C rfl rfl dX8_halves_24 rfl ?_
        refine i_iald (i := 0) (j := 1) (q := 26) C rfl rfl (by omega) dX8_halves_25 rfl ?_
        have ld_25 := hs.gv
        refine V.top (b := st (14 * p + 1)) (hrest p (Int.le_refl p)) ?_
        refine i_iconst (q := 27) C dX8_halves_26 rfl ?_
        refine i_idiv (q := 28) C (by have := hs.k1 p (by omega) (by omega); omega) dX8_halves_27 rfl ?_
        refine i_iast (i := 0) (j := 1) (q := 29) (cs' := [mdW am (up st4 ((14 * p) + 1) ((st (14 * p + 1)) / 2), bk, un, ck, ty, tm, tx, ln, rf, dg, dn, rk, pl, iw, wd, wm, od, oc)]) C rfl rfl (by omega) dX8_halves_28 rfl rfl ?_
        refine i_iinc (j := 1) (q := 32) (lv' := [(1, vI (p + 1)), (0, vP (am 0))]) C rfl (by decide) rfl dX8_halves_29 rfl ?_
        refine i_goto (q := 2) C dX8_halves_32 (by decide) ?_
        refine V.lv [1, 0] rfl ?_
        exact ih_2 (p + 1) (up st4 ((14 * p) + 1) ((st (14 * p + 1)) / 2)) (by omega) (by omega) (fun q g0 g1 => by
          by_cases e : q = p
          · subst e; rw [up_s]
          · rw [up_n _ _ (by omega)]; exact hdone q g0 (by omega)) (fun q g0 => by rw [up_n _ _ (by omega)]; exact hrest q (by omega)) (fun k g => by rw [up_n _ _ (g p (by omega) (by omega))]; exact hsame k g)
  refine V.lv [1, 0] rfl ?_
  exact loop_2 _ (0) (st) (Nat.lt_succ_self _) (by have := hs.gv; omega) (fun q _ _ => by omega) (fun q _ => rfl) (fun k _ => rfl)

theorem lk_X8_draws_108 : Cond.fieldLink RX8 108 (TX8 9).1 (TX8 9).2.1 (TX8 9).2.2.1 ∈ wsX8_draws := List.mem_of_getElem? (i := 1) rfl
theorem hi_X8_draws_X8 : ∀ w ∈ u_ws RX8 TX8 18, w ∈ wsX8_draws := by decide +kernel
set_option maxHeartbeats 400000 in
set_option maxRecDepth 100000 in
theorem c_X8_draws (K : KT) (l : Launch) (am : Nat → Nat) (st : Int → Int) (bk : Int → Int) (un : Int) (ck : Int) (ty : Int → Int) (tm : Int) (tx : Int → Int) (ln : Int) (rf : Int → Int) (dg : Int) (dn : Int → Int) (rk : Int → Int) (pl : Int) (iw : Int) (wd : Int → Int) (wm : Int) (od : Int → Int) (oc : Int) (hdg : 0 ≤ dg ∧ dg < 2147483648) : Mt K l yX8_draws wsX8_draws ({ frames := 0, cells := 0, slots := 0, locals := 0 }) [vP (am 0)] [mdW am (st, bk, un, ck, ty, tm, tx, ln, rf, dg, dn, rk, pl, iw, wd, wm, od, oc)] 0 0 (fun v w => v = none ∧ w = [mdW am (st, bk, un, ck, ty, tm, tx, ln, rf, nxt dg, dn, rk, pl, iw, wd, wm, od, oc)]) := by
  refine Mt.of (own := RX8) (cc := cX8_draws) (maxL := 1) (ret := none) (lv0 := [(0, vP (am 0))]) (by decide) rfl rfl (Nat.le_of_ble_eq_true rfl) rfl (fun X C hR hN => ?_)
  refine i_aload_n (j := 0) (q := 1) C rfl rfl dX8_draws_0 rfl ?_
  refine i_aload_n (j := 0) (q := 2) C rfl rfl dX8_draws_1 rfl ?_
  refine i_get (i := 0) (j := 0) (f := 9) (q := 5) C rfl rfl rfl hi_X8_draws_X8 (by decide) lk_X8_draws_108 rfl dX8_draws_2 rfl ?_
  refine i_ldc2 (z := 1103515245) (q := 8) C (List.mem_of_getElem? (i := 2) rfl) dX8_draws_5 rfl ?_
  refine i_lmul (q := 9) C dX8_draws_8 rfl ?_
  refine i_ldc2 (z := 12345) (q := 12) C (List.mem_of_getElem? (i := 3) rfl) dX8_draws_9 rfl ?_
  refine i_ladd (q := 13) C dX8_draws_12 rfl ?_
  refine i_ldc2 (z := 2147483648) (q := 16) C (List.mem_of_getElem? (i := 4) rfl) dX8_draws_13 rfl ?_
  refine i_lrem (q := 17) C (by omega) dX8_draws_16 rfl ?_
  refine i_putJ (i := 0) (j := 0) (f := 9) (q := 20) (cs' := [mdW am (st, bk, un, ck, ty, tm, tx, ln, rf, ((dg * 1103515245) + 12345) % 2147483648, dn, rk, pl, iw, wd, wm, od, oc)]) C rfl rfl rfl hi_X8_draws_X8 tyX8 tyX8_ok nmX8 (by decide) (Nat.le_of_ble_eq_true rfl) lk_X8_draws_108 rfl rfl dX8_draws_17 rfl rfl ?_
  refine i_vret C hR dX8_draws_20 ?_
  exact ⟨rfl, rfl⟩
