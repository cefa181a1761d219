theorem hd_X8_many : yX8_many.cls = RX8 ∧ yX8_many.cls ≠ "java/lang/invoke/MethodHandle" ∧ yX8_many.cls ≠ "java/lang/invoke/VarHandle" ∧ (parseMethodDescriptor yX8_many.desc).map (fun d => d.parameters.length) = some 0 := by decide +kernel
theorem lk_X8_mayCome_7 : Cond.fieldLink RX8 7 (TX8 0).1 (TX8 0).2.1 (TX8 0).2.2.1 ∈ wsX8_mayCome := List.mem_of_getElem? (i := 1) rfl
theorem hi_X8_mayCome_X8 : ∀ w ∈ u_ws RX8 TX8 18, w ∈ wsX8_mayCome := by decide +kernel
set_option maxHeartbeats 400000 in
set_option maxRecDepth 100000 in
theorem c_X8_mayCome (K : KT) (l : Launch) (am : Nat → Nat) (st : Int → Int) (bk : Int → Int) (un : Int) (ck : Int) (ty : Int → Int) (tm : Int) (tx : Int → Int) (ln : Int) (rf : Int → Int) (dg : Int) (dn : Int → Int) (rk : Int → Int) (pl : Int) (iw : Int) (wd : Int → Int) (wm : Int) (od : Int → Int) (oc : Int) (U : Int) (hs : okS U st) : Mt K l yX8_mayCome wsX8_mayCome ({ frames := 1, cells := 0, slots := 0, locals := 22 }) [vP (am 0)] [mdW am (st, bk, un, ck, ty, tm, tx, ln, rf, dg, dn, rk, pl, iw, wd, wm, od, oc)] 0 0 (fun v w => v = some (vI (if roomB (bo st) = true then 1 else 0)) ∧ w = [mdW am (st, bk, un, ck, ty, tm, tx, ln, rf, dg, dn, rk, pl, iw, wd, wm, od, oc)]) := by
  refine Mt.of (own := RX8) (cc := cX8_mayCome) (maxL := 1) (ret := (some .boolean)) (lv0 := [(0, vP (am 0))]) (by decide) rfl rfl (Nat.le_of_ble_eq_true rfl) rfl (fun X C hR hN => ?_)
  have hrm : roomB (bo st) = true ↔ ((ml st (st 2800).toNat).length : Int) < 40 ∧ st 2800 < 200 := by
    unfold roomB bo
    simp only [Bool.and_eq_true, decide_eq_true_eq]
    omega
  have hlen : ((ml st (st 2800).toNat).length : Int) ≤ 200 := by
    have h1 := ml_len st (st 2800).toNat
    have h2 := hs.gv
    omega
  refine i_aload_n (j := 0) (q := 1) C rfl rfl dX8_mayCome_0 rfl ?_
  refine i_callV (wr := []) (As := []) (st := []) (i := 0) (j := 0) (q := 4) C (c_X8_many K l (am) (st) (bk) (un) (ck) (ty) (tm) (tx) (ln) (rf) (dg) (dn) (rk) (pl) (iw) (wd) (wm) (od) (oc) (U) (by first | assumption | omega)) gX8_mayCome_X8_many rfl hd_X8_many ⟨Nat.le_of_ble_eq_true rfl, Nat.le_of_ble_eq_true rfl⟩ ⟨rfl, rfl⟩ ⟨Nat.le_of_ble_eq_true rfl, Nat.le_of_ble_eq_true rfl⟩ (permBy [0] (by decide) rfl rfl) rfl rfl rfl rfl (Nat.le_of_ble_eq_true rfl) dX8_mayCome_1 rfl (fun v w hq => ?_)
  obtain ⟨rfl, rfl⟩ := hq
  show V X 0 0 4 [(0, vP (am 0))] [vI ((ml st (st 2800).toNat).length : Int)] [mdW am (st, bk, un, ck, ty, tm, tx, ln, rf, dg, dn, rk, pl, iw, wd, wm, od, oc)]
  refine i_bipush (q := 6) C (by decide) dX8_mayCome_4 rfl ?_
  refine i_icmp_ge (tgt := 27) (q := 9) C (by omega) (by omega) dX8_mayCome_6 (by decide) rfl (fun c_6 => ?_) (fun c_6 => ?_)
  · skip
    refine i_iconst (q := 28) C dX8_mayCome_27 rfl ?_
    refine i_zret C hR (by omega) dX8_mayCome_28 ?_
    exact ⟨by simp only [Option.some.injEq, Sum.inl.injEq, hrm]; split <;> omega, rfl⟩
  · skip
    refine i_aload_n (j := 0) (q := 10) C rfl rfl dX8_mayCome_9 rfl ?_
    refine i_get (i := 0) (j := 0) (f := 0) (q := 13) C rfl rfl rfl hi_X8_mayCome_X8 (by decide) lk_X8_mayCome_7 rfl dX8_mayCome_10 rfl ?_
    refine i_sipush (q := 16) C (by decide) dX8_mayCome_13 rfl ?_
    refine i_iald (i := 0) (j := 1) (q := 17) C rfl rfl (by omega) dX8_mayCome_16 rfl ?_
    have ld_16 := hs.gv
    refine i_sipush (q := 20) C (by decide) dX8_mayCome_17 rfl ?_
    refine i_icmp_ge (tgt := 27) (q := 23) C (by omega) (by omega) dX8_mayCome_20 (by decide) rfl (fun c_20 => ?_) (fun c_20 => ?_)
    · skip
      refine i_iconst (q := 28) C dX8_mayCome_27 rfl ?_
      refine i_zret C hR (by omega) dX8_mayCome_28 ?_
      exact ⟨by simp only [Option.some.injEq, Sum.inl.injEq, hrm]; split <;> omega, rfl⟩
    · skip
      refine i_iconst (q := 24) C dX8_mayCome_23 rfl ?_
      refine i_goto (q := 28) C dX8_mayCome_24 (by decide) ?_
      refine i_zret C hR (by omega) dX8_mayCome_28 ?_
      exact ⟨by simp only [Option.some.injEq, Sum.inl.injEq, hrm]; split <;> omega, rfl⟩

theorem lk_X8_comes_7 : Cond.fieldLink RX8 7 (TX8 0).1 (TX8 0).2.1 (TX8 0).2.2.1 ∈ wsX8_comes := List.mem_of_getElem? (i := 1) rfl
theorem hi_X8_comes_X8 : ∀ w ∈ u_ws RX8 TX8 18, w ∈ wsX8_comes := by decide +kernel
theorem hd_X8_bring : yX8_bring.cls ≠ "java/lang/invoke/MethodHandle" ∧ yX8_bring.cls ≠ "java/lang/invoke/VarHandle" ∧ (parseMethodDescriptor yX8_bring.desc).map (fun d => d.parameters.length) = some 5 := by decide +kernel
set_option maxHeartbeats 400000 in
set_option maxRecDepth 100000 in
theorem c_X8_comes_ty (K : KT) (l : Launch) (am : Nat → Nat) (st : Int → Int) (bk : Int → Int) (un : Int) (ck : Int) (ty : Int → Int) (tm : Int) (tx : Int → Int) (ln : Int) (rf : Int → Int) (dg : Int) (dn : Int → Int) (rk : Int → Int) (pl : Int) (iw : Int) (wd : Int → Int) (wm : Int) (od : Int → Int) (oc : Int) (U : Int) (n : Int) (x : Int) (y : Int) (hs : okS U st) (hg : st 2800 < 200) (hn : 1 ≤ n ∧ n ≤ 8) : Mt K l yX8_comes wsX8_comes ({ frames := 1, cells := 0, slots := 0, locals := 25 }) [vP (am 0), vP (am 3), vI n, vI x, vI y] [mdW am (st, bk, un, ck, ty, tm, tx, ln, rf, dg, dn, rk, pl, iw, wd, wm, od, oc)] 0 0 (fun v w => v = some (vI (st 2800)) ∧ w = [mdW am (cmS st ty n x y, bk, un, ck, ty, tm, tx, ln, rf, dg, dn, rk, pl, iw, wd, wm, od, oc)]) := by
  refine Mt.of (own := RX8) (cc := cX8_comes) (maxL := 7) (ret := (some .int)) (lv0 := [(0, vP (am 0)), (1, vP (am 3)), (2, vI n), (3, vI x), (4, vI y)]) (by decide) rfl rfl (Nat.le_of_ble_eq_true rfl) rfl (fun X C hR hN => ?_)
  refine i_aload_n (j := 0) (q := 1) C rfl rfl dX8_comes_0 rfl ?_
  refine i_get (i := 0) (j := 0) (f := 0) (q := 4) C rfl rfl rfl hi_X8_comes_X8 (by decide) lk_X8_comes_7 rfl dX8_comes_1 rfl ?_
  refine i_sipush (q := 7) C (by decide) dX8_comes_4 rfl ?_
  refine i_iald (i := 0) (j := 1) (q := 8) C rfl rfl (by omega) dX8_comes_7 rfl ?_
  have ld_7 := hs.gv
  refine i_istore (q := 10) (lv' := [(5, vI (st 2800)), (0, vP (am 0)), (1, vP (am 3)), (2, vI n), (3, vI x), (4, vI y)]) C (by decide) rfl dX8_comes_8 rfl ?_
  refine i_bipush (q := 12) C (by decide) dX8_comes_10 rfl ?_
  refine i_iload (j := 0) (q := 14) C rfl dX8_comes_12 rfl ?_
  refine i_imul (q := 15) C dX8_comes_14 rfl ?_
  refine i_istore (q := 17) (lv' := [(6, vI (14 * (st 2800))), (5, vI (st 2800)), (0, vP (am 0)), (1, vP (am 3)), (2, vI n), (3, vI x), (4, vI y)]) C (by decide) rfl dX8_comes_15 rfl ?_
  refine i_aload_n (j := 2) (q := 18) C rfl rfl dX8_comes_17 rfl ?_
  refine i_get (i := 0) (j := 0) (f := 0) (q := 21) C rfl rfl rfl hi_X8_comes_X8 (by decide) lk_X8_comes_7 rfl dX8_comes_18 rfl ?_
  refine i_iload (j := 0) (q := 23) C rfl dX8_comes_21 rfl ?_
  refine i_iconst (q := 24) C dX8_comes_23 rfl ?_
  refine i_iast (i := 0) (j := 1) (q := 25) (cs' := [mdW am (up st (14 * (st 2800)) 1, bk, un, ck, ty, tm, tx, ln, rf, dg, dn, rk, pl, iw, wd, wm, od, oc)]) C rfl rfl (by omega) dX8_comes_24 rfl rfl ?_
  refine i_aload_n (j := 2) (q := 26) C rfl rfl dX8_comes_25 rfl ?_
  refine i_get (i := 0) (j := 0) (f := 0) (q := 29) C rfl rfl rfl hi_X8_comes_X8 (by decide) lk_X8_comes_7 rfl dX8_comes_26 rfl ?_
  refine i_iload (j := 0) (q := 31) C rfl dX8_comes_29 rfl ?_
  refine i_iconst (q := 32) C dX8_comes_31 rfl ?_
  refine i_iadd (q := 33) C dX8_comes_32 rfl ?_
  refine i_iload_n (j := 5) (q := 34) C rfl rfl dX8_comes_33 rfl ?_
  refine i_iast (i := 0) (j := 1) (q := 35) (cs' := [mdW am (up (up st (14 * (st 2800)) 1) ((14 * (st 2800)) + 1) x, bk, un, ck, ty, tm, tx, ln, rf, dg, dn, rk, pl, iw, wd, wm, od, oc)]) C rfl rfl (by omega) dX8_comes_34 rfl rfl ?_
  refine i_aload_n (j := 2) (q := 36) C rfl rfl dX8_comes_35 rfl ?_
  refine i_get (i := 0) (j := 0) (f := 0) (q := 39) C rfl rfl rfl hi_X8_comes_X8 (by decide) lk_X8_comes_7 rfl dX8_comes_36 rfl ?_
  refine i_iload (j := 0) (q := 41) C rfl dX8_comes_39 rfl ?_
  refine i_iconst (q := 42) C dX8_comes_41 rfl ?_
  refine i_iadd (q := 43) C dX8_comes_42 rfl ?_
  refine i_iload (j := 6) (q := 45) C rfl dX8_comes_43 rfl ?_
  refine i_iast (i := 0) (j := 1) (q := 46) (cs' := [mdW am (up (up (up st (14 * (st 2800)) 1) ((14 * (st 2800)) + 1) x) ((14 * (st 2800)) + 2) y, bk, un, ck, ty, tm, tx, ln, rf, dg, dn, rk, pl, iw, wd, wm, od, oc)]) C rfl rfl (by omega) dX8_comes_45 rfl rfl ?_
  refine i_aload_n (j := 2) (q := 47) C rfl rfl dX8_comes_46 rfl ?_
  refine i_get (i := 0) (j := 0) (f := 0) (q := 50) C rfl rfl rfl hi_X8_comes_X8 (by decide) lk_X8_comes_7 rfl dX8_comes_47 rfl ?_
  refine i_iload (j := 0) (q := 52) C rfl dX8_comes_50 rfl ?_
  refine i_iconst (q := 53) C dX8_comes_52 rfl ?_
  refine i_iadd (q := 54) C dX8_comes_53 rfl ?_
  refine i_iload_n (j := 4) (q := 55) C rfl rfl dX8_comes_54 rfl ?_
  refine i_iast (i := 0) (j := 1) (q := 56) (cs' := [mdW am (up (up (up (up st (14 * (st 2800)) 1) ((14 * (st 2800)) + 1) x) ((14 * (st 2800)) + 2) y) ((14 * (st 2800)) + 3) n, bk, un, ck, ty, tm, tx, ln, rf, dg, dn, rk, pl, iw, wd, wm, od, oc)]) C rfl rfl (by omega) dX8_comes_55 rfl rfl ?_
  refine i_aload_n (j := 2) (q := 57) C rfl rfl dX8_comes_56 rfl ?_
  refine i_get (i := 0) (j := 0) (f := 0) (q := 60) C rfl rfl rfl hi_X8_comes_X8 (by decide) lk_X8_comes_7 rfl dX8_comes_57 rfl ?_
  refine i_iload (j := 0) (q := 62) C rfl dX8_comes_60 rfl ?_
  refine i_iconst (q := 63) C dX8_comes_62 rfl ?_
  refine i_iadd (q := 64) C dX8_comes_63 rfl ?_
  refine i_iconst (q := 65) C dX8_comes_64 rfl ?_
  refine i_iast (i := 0) (j := 1) (q := 66) (cs' := [mdW am (up (up (up (up (up st (14 * (st 2800)) 1) ((14 * (st 2800)) + 1) x) ((14 * (st 2800)) + 2) y) ((14 * (st 2800)) + 3) n) ((14 * (st 2800)) + 4) 0, bk, un, ck, ty, tm, tx, ln, rf, dg, dn, rk, pl, iw, wd, wm, od, oc)]) C rfl rfl (by omega) dX8_comes_65 rfl rfl ?_
  refine i_aload_n (j := 2) (q := 67) C rfl rfl dX8_comes_66 rfl ?_
  refine i_get (i := 0) (j := 0) (f := 0) (q := 70) C rfl rfl rfl hi_X8_comes_X8 (by decide) lk_X8_comes_7 rfl dX8_comes_67 rfl ?_
  refine i_iload (j := 0) (q := 72) C rfl dX8_comes_70 rfl ?_
  refine i_iconst (q := 73) C dX8_comes_72 rfl ?_
  refine i_iadd (q := 74) C dX8_comes_73 rfl ?_
  refine i_iconst (q := 75) C dX8_comes_74 rfl ?_
  refine i_iast (i := 0) (j := 1) (q := 76) (cs' := [mdW am (up (up (up (up (up (up st (14 * (st 2800)) 1) ((14 * (st 2800)) + 1) x) ((14 * (st 2800)) + 2) y) ((14 * (st 2800)) + 3) n) ((14 * (st 2800)) + 4) 0) ((14 * (st 2800)) + 5) (-1), bk, un, ck, ty, tm, tx, ln, rf, dg, dn, rk, pl, iw, wd, wm, od, oc)]) C rfl rfl (by omega) dX8_comes_75 rfl rfl ?_
  refine i_aload_n (j := 3) (q := 77) C rfl rfl dX8_comes_76 rfl ?_
  refine i_iconst (q := 78) C dX8_comes_77 rfl ?_
  refine i_aload_n (j := 2) (q := 79) C rfl rfl dX8_comes_78 rfl ?_
  refine i_get (i := 0) (j := 0) (f := 0) (q := 82) C rfl rfl rfl hi_X8_comes_X8 (by decide) lk_X8_comes_7 rfl dX8_comes_79 rfl ?_
  refine i_iload (j := 0) (q := 84) C rfl dX8_comes_82 rfl ?_
  refine i_bipush (q := 86) C (by decide) dX8_comes_84 rfl ?_
  refine i_iadd (q := 87) C dX8_comes_86 rfl ?_
  refine i_iload_n (j := 4) (q := 88) C rfl rfl dX8_comes_87 rfl ?_
  refine i_callS (wr := []) (As := [vP (am 3), vI 0, vP (am 1), vI ((14 * (st 2800)) + 6), vI n]) (st := []) (q := 91) C (c_X8_bring_ty_st K l (am) (up (up (up (up (up (up st (14 * (st 2800)) 1) ((14 * (st 2800)) + 1) x) ((14 * (st 2800)) + 2) y) ((14 * (st 2800)) + 3) n) ((14 * (st 2800)) + 4) 0) ((14 * (st 2800)) + 5) (-1)) (bk) (un) (ck) (ty) (tm) (tx) (ln) (rf) (dg) (dn) (rk) (pl) (iw) (wd) (wm) (od) (oc) (0) ((14 * (st 2800)) + 6) (n) (by first | assumption | omega) (by first | assumption | omega) (by first | assumption | omega)) gX8_comes_X8_bring rfl hd_X8_bring ⟨Nat.le_of_ble_eq_true rfl, Nat.le_of_ble_eq_true rfl⟩ ⟨rfl, rfl⟩ ⟨Nat.le_of_ble_eq_true rfl, Nat.le_of_ble_eq_true rfl⟩ (permBy [0] (by decide) rfl rfl) rfl (Nat.le_of_ble_eq_true rfl) dX8_comes_88 rfl (fun v w hq => ?_)
  obtain ⟨rfl, rfl⟩ := hq
  show V X 0 0 91 [(6, vI (14 * (st 2800))), (5, vI (st 2800)), (0, vP (am 0)), (1, vP (am 3)), (2, vI n), (3, vI x), (4, vI y)] [] [mdW am (cpy ty 0 (up (up (up (up (up (up st (14 * (st 2800)) 1) ((14 * (st 2800)) + 1) x) ((14 * (st 2800)) + 2) y) ((14 * (st 2800)) + 3) n) ((14 * (st 2800)) + 4) 0) ((14 * (st 2800)) + 5) (-1)) ((14 * (st 2800)) + 6) n, bk, un, ck, ty, tm, tx, ln, rf, dg, dn, rk, pl, iw, wd, wm, od, oc)]
  refine i_aload_n (j := 2) (q := 92) C rfl rfl dX8_comes_91 rfl ?_
  refine i_get (i := 0) (j := 0) (f := 0) (q := 95) C rfl rfl rfl hi_X8_comes_X8 (by decide) lk_X8_comes_7 rfl dX8_comes_92 rfl ?_
  refine i_sipush (q := 98) C (by decide) dX8_comes_95 rfl ?_
  refine i_dup2 (q := 99) C rfl rfl dX8_comes_98 rfl ?_
  refine i_iald (i := 0) (j := 1) (q := 100) C rfl rfl (by omega) dX8_comes_99 rfl ?_
  skip
  refine V.top (b := st 2800) (by have := hs.gv; rw [cpy_out _ _ _ _ _ _ (by omega), up_n _ _ (by omega), up_n _ _ (by omega), up_n _ _ (by omega), up_n _ _ (by omega), up_n _ _ (by omega), up_n _ _ (by omega)]) ?_
  refine i_iconst (q := 101) C dX8_comes_100 rfl ?_
  refine i_iadd (q := 102) C dX8_comes_101 rfl ?_
  refine i_iast (i := 0) (j := 1) (q := 103) (cs' := [mdW am (up (cpy ty 0 (up (up (up (up (up (up st (14 * (st 2800)) 1) ((14 * (st 2800)) + 1) x) ((14 * (st 2800)) + 2) y) ((14 * (st 2800)) + 3) n) ((14 * (st 2800)) + 4) 0) ((14 * (st 2800)) + 5) (-1)) ((14 * (st 2800)) + 6) n) 2800 ((st 2800) + 1), bk, un, ck, ty, tm, tx, ln, rf, dg, dn, rk, pl, iw, wd, wm, od, oc)]) C rfl rfl (by omega) dX8_comes_102 rfl rfl ?_
  refine i_iload (j := 1) (q := 105) C rfl dX8_comes_103 rfl ?_
  refine i_iret C hR dX8_comes_105 ?_
  exact ⟨rfl, rfl⟩

set_option maxHeartbeats 400000 in
set_option maxRecDepth 100000 in
theorem c_X8_comes_dn (K : KT) (l : Launch) (am : Nat → Nat) (st : Int → Int) (bk : Int → Int) (un : Int) (ck : Int) (ty : Int → Int) (tm : Int) (tx : Int → Int) (ln : Int) (rf : Int → Int) (dg : Int) (dn : Int → Int) (rk : Int → Int) (pl : Int) (iw : Int) (wd : Int → Int) (wm : Int) (od : Int → Int) (oc : Int) (U : Int) (n : Int) (x : Int) (y : Int) (hs : okS U st) (hg : st 2800 < 200) (hn : 1 ≤ n ∧ n ≤ 8) : Mt K l yX8_comes wsX8_comes ({ frames := 1, cells := 0, slots := 0, locals := 25 }) [vP (am 0), vP (am 6), vI n, vI x, vI y] [mdW am (st, bk, un, ck, ty, tm, tx, ln, rf, dg, dn, rk, pl, iw, wd, wm, od, oc)] 0 0 (fun v w => v = some (vI (st 2800)) ∧ w = [mdW am (cmS st dn n x y, bk, un, ck, ty, tm, tx, ln, rf, dg, dn, rk, pl, iw, wd, wm, od, oc)]) := by
  refine Mt.of (own := RX8) (cc := cX8_comes) (maxL := 7) (ret := (some .int)) (lv0 := [(0, vP (am 0)), (1, vP (am 6)), (2, vI n), (3, vI x), (4, vI y)]) (by decide) rfl rfl (Nat.le_of_ble_eq_true rfl) rfl (fun X C hR hN => ?_)
  refine i_aload_n (j := 0) (q := 1) C rfl rfl dX8_comes_0 rfl ?_
  refine i_get (i := 0) (j := 0) (f := 0) (q := 4) C rfl rfl rfl hi_X8_comes_X8 (by decide) lk_X8_comes_7 rfl dX8_comes_1 rfl ?_
  refine i_sipush (q := 7) C (by decide) dX8_comes_4 rfl ?_
  refine i_iald (i := 0) (j := 1) (q := 8) C rfl rfl (by omega) dX8_comes_7 rfl ?_
  have ld_7 := hs.gv
  refine i_istore (q := 10) (lv' := [(5, vI (st 2800)), (0, vP (am 0)), (1, vP (am 6)), (2, vI n), (3, vI x), (4, vI y)]) C (by decide) rfl dX8_comes_8 rfl ?_
  refine i_bipush (q := 12) C (by decide) dX8_comes_10 rfl ?_
  refine i_iload (j := 0) (q := 14) C rfl dX8_comes_12 rfl ?_
  refine i_imul (q := 15) C dX8_comes_14 rfl ?_
  refine i_istore (q := 17) (lv' := [(6, vI (14 * (st 2800))), (5, vI (st 2800)), (0, vP (am 0)), (1, vP (am 6)), (2, vI n), (3, vI x), (4, vI y)]) C (by decide) rfl dX8_comes_15 rfl ?_
  refine i_aload_n (j := 2) (q := 18) C rfl rfl dX8_comes_17 rfl ?_
  refine i_get (i := 0) (j := 0) (f := 0) (q := 21) C rfl rfl rfl hi_X8_comes_X8 (by decide) lk_X8_comes_7 rfl dX8_comes_18 rfl ?_
  refine i_iload (j := 0) (q := 23) C rfl dX8_comes_21 rfl ?_
  refine i_iconst (q := 24) C dX8_comes_23 rfl ?_
  refine i_iast (i := 0) (j := 1) (q := 25) (cs' := [mdW am (up st (14 * (st 2800)) 1, bk, un, ck, ty, tm, tx, ln, rf, dg, dn, rk, pl, iw, wd, wm, od, oc)]) C rfl rfl (by omega) dX8_comes_24 rfl rfl ?_
  refine i_aload_n (j := 2) (q := 26) C rfl rfl dX8_comes_25 rfl ?_
  refine i_get (i := 0) (j := 0) (f := 0) (q := 29) C rfl rfl rfl hi_X8_comes_X8 (by decide) lk_X8_comes_7 rfl dX8_comes_26 rfl ?_
  refine i_iload (j := 0) (q := 31) C rfl dX8_comes_29 rfl ?_
  refine i_iconst (q := 32) C dX8_comes_31 rfl ?_
  refine i_iadd (q := 33) C dX8_comes_32 rfl ?_
  refine i_iload_n (j := 5) (q := 34) C rfl rfl dX8_comes_33 rfl ?_
  refine i_iast (i := 0) (j := 1) (q := 35) (cs' := [mdW am (up (up st (14 * (st 2800)) 1) ((14 * (st 2800)) + 1) x, bk, un, ck, ty, tm, tx, ln, rf, dg, dn, rk, pl, iw, wd, wm, od, oc)]) C rfl rfl (by omega) dX8_comes_34 rfl rfl ?_
  refine i_aload_n (j := 2) (q := 36) C rfl rfl dX8_comes_35 rfl ?_
  refine i_get (i := 0) (j := 0) (f := 0) (q := 39) C rfl rfl rfl hi_X8_comes_X8 (by decide) lk_X8_comes_7 rfl dX8_comes_36 rfl ?_
  refine i_iload (j := 0) (q := 41) C rfl dX8_comes_39 rfl ?_
  refine i_iconst (q := 42) C dX8_comes_41 rfl ?_
  refine i_iadd (q := 43) C dX8_comes_42 rfl ?_
  refine i_iload (j := 6) (q := 45) C rfl dX8_comes_43 rfl ?_
  refine i_iast (i := 0) (j := 1) (q := 46) (cs' := [mdW am (up (up (up st (14 * (st 2800)) 1) ((14 * (st 2800)) + 1) x) ((14 * (st 2800)) + 2) y, bk, un, ck, ty, tm, tx, ln, rf, dg, dn, rk, pl, iw, wd, wm, od, oc)]) C rfl rfl (by omega) dX8_comes_45 rfl rfl ?_
  refine i_aload_n (j := 2) (q := 47) C rfl rfl dX8_comes_46 rfl ?_
  refine i_get (i := 0) (j := 0) (f := 0) (q := 50) C rfl rfl rfl hi_X8_comes_X8 (by decide) lk_X8_comes_7 rfl dX8_comes_47 rfl ?_
  refine i_iload (j := 0) (q := 52) C rfl dX8_comes_50 rfl ?_
  refine i_iconst (q := 53) C dX8_comes_52 rfl ?_
  refine i_iadd (q := 54) C dX8_comes_53 rfl ?_
  refine i_iload_n (j := 4) (q := 55) C rfl rfl dX8_comes_54 rfl ?_
  refine i_iast (i := 0) (j := 1) (q := 56) (cs' := [mdW am (up (up (up (up st (14 * (st 2800)) 1) ((14 * (st 2800)) + 1) x) ((14 * (st 2800)) + 2) y) ((14 * (st 2800)) + 3) n, bk, un, ck, ty, tm, tx, ln, rf, dg, dn, rk, pl, iw, wd, wm, od, oc)]) C rfl rfl (by omega) dX8_comes_55 rfl rfl ?_
  refine i_aload_n (j := 2) (q := 57) C rfl rfl dX8_comes_56 rfl ?_
  refine i_get (i := 0) (j := 0) (f := 0) (q := 60) C rfl rfl rfl hi_X8_comes_X8 (by decide) lk_X8_comes_7 rfl dX8_comes_57 rfl ?_
  refine i_iload (j := 0) (q := 62) C rfl dX8_comes_60 rfl ?_
  refine i_iconst (q := 63) C dX8_comes_62 rfl ?_
  refine i_iadd (q := 64) C dX8_comes_63 rfl ?_
  refine i_iconst (q := 65) C dX8_comes_64 rfl ?_
  refine i_iast (i := 0) (j := 1) (q := 66) (cs' := [mdW am (up (up (up (up (up st (14 * (st 2800)) 1) ((14 * (st 2800)) + 1) x) ((14 * (st 2800)) + 2) y) ((14 * (st 2800)) + 3) n) ((14 * (st 2800)) + 4) 0, bk, un, ck, ty, tm, tx, ln, rf, dg, dn, rk, pl, iw, wd, wm, od, oc)]) C rfl rfl (by omega) dX8_comes_65 rfl rfl ?_
  refine i_aload_n (j := 2) (q := 67) C rfl rfl dX8_comes_66 rfl ?_
  refine i_get (i := 0) (j := 0) (f := 0) (q := 70) C rfl rfl rfl hi_X8_comes_X8 (by decide) lk_X8_comes_7 rfl dX8_comes_67 rfl ?_
  refine i_iload (j := 0) (q := 72) C rfl dX8_comes_70 rfl ?_
  refine i_iconst (q := 73) C dX8_comes_72 rfl ?_
  refine i_iadd (q := 74) C dX8_comes_73 rfl ?_
  refine i_iconst (q := 75) C dX8_comes_74 rfl ?_
  refine i_iast (i := 0) (j := 1) (q := 76) (cs' := [mdW am (up (up (up (up (up (up st (14 * (st 2800)) 1) ((14 * (st 2800)) + 1) x) ((14 * (st 2800)) + 2) y) ((14 * (st 2800)) + 3) n) ((14 * (st 2800)) + 4) 0) ((14 * (st 2800)) + 5) (-1), bk, un, ck, ty, tm, tx, ln, rf, dg, dn, rk, pl, iw, wd, wm, od, oc)]) C rfl rfl (by omega) dX8_comes_75 rfl rfl ?_
  refine i_aload_n (j := 3) (q := 77) C rfl rfl dX8_comes_76 rfl ?_
  refine i_iconst (q := 78) C dX8_comes_77 rfl ?_
  refine i_aload_n (j := 2) (q := 79) C rfl rfl dX8_comes_78 rfl ?_
  refine i_get (i := 0) (j := 0) (f := 0) (q := 82) C rfl rfl rfl hi_X8_comes_X8 (by decide) lk_X8_comes_7 rfl dX8_comes_79 rfl ?_
  refine i_iload (j := 0) (q := 84) C rfl dX8_comes_82 rfl ?_
  refine i_bipush (q := 86) C (by decide) dX8_comes_84 rfl ?_
  refine i_iadd (q := 87) C dX8_comes_86 rfl ?_
  refine i_iload_n (j := 4) (q := 88) C rfl rfl dX8_comes_87 rfl ?_
  refine i_callS (wr := []) (As := [vP (am 6), vI 0, vP (am 1), vI ((14 * (st 2800)) + 6), vI n]) (st := []) (q := 91) C (c_X8_bring_dn_st K l (am) (up (up (up (up (up (up st (14 * (st 2800)) 1) ((14 * (st 2800)) + 1) x) ((14 * (st 2800)) + 2) y) ((14 * (st 2800)) + 3) n) ((14 * (st 2800)) + 4) 0) ((14 * (st 2800)) + 5) (-1)) (bk) (un) (ck) (ty) (tm) (tx) (ln) (rf) (dg) (dn) (rk) (pl) (iw) (wd) (wm) (od) (oc) (0) ((14 * (st 2800)) + 6) (n) (by first | assumption | omega) (by first | assumption | omega) (by first | assumption | omega)) gX8_comes_X8_bring rfl hd_X8_bring ⟨Nat.le_of_ble_eq_true rfl, Nat.le_of_ble_eq_true rfl⟩ ⟨rfl, rfl⟩ ⟨Nat.le_of_ble_eq_true rfl, Nat.le_of_ble_eq_true rfl⟩ (permBy [0] (by decide) rfl rfl) rfl (Nat.le_of_ble_eq_true rfl) dX8_comes_88 rfl (fun v w hq => ?_)
  obtain ⟨rfl, rfl⟩ := hq
  show V X 0 0 91 [(6, vI (14 * (st 2800))), (5, vI (st 2800)), (0, vP (am 0)), (1, vP (am 6)), (2, vI n), (3, vI x), (4, vI y)] [] [mdW am (cpy dn 0 (up (up (up (up (up (up st (14 * (st 2800)) 1) ((14 * (st 2800)) + 1) x) ((14 * (st 2800)) + 2) y) ((14 * (st 2800)) + 3) n) ((14 * (st 2800)) + 4) 0) ((14 * (st 2800)) + 5) (-1)) ((14 * (st 2800)) + 6) n, bk, un, ck, ty, tm, tx, ln, rf, dg, dn, rk, pl, iw, wd, wm, od, oc)]
  refine i_aload_n (j := 2) (q := 92) C rfl rfl dX8_comes_91 rfl ?_
  refine i_get (i := 0) (j := 0) (f := 0) (q := 95) C rfl rfl rfl hi_X8_comes_X8 (by decide) lk_X8_comes_7 rfl dX8_comes_92 rfl ?_
  refine i_sipush (q := 98) C (by decide) dX8_comes_95 rfl ?_
  refine i_dup2 (q := 99) C rfl rfl dX8_comes_98 rfl ?_
  refine i_iald (i := 0) (j := 1) (q := 100) C rfl rfl (by omega) dX8_comes_99 rfl ?_
  skip
  refine V.top (b := st 2800) (by have := hs.gv; rw [cpy_out _ _ _ _ _ _ (by omega), up_n _ _ (by omega), up_n _ _ (by omega), up_n _ _ (by omega), up_n _ _ (by omega), up_n _ _ (by omega), up_n _ _ (by omega)]) ?_
  refine i_iconst (q := 101) C dX8_comes_100 rfl ?_
  refine i_iadd (q := 102) C dX8_comes_101 rfl ?_
  refine i_iast (i := 0) (j := 1) (q := 103) (cs' := [mdW am (up (cpy dn 0 (up (up (up (up (up (up st (14 * (st 2800)) 1) ((14 * (st 2800)) + 1) x) ((14 * (st 2800)) + 2) y) ((14 * (st 2800)) + 3) n) ((14 * (st 2800)) + 4) 0) ((14 * (st 2800)) + 5) (-1)) ((14 * (st 2800)) + 6) n) 2800 ((st 2800) + 1), bk, un, ck, ty, tm, tx, ln, rf, dg, dn, rk, pl, iw, wd, wm, od, oc)]) C rfl rfl (by omega) dX8_comes_102 rfl rfl ?_
  refine i_iload (j := 1) (q := 105) C rfl dX8_comes_103 rfl ?_
  refine i_iret C hR dX8_comes_105 ?_
  exact ⟨rfl, rfl⟩

set_option maxHeartbeats 400000 in
set_option maxRecDepth 100000 in
theorem c_X8_comes_wd (K : KT) (l : Launch) (am : Nat → Nat) (st : Int → Int) (bk : Int → Int) (un : Int) (ck : Int) (ty : Int → Int) (tm : Int) (tx : Int → Int) (ln : Int) (rf : Int → Int) (dg : Int) (dn : Int → Int) (rk : Int → Int) (pl : Int) (iw : Int) (wd : Int → Int) (wm : Int) (od : Int → Int) (oc : Int) (U : Int) (n : Int) (x : Int) (y : Int) (hs : okS U st) (hg : st 2800 < 200) (hn : 1 ≤ n ∧ n ≤ 8) : Mt K l yX8_comes wsX8_comes ({ frames := 1, cells := 0, slots := 0, locals := 25 }) [vP (am 0), vP (am 8), vI n, vI x, vI y] [mdW am (st, bk, un, ck, ty, tm, tx, ln, rf, dg, dn, rk, pl, iw, wd, wm, od, oc)] 0 0 (fun v w => v = some (vI (st 2800)) ∧ w = [mdW am (cmS st wd n x y, bk, un, ck, ty, tm, tx, ln, rf, dg, dn, rk, pl, iw, wd, wm, od, oc)]) := by
  refine Mt.of (own := RX8) (cc := cX8_comes) (maxL := 7) (ret := (some .int)) (lv0 := [(0, vP (am 0)), (1, vP (am 8)), (2, vI n), (3, vI x), (4, vI y)]) (by decide) rfl rfl (Nat.le_of_ble_eq_true rfl) rfl (fun X C hR hN => ?_)
  refine i_aload_n (j := 0) (q := 1) C rfl rfl dX8_comes_0 rfl ?_
  refine i_get (i := 0) (j := 0) (f := 0) (q := 4) C rfl rfl rfl hi_X8_comes_X8 (by decide) lk_X8_comes_7 rfl dX8_comes_1 rfl ?_
  refine i_sipush (q := 7) C (by decide) dX8_comes_4 rfl ?_
  refine i_iald (i := 0) (j := 1) (q := 8) C rfl rfl (by omega) dX8_comes_7 rfl ?_
  have ld_7 := hs.gv
  refine i_istore (q := 10) (lv' := [(5, vI (st 2800)), (0, vP (am 0)), (1, vP (am 8)), (2, vI n), (3, vI x), (4, vI y)]) C (by decide) rfl dX8_comes_8 rfl ?_
  refine i_bipush (q := 12) C (by decide) dX8_comes_10 rfl ?_
  refine i_iload (j := 0) (q := 14) C rfl dX8_comes_12 rfl ?_
  refine i_imul (q := 15) C dX8_comes_14 rfl ?_
  refine i_istore (q := 17) (lv' := [(6, vI (14 * (st 2800))), (5, vI (st 2800)), (0, vP (am 0)), (1, vP (am 8)), (2, vI n), (3, vI x), (4, vI y)]) C (by decide) rfl dX8_comes_15 rfl ?_
  refine i_aload_n (j := 2) (q := 18) C rfl rfl dX8_comes_17 rfl ?_
  refine i_get (i := 0) (j := 0) (f := 0) (q := 21) C rfl rfl rfl hi_X8_comes_X8 (by decide) lk_X8_comes_7 rfl dX8_comes_18 rfl ?_
  refine i_iload (j := 0) (q := 23) C rfl dX8_comes_21 rfl ?_
  refine i_iconst (q := 24) C dX8_comes_23 rfl ?_
  refine i_iast (i := 0) (j := 1) (q := 25) (cs' := [mdW am (up st (14 * (st 2800)) 1, bk, un, ck, ty, tm, tx, ln, rf, dg, dn, rk, pl, iw, wd, wm, od, oc)]) C rfl rfl (by omega) dX8_comes_24 rfl rfl ?_
  refine i_aload_n (j := 2) (q := 26) C rfl rfl dX8_comes_25 rfl ?_
  refine i_get (i := 0) (j := 0) (f := 0) (q := 29) C rfl rfl rfl hi_X8_comes_X8 (by decide) lk_X8_comes_7 rfl dX8_comes_26 rfl ?_
  refine i_iload (j := 0) (q := 31) C rfl dX8_comes_29 rfl ?_
  refine i_iconst (q := 32) C dX8_comes_31 rfl ?_
  refine i_iadd (q := 33) C dX8_comes_32 rfl ?_
  refine i_iload_n (j := 5) (q := 34) C rfl rfl dX8_comes_33 rfl ?_
  refine i_iast (i := 0) (j := 1) (q := 35) (cs' := [mdW am (up (up st (14 * (st 2800)) 1) ((14 * (st 2800)) + 1) x, bk, un, ck, ty, tm, tx, ln, rf, dg, dn, rk, pl, iw, wd, wm, od, oc)]) C rfl rfl (by omega) dX8_comes_34 rfl rfl ?_
  refine i_aload_n (j := 2) (q := 36) C rfl rfl dX8_comes_35 rfl ?_
  refine i_get (i := 0) (j := 0) (f := 0) (q := 39) C rfl rfl rfl hi_X8_comes_X8 (by decide) lk_X8_comes_7 rfl dX8_comes_36 rfl ?_
  refine i_iload (j := 0) (q := 41) C rfl dX8_comes_39 rfl ?_
  refine i_iconst (q := 42) C dX8_comes_41 rfl ?_
  refine i_iadd (q := 43) C dX8_comes_42 rfl ?_
  refine i_iload (j := 6) (q := 45) C rfl dX8_comes_43 rfl ?_
  refine i_iast (i := 0) (j := 1) (q := 46) (cs' := [mdW am (up (up (up st (14 * (st 2800)) 1) ((14 * (st 2800)) + 1) x) ((14 * (st 2800)) + 2) y, bk, un, ck, ty, tm, tx, ln, rf, dg, dn, rk, pl, iw, wd, wm, od, oc)]) C rfl rfl (by omega) dX8_comes_45 rfl rfl ?_
  refine i_aload_n (j := 2) (q := 47) C rfl rfl dX8_comes_46 rfl ?_
  refine i_get (i := 0) (j := 0) (f := 0) (q := 50) C rfl rfl rfl hi_X8_comes_X8 (by decide) lk_X8_comes_7 rfl dX8_comes_47 rfl ?_
  refine i_iload (j := 0) (q := 52) C rfl dX8_comes_50 rfl ?_
  refine i_iconst (q := 53) C dX8_comes_52 rfl ?_
  refine i_iadd (q := 54) C dX8_comes_53 rfl ?_
  refine i_iload_n (j := 4) (q := 55) C rfl rfl dX8_comes_54 rfl ?_
  refine i_iast (i := 0) (j := 1) (q := 56) (cs' := [mdW am (up (up (up (up st (14 * (st 2800)) 1) ((14 * (st 2800)) + 1) x) ((14 * (st 2800)) + 2) y) ((14 * (st 2800)) + 3) n, bk, un, ck, ty, tm, tx, ln, rf, dg, dn, rk, pl, iw, wd, wm, od, oc)]) C rfl rfl (by omega) dX8_comes_55 rfl rfl ?_
  refine i_aload_n (j := 2) (q := 57) C rfl rfl dX8_comes_56 rfl ?_
  refine i_get (i := 0) (j := 0) (f := 0) (q := 60) C rfl rfl rfl hi_X8_comes_X8 (by decide) lk_X8_comes_7 rfl dX8_comes_57 rfl ?_
  refine i_iload (j := 0) (q := 62) C rfl dX8_comes_60 rfl ?_
  refine i_iconst (q := 63) C dX8_comes_62 rfl ?_
  refine i_iadd (q := 64) C dX8_comes_63 rfl ?_
  refine i_iconst (q := 65) C dX8_comes_64 rfl ?_
  refine i_iast (i := 0) (j := 1) (q := 66) (cs' := [mdW am (up (up (up (up (up st (14 * (st 2800)) 1) ((14 * (st 2800)) + 1) x) ((14 * (st 2800)) + 2) y) ((14 * (st 2800)) + 3) n) ((14 * (st 2800)) + 4) 0, bk, un, ck, ty, tm, tx, ln, rf, dg, dn, rk, pl, iw, wd, wm, od, oc)]) C rfl rfl (by omega) dX8_comes_65 rfl rfl ?_
  refine i_aload_n (j := 2) (q := 67) C rfl rfl dX8_comes_66 rfl ?_
  refine i_get (i := 0) (j := 0) (f := 0) (q := 70) C rfl rfl rfl hi_X8_comes_X8 (by decide) lk_X8_comes_7 rfl dX8_comes_67 rfl ?_
  refine i_iload (j := 0) (q := 72) C rfl dX8_comes_70 rfl ?_
  refine i_iconst (q := 73) C dX8_comes_72 rfl ?_
  refine i_iadd (q := 74) C dX8_comes_73 rfl ?_
  refine i_iconst (q := 75) C dX8_comes_74 rfl ?_
  refine i_iast (i := 0) (j := 1) (q := 76) (cs' := [mdW am (up (up (up (up (up (up st (14 * (st 2800)) 1) ((14 * (st 2800)) + 1) x) ((14 * (st 2800)) + 2) y) ((14 * (st 2800)) + 3) n) ((14 * (st 2800)) + 4) 0) ((14 * (st 2800)) + 5) (-1), bk, un, ck, ty, tm, tx, ln, rf, dg, dn, rk, pl, iw, wd, wm, od, oc)]) C rfl rfl (by omega) dX8_comes_75 rfl rfl ?_
  refine i_aload_n (j := 3) (q := 77) C rfl rfl dX8_comes_76 rfl ?_
  refine i_iconst (q := 78) C dX8_comes_77 rfl ?_
  refine i_aload_n (j := 2) (q := 79) C rfl rfl dX8_comes_78 rfl ?_
  refine i_get (i := 0) (j := 0) (f := 0) (q := 82) C rfl rfl rfl hi_X8_comes_X8 (by decide) lk_X8_comes_7 rfl dX8_comes_79 rfl ?_
  refine i_iload (j := 0) (q := 84) C rfl dX8_comes_82 rfl ?_
  refine i_bipush (q := 86) C (by decide) dX8_comes_84 rfl ?_
  refine i_iadd (q := 87) C dX8_comes_86 rfl ?_
  refine i_iload_n (j := 4) (q := 88) C rfl rfl dX8_comes_87 rfl ?_
  refine i_callS (wr := []) (As := [vP (am 8), vI 0, vP (am 1), vI ((14 * (st 2800)) + 6), vI n]) (st := []) (q := 91) C (c_X8_bring_wd_st K l (am) (up (up (up (up (up (up st (14 * (st 2800)) 1) ((14 * (st 2800)) + 1) x) ((14 * (st 2800)) + 2) y) ((14 * (st 2800)) + 3) n) ((14 * (st 2800)) + 4) 0) ((14 * (st 2800)) + 5) (-1)) (bk) (un) (ck) (ty) (tm) (tx) (ln) (rf) (dg) (dn) (rk) (pl) (iw) (wd) (wm) (od) (oc) (0) ((14 * (st 2800)) + 6) (n) (by first | assumption | omega) (by first | assumption | omega) (by first | assumption | omega)) gX8_comes_X8_bring rfl hd_X8_bring ⟨Nat.le_of_ble_eq_true rfl, Nat.le_of_ble_eq_true rfl⟩ ⟨rfl, rfl⟩ ⟨Nat.le_of_ble_eq_true rfl, Nat.le_of_ble_eq_true rfl⟩ (permBy [0] (by decide) rfl rfl) rfl (Nat.le_of_ble_eq_true rfl) dX8_comes_88 rfl (fun v w hq => ?_)
  obtain ⟨rfl, rfl⟩ := hq
  show V X 0 0 91 [(6, vI (14 * (st 2800))), (5, vI (st 2800)), (0, vP (am 0)), (1, vP (am 8)), (2, vI n), (3, vI x), (4, vI y)] [] [mdW am (cpy wd 0 (up (up (up (up (up (up st (14 * (st 2800)) 1) ((14 * (st 2800)) + 1) x) ((14 * (st 2800)) + 2) y) ((14 * (st 2800)) + 3) n) ((14 * (st 2800)) + 4) 0) ((14 * (st 2800)) + 5) (-1)) ((14 * (st 2800)) + 6) n, bk, un, ck, ty, tm, tx, ln, rf, dg, dn, rk, pl, iw, wd, wm, od, oc)]
  refine i_aload_n (j := 2) (q := 92) C rfl rfl dX8_comes_91 rfl ?_
  refine i_get (i := 0) (j := 0) (f := 0) (q := 95) C rfl rfl rfl hi_X8_comes_X8 (by decide) lk_X8_comes_7 rfl dX8_comes_92 rfl ?_
  refine i_sipush (q := 98) C (by decide) dX8_comes_95 rfl ?_
  refine i_dup2 (q := 99) C rfl rfl dX8_comes_98 rfl ?_
  refine i_iald (i := 0) (j := 1) (q := 100) C rfl rfl (by omega) dX8_comes_99 rfl ?_
  skip
  refine V.top (b := st 2800) (by have := hs.gv; rw [cpy_out _ _ _ _ _ _ (by omega), up_n _ _ (by omega), up_n _ _ (by omega), up_n _ _ (by omega), up_n _ _ (by omega), up_n _ _ (by omega), up_n _ _ (by omega)]) ?_
  refine i_iconst (q := 101) C dX8_comes_100 rfl ?_
  refine i_iadd (q := 102) C dX8_comes_101 rfl ?_
  refine i_iast (i := 0) (j := 1) (q := 103) (cs' := [mdW am (up (cpy wd 0 (up (up (up (up (up (up st (14 * (st 2800)) 1) ((14 * (st 2800)) + 1) x) ((14 * (st 2800)) + 2) y) ((14 * (st 2800)) + 3) n) ((14 * (st 2800)) + 4) 0) ((14 * (st 2800)) + 5) (-1)) ((14 * (st 2800)) + 6) n) 2800 ((st 2800) + 1), bk, un, ck, ty, tm, tx, ln, rf, dg, dn, rk, pl, iw, wd, wm, od, oc)]) C rfl rfl (by omega) dX8_comes_102 rfl rfl ?_
  refine i_iload (j := 1) (q := 105) C rfl dX8_comes_103 rfl ?_
  refine i_iret C hR dX8_comes_105 ?_
  exact ⟨rfl, rfl⟩

theorem lk_X8_notes_46 : Cond.fieldLink RX8 46 (TX8 2).1 (TX8 2).2.1 (TX8 2).2.2.1 ∈ wsX8_notes := List.mem_of_getElem? (i := 1) rfl
theorem hi_X8_notes_X8 : ∀ w ∈ u_ws RX8 TX8 18, w ∈ wsX8_notes := by decide +kernel
theorem lk_X8_notes_7 : Cond.fieldLink RX8 7 (TX8 0).1 (TX8 0).2.1 (TX8 0).2.2.1 ∈ wsX8_notes := List.mem_of_getElem? (i := 3) rfl
theorem lk_X8_notes_14 : Cond.fieldLink RX8 14 (TX8 1).1 (TX8 1).2.1 (TX8 1).2.2.1 ∈ wsX8_notes := List.mem_of_getElem? (i := 2) rfl
set_option maxHeartbeats 400000 in
set_option maxRecDepth 100000 in
theorem c_X8_notes (K : KT) (l : Launch) (am : Nat → Nat) (st : Int → Int) (bk : Int → Int) (un : Int) (ck : Int) (ty : Int → Int) (tm : Int) (tx : Int → Int) (ln : Int) (rf : Int → Int) (dg : Int) (dn : Int → Int) (rk : Int → Int) (pl : Int) (iw : Int) (wd : Int → Int) (wm : Int) (od : Int → Int) (oc : Int) (U : Int) (hs : okS U st) (hH : okH U bk un) : Mt K l yX8_notes wsX8_notes ({ frames := 1, cells := 0, slots := 0, locals := 25 }) [vP (am 0)] [mdW am (st, bk, un, ck, ty, tm, tx, ln, rf, dg, dn, rk, pl, iw, wd, wm, od, oc)] 0 0 (fun v w => ∃ bk3 : Int → Int, ∃ un3 : Int, v = none ∧ w = [mdW am (st, bk3, un3, ck, ty, tm, tx, ln, rf, dg, dn, rk, pl, iw, wd, wm, od, oc)] ∧ (hs_ bk3 un3 = noteH (hs_ bk un) (bo st)) ∧ (okH U bk3 un3)) := by
  refine Mt.of (own := RX8) (cc := cX8_notes) (maxL := 1) (ret := none) (lv0 := [(0, vP (am 0))]) (by decide) rfl rfl (Nat.le_of_ble_eq_true rfl) rfl (fun X C hR hN => ?_)
  have hun := hH.1
  refine i_aload_n (j := 0) (q := 1) C rfl rfl dX8_notes_0 rfl ?_
  refine i_get (i := 0) (j := 0) (f := 2) (q := 4) C rfl rfl rfl hi_X8_notes_X8 (by decide) lk_X8_notes_46 rfl dX8_notes_1 rfl ?_
  refine i_bipush (q := 6) C (by decide) dX8_notes_4 rfl ?_
  refine i_icmp_ne (tgt := 37) (q := 9) C (by omega) (by omega) dX8_notes_6 (by decide) rfl (fun c_6 => ?_) (fun c_6 => ?_)
  · skip
    have h12 : ¬ (hs_ bk un).length = 12 := by rw [hs_len]; omega
    obtain ⟨g1, g2⟩ := hs_push hs hH (by omega)
    refine i_aload_n (j := 0) (q := 38) C rfl rfl dX8_notes_37 rfl ?_
    refine i_get (i := 0) (j := 0) (f := 0) (q := 41) C rfl rfl rfl hi_X8_notes_X8 (by decide) lk_X8_notes_7 rfl dX8_notes_38 rfl ?_
    refine i_iconst (q := 42) C dX8_notes_41 rfl ?_
    refine i_aload_n (j := 0) (q := 43) C rfl rfl dX8_notes_42 rfl ?_
    refine i_get (i := 0) (j := 0) (f := 1) (q := 46) C rfl rfl rfl hi_X8_notes_X8 (by decide) lk_X8_notes_14 rfl dX8_notes_43 rfl ?_
    refine i_sipush (q := 49) C (by decide) dX8_notes_46 rfl ?_
    refine i_aload_n (j := 0) (q := 50) C rfl rfl dX8_notes_49 rfl ?_
    refine i_get (i := 0) (j := 0) (f := 2) (q := 53) C rfl rfl rfl hi_X8_notes_X8 (by decide) lk_X8_notes_46 rfl dX8_notes_50 rfl ?_
    refine i_imul (q := 54) C dX8_notes_53 rfl ?_
    refine i_sipush (q := 57) C (by decide) dX8_notes_54 rfl ?_
    refine i_callS (wr := []) (As := [vP (am 1), vI 0, vP (am 2), vI (2803 * un), vI 2803]) (st := []) (q := 60) C (c_X8_bring_st_bk K l (am) (st) (bk) (un) (ck) (ty) (tm) (tx) (ln) (rf) (dg) (dn) (rk) (pl) (iw) (wd) (wm) (od) (oc) (0) (2803 * un) (2803) (by first | assumption | omega) (by first | assumption | omega) (by first | assumption | omega)) gX8_notes_X8_bring rfl hd_X8_bring ⟨Nat.le_of_ble_eq_true rfl, Nat.le_of_ble_eq_true rfl⟩ ⟨rfl, rfl⟩ ⟨Nat.le_of_ble_eq_true rfl, Nat.le_of_ble_eq_true rfl⟩ (permBy [0] (by decide) rfl rfl) rfl (Nat.le_of_ble_eq_true rfl) dX8_notes_57 rfl (fun v w hq => ?_)
    obtain ⟨rfl, rfl⟩ := hq
    show V X 0 0 60 [(0, vP (am 0))] [] [mdW am (st, cpy st 0 bk (2803 * un) 2803, un, ck, ty, tm, tx, ln, rf, dg, dn, rk, pl, iw, wd, wm, od, oc)]
    refine i_aload_n (j := 0) (q := 61) C rfl rfl dX8_notes_60 rfl ?_
    refine i_dup (q := 62) C rfl dX8_notes_61 rfl ?_
    refine i_get (i := 0) (j := 0) (f := 2) (q := 65) C rfl rfl rfl hi_X8_notes_X8 (by decide) lk_X8_notes_46 rfl dX8_notes_62 rfl ?_
    refine i_iconst (q := 66) C dX8_notes_65 rfl ?_
    refine i_iadd (q := 67) C dX8_notes_66 rfl ?_
    refine i_putI (i := 0) (j := 0) (f := 2) (q := 70) (cs' := [mdW am (st, cpy st 0 bk (2803 * un) 2803, un + 1, ck, ty, tm, tx, ln, rf, dg, dn, rk, pl, iw, wd, wm, od, oc)]) C rfl rfl rfl hi_X8_notes_X8 tyX8 tyX8_ok nmX8 (by decide) (Nat.le_of_ble_eq_true rfl) lk_X8_notes_46 rfl rfl dX8_notes_67 rfl rfl ?_
    refine i_vret C hR dX8_notes_70 ?_
    exact ⟨_, _, rfl, rfl, by rw [g1]; simp only [noteH, if_neg h12], g2⟩
  · skip
    have hH12 : okH U bk 12 := c_6 ▸ hH
    obtain ⟨g1, g2⟩ := hs_shift hH12
    obtain ⟨g3, g4⟩ := hs_push hs g2 (by omega)
    refine i_aload_n (j := 0) (q := 10) C rfl rfl dX8_notes_9 rfl ?_
    refine i_get (i := 0) (j := 0) (f := 1) (q := 13) C rfl rfl rfl hi_X8_notes_X8 (by decide) lk_X8_notes_14 rfl dX8_notes_10 rfl ?_
    refine i_sipush (q := 16) C (by decide) dX8_notes_13 rfl ?_
    refine i_aload_n (j := 0) (q := 17) C rfl rfl dX8_notes_16 rfl ?_
    refine i_get (i := 0) (j := 0) (f := 1) (q := 20) C rfl rfl rfl hi_X8_notes_X8 (by decide) lk_X8_notes_14 rfl dX8_notes_17 rfl ?_
    refine i_iconst (q := 21) C dX8_notes_20 rfl ?_
    refine i_sipush (q := 24) C (by decide) dX8_notes_21 rfl ?_
    refine i_callS (wr := []) (As := [vP (am 2), vI 2803, vP (am 2), vI 0, vI 30833]) (st := []) (q := 27) C (c_X8_bring_bk_bk K l (am) (st) (bk) (un) (ck) (ty) (tm) (tx) (ln) (rf) (dg) (dn) (rk) (pl) (iw) (wd) (wm) (od) (oc) (2803) (0) (30833) (by first | assumption | omega) (by first | assumption | omega) (by first | assumption | omega) (by first | assumption | omega)) gX8_notes_X8_bring rfl hd_X8_bring ⟨Nat.le_of_ble_eq_true rfl, Nat.le_of_ble_eq_true rfl⟩ ⟨rfl, rfl⟩ ⟨Nat.le_of_ble_eq_true rfl, Nat.le_of_ble_eq_true rfl⟩ (permBy [0] (by decide) rfl rfl) rfl (Nat.le_of_ble_eq_true rfl) dX8_notes_24 rfl (fun v w hq => ?_)
    obtain ⟨rfl, rfl⟩ := hq
    show V X 0 0 27 [(0, vP (am 0))] [] [mdW am (st, cpy bk 2803 bk 0 30833, un, ck, ty, tm, tx, ln, rf, dg, dn, rk, pl, iw, wd, wm, od, oc)]
    refine i_aload_n (j := 0) (q := 28) C rfl rfl dX8_notes_27 rfl ?_
    refine i_dup (q := 29) C rfl dX8_notes_28 rfl ?_
    refine i_get (i := 0) (j := 0) (f := 2) (q := 32) C rfl rfl rfl hi_X8_notes_X8 (by decide) lk_X8_notes_46 rfl dX8_notes_29 rfl ?_
    refine i_iconst (q := 33) C dX8_notes_32 rfl ?_
    refine i_isub (q := 34) C dX8_notes_33 rfl ?_
    refine i_putI (i := 0) (j := 0) (f := 2) (q := 37) (cs' := [mdW am (st, cpy bk 2803 bk 0 30833, un - 1, ck, ty, tm, tx, ln, rf, dg, dn, rk, pl, iw, wd, wm, od, oc)]) C rfl rfl rfl hi_X8_notes_X8 tyX8 tyX8_ok nmX8 (by decide) (Nat.le_of_ble_eq_true rfl) lk_X8_notes_46 rfl rfl dX8_notes_34 rfl rfl ?_
    refine i_aload_n (j := 0) (q := 38) C rfl rfl dX8_notes_37 rfl ?_
    refine i_get (i := 0) (j := 0) (f := 0) (q := 41) C rfl rfl rfl hi_X8_notes_X8 (by decide) lk_X8_notes_7 rfl dX8_notes_38 rfl ?_
    refine i_iconst (q := 42) C dX8_notes_41 rfl ?_
    refine i_aload_n (j := 0) (q := 43) C rfl rfl dX8_notes_42 rfl ?_
    refine i_get (i := 0) (j := 0) (f := 1) (q := 46) C rfl rfl rfl hi_X8_notes_X8 (by decide) lk_X8_notes_14 rfl dX8_notes_43 rfl ?_
    refine i_sipush (q := 49) C (by decide) dX8_notes_46 rfl ?_
    refine i_aload_n (j := 0) (q := 50) C rfl rfl dX8_notes_49 rfl ?_
    refine i_get (i := 0) (j := 0) (f := 2) (q := 53) C rfl rfl rfl hi_X8_notes_X8 (by decide) lk_X8_notes_46 rfl dX8_notes_50 rfl ?_
    refine i_imul (q := 54) C dX8_notes_53 rfl ?_
    refine i_sipush (q := 57) C (by decide) dX8_notes_54 rfl ?_
    refine i_callS (wr := []) (As := [vP (am 1), vI 0, vP (am 2), vI (2803 * (un - 1)), vI 2803]) (st := []) (q := 60) C (c_X8_bring_st_bk K l (am) (st) (cpy bk 2803 bk 0 30833) (un - 1) (ck) (ty) (tm) (tx) (ln) (rf) (dg) (dn) (rk) (pl) (iw) (wd) (wm) (od) (oc) (0) (2803 * (un - 1)) (2803) (by first | assumption | omega) (by first | assumption | omega) (by first | assumption | omega)) gX8_notes_X8_bring rfl hd_X8_bring ⟨Nat.le_of_ble_eq_true rfl, Nat.le_of_ble_eq_true rfl⟩ ⟨rfl, rfl⟩ ⟨Nat.le_of_ble_eq_true rfl, Nat.le_of_ble_eq_true rfl⟩ (permBy [0] (by decide) rfl rfl) rfl (Nat.le_of_ble_eq_true rfl) dX8_notes_57 rfl (fun v w hq => ?_)
    obtain ⟨rfl, rfl⟩ := hq
    show V X 0 0 60 [(0, vP (am 0))] [] [mdW am (st, cpy st 0 (cpy bk 2803 bk 0 30833) (2803 * (un - 1)) 2803, un - 1, ck, ty, tm, tx, ln, rf, dg, dn, rk, pl, iw, wd, wm, od, oc)]
    refine i_aload_n (j := 0) (q := 61) C rfl rfl dX8_notes_60 rfl ?_
    refine i_dup (q := 62) C rfl dX8_notes_61 rfl ?_
    refine i_get (i := 0) (j := 0) (f := 2) (q := 65) C rfl rfl rfl hi_X8_notes_X8 (by decide) lk_X8_notes_46 rfl dX8_notes_62 rfl ?_
    refine i_iconst (q := 66) C dX8_notes_65 rfl ?_
    refine i_iadd (q := 67) C dX8_notes_66 rfl ?_
    refine i_putI (i := 0) (j := 0) (f := 2) (q := 70) (cs' := [mdW am (st, cpy st 0 (cpy bk 2803 bk 0 30833) (2803 * (un - 1)) 2803, (un - 1) + 1, ck, ty, tm, tx, ln, rf, dg, dn, rk, pl, iw, wd, wm, od, oc)]) C rfl rfl rfl hi_X8_notes_X8 tyX8 tyX8_ok nmX8 (by decide) (Nat.le_of_ble_eq_true rfl) lk_X8_notes_46 rfl rfl dX8_notes_67 rfl rfl ?_
    refine i_vret C hR dX8_notes_70 ?_
    exact ⟨_, _, rfl, rfl, by rw [show un - 1 = 11 by omega, g3, g1, c_6]; simp only [noteH]; rw [if_pos (by rw [hs_len]; rfl)], by rw [show un - 1 = 11 by omega]; exact g4⟩
