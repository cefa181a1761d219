theorem lk_X8_draw_108 : Cond.fieldLink RX8 108 (TX8 9).1 (TX8 9).2.1 (TX8 9).2.2.1 ∈ wsX8_draw := List.mem_of_getElem? (i := 2) rfl
theorem hi_X8_draw_X8 : ∀ w ∈ u_ws RX8 TX8 18, w ∈ wsX8_draw := by decide +kernel
theorem hd_X8_draws : yX8_draws.cls = RX8 ∧ yX8_draws.cls ≠ "java/lang/invoke/MethodHandle" ∧ yX8_draws.cls ≠ "java/lang/invoke/VarHandle" ∧ (parseMethodDescriptor yX8_draws.desc).map (fun d => d.parameters.length) = some 0 := by decide +kernel
theorem lk_X8_draw_26 : Cond.fieldLink RX8 26 (TX8 10).1 (TX8 10).2.1 (TX8 10).2.2.1 ∈ wsX8_draw := List.mem_of_getElem? (i := 5) rfl
set_option maxHeartbeats 400000 in
set_option maxRecDepth 100000 in
theorem c_X8_draw (K : KT) (l : Launch) (am : Nat → Nat) (st : Int → Int) (bk : Int → Int) (un : Int) (ck : Int) (ty : Int → Int) (tm : Int) (tx : Int → Int) (ln : Int) (rf : Int → Int) (dg : Int) (dn : Int → Int) (rk : Int → Int) (pl : Int) (iw : Int) (wd : Int → Int) (wm : Int) (od : Int → Int) (oc : Int) (N : Int) (x : Int) (y : Int) (hm : okM N st bk un ck ty tm tx ln rf) (hN : N < 512) (hx : rI x) (hy : rI y) : Mt K l yX8_draw wsX8_draw ({ frames := 2, cells := 0, slots := 0, locals := 51 }) [vP (am 0), vI x, vI y] [mdW am (st, bk, un, ck, ty, tm, tx, ln, rf, dg, dn, rk, pl, iw, wd, wm, od, oc)] 0 0 (fun v w => ∃ st3 : Int → Int, ∃ bk3 : Int → Int, ∃ un3 : Int, ∃ rf3 : Int → Int, ∃ dg3 : Int, ∃ dn3 : Int → Int, v = some (vI ((sp_draw x y (absM st bk un ck ty tm tx ln rf)).1)) ∧ w = [mdW am (st3, bk3, un3, ck, ty, tm, tx, ln, rf3, dg3, dn3, rk, pl, iw, wd, wm, od, oc)] ∧ (absM st3 bk3 un3 ck ty tm tx ln rf3 = (sp_draw x y (absM st bk un ck ty tm tx ln rf)).2) ∧ (okM (N + 1) st3 bk3 un3 ck ty tm tx ln rf3)) := by
  refine Mt.of (own := RX8) (cc := cX8_draw) (maxL := 7) (ret := (some .int)) (lv0 := [(0, vP (am 0)), (1, vI x), (2, vI y)]) (by decide) rfl rfl (Nat.le_of_ble_eq_true rfl) rfl (fun X C hR hNm => ?_)
  have hs := hm.hs
  have hgv := hs.gv
  have hN0 := hm.hN
  have hH := hm.hH
  have hck := hm.hck
  have htm := hm.htm
  have hln := hm.hln
  have hun := hH.1
  refine i_iload_n (j := 1) (q := 1) C rfl rfl dX8_draw_0 rfl ?_
  refine i_iconst (q := 2) C dX8_draw_1 rfl ?_
  refine i_ldc (z := 999999) (q := 4) C (List.mem_of_getElem? (i := 1) rfl) dX8_draw_2 rfl ?_
  refine i_callS (wr := [mdW am (st, bk, un, ck, ty, tm, tx, ln, rf, dg, dn, rk, pl, iw, wd, wm, od, oc)]) (As := [vI x, vI 0, vI 999999]) (st := []) (q := 7) C (c_X8_in K l (x) (0) (999999) (by first | assumption | omega) (by first | assumption | omega) (by first | assumption | omega)) gX8_draw_X8_in rfl hd_X8_in ⟨Nat.le_of_ble_eq_true rfl, Nat.le_of_ble_eq_true rfl⟩ ⟨rfl, rfl⟩ ⟨Nat.le_of_ble_eq_true rfl, Nat.le_of_ble_eq_true rfl⟩ (permBy [0] (by decide) rfl rfl) rfl (Nat.le_of_ble_eq_true rfl) dX8_draw_4 rfl (fun v w hq => ?_)
  obtain ⟨rfl, rfl⟩ := hq
  show V X 0 0 7 [(0, vP (am 0)), (1, vI x), (2, vI y)] [vI (if 0 ≤ x ∧ x ≤ 999999 then 1 else 0)] [mdW am (st, bk, un, ck, ty, tm, tx, ln, rf, dg, dn, rk, pl, iw, wd, wm, od, oc)]
  refine i_if_eq (tgt := 20) (q := 10) C (if01) dX8_draw_7 (by decide) rfl (fun c_7 => ?_) (fun c_7 => ?_)
  · skip
    have h_7 := if0 c_7
    refine i_aload_n (j := 0) (q := 21) C rfl rfl dX8_draw_20 rfl ?_
    refine i_callV (wr := []) (As := []) (st := []) (i := 0) (j := 0) (q := 24) C (c_X8_bad K l (am) (st) (bk) (un) (ck) (ty) (tm) (tx) (ln) (rf) (dg) (dn) (rk) (pl) (iw) (wd) (wm) (od) (oc) ) gX8_draw_X8_bad rfl hd_X8_bad ⟨Nat.le_of_ble_eq_true rfl, Nat.le_of_ble_eq_true rfl⟩ ⟨rfl, rfl⟩ ⟨Nat.le_of_ble_eq_true rfl, Nat.le_of_ble_eq_true rfl⟩ (permBy [0] (by decide) rfl rfl) rfl rfl rfl rfl (Nat.le_of_ble_eq_true rfl) dX8_draw_21 rfl (fun v w hq => ?_)
    obtain ⟨rfl, rfl⟩ := hq
    show V X 0 0 24 [(0, vP (am 0)), (1, vI x), (2, vI y)] [vI (-2)] [mdW am (st, bk, un, ck, ty, tm, tx, ln, up rf 0 (rf 0 + 1), dg, dn, rk, pl, iw, wd, wm, od, oc)]
    refine i_iret C hR dX8_draw_24 ?_
    have hsp : (sp_draw x y (absM st bk un ck ty tm tx ln rf)) = (-2, aBad (absM st bk un ck ty tm tx ln rf)) := by
      unfold absM
      simp only [sp_draw]
      rw [if_neg (by omega)]
    exact ⟨st, bk, un, up rf 0 (rf 0 + 1), dg, dn, by rw [hsp], rfl, by rw [hsp] <;> exact absM_bad, okM_bad hm hN⟩
  · skip
    have h_7 := ifn0 c_7
    refine i_iload_n (j := 2) (q := 11) C rfl rfl dX8_draw_10 rfl ?_
    refine i_iconst (q := 12) C dX8_draw_11 rfl ?_
    refine i_bipush (q := 14) C (by decide) dX8_draw_12 rfl ?_
    refine i_callS (wr := [mdW am (st, bk, un, ck, ty, tm, tx, ln, rf, dg, dn, rk, pl, iw, wd, wm, od, oc)]) (As := [vI y, vI 1, vI 9]) (st := []) (q := 17) C (c_X8_in K l (y) (1) (9) (by first | assumption | omega) (by first | assumption | omega) (by first | assumption | omega)) gX8_draw_X8_in rfl hd_X8_in ⟨Nat.le_of_ble_eq_true rfl, Nat.le_of_ble_eq_true rfl⟩ ⟨rfl, rfl⟩ ⟨Nat.le_of_ble_eq_true rfl, Nat.le_of_ble_eq_true rfl⟩ (permBy [0] (by decide) rfl rfl) rfl (Nat.le_of_ble_eq_true rfl) dX8_draw_14 rfl (fun v w hq => ?_)
    obtain ⟨rfl, rfl⟩ := hq
    show V X 0 0 17 [(0, vP (am 0)), (1, vI x), (2, vI y)] [vI (if 1 ≤ y ∧ y ≤ 9 then 1 else 0)] [mdW am (st, bk, un, ck, ty, tm, tx, ln, rf, dg, dn, rk, pl, iw, wd, wm, od, oc)]
    refine i_if_ne (tgt := 25) (q := 20) C (if01) dX8_draw_17 (by decide) rfl (fun c_17 => ?_) (fun c_17 => ?_)
    · skip
      have h_17 := ifn0 c_17
      refine i_aload_n (j := 0) (q := 26) C rfl rfl dX8_draw_25 rfl ?_
      refine i_callV (wr := []) (As := []) (st := []) (i := 0) (j := 0) (q := 29) C (c_X8_notes K l (am) (st) (bk) (un) (ck) (ty) (tm) (tx) (ln) (rf) (dg) (dn) (rk) (pl) (iw) (wd) (wm) (od) (oc) (24 * N) (by first | assumption | omega) (by first | assumption | omega)) gX8_draw_X8_notes rfl hd_X8_notes ⟨Nat.le_of_ble_eq_true rfl, Nat.le_of_ble_eq_true rfl⟩ ⟨rfl, rfl⟩ ⟨Nat.le_of_ble_eq_true rfl, Nat.le_of_ble_eq_true rfl⟩ (permBy [0] (by decide) rfl rfl) rfl rfl rfl rfl (Nat.le_of_ble_eq_true rfl) dX8_draw_26 rfl (fun v w hq => ?_)
      obtain ⟨bk3_26, un3_26, rfl, rfl, he_26, hk_26⟩ := hq
      show V X 0 0 29 [(0, vP (am 0)), (1, vI x), (2, vI y)] [] [mdW am (st, bk3_26, un3_26, ck, ty, tm, tx, ln, rf, dg, dn, rk, pl, iw, wd, wm, od, oc)]
      refine i_aload_n (j := 0) (q := 30) C rfl rfl dX8_draw_29 rfl ?_
      refine i_iload_n (j := 1) (q := 31) C rfl rfl dX8_draw_30 rfl ?_
      refine i_i2l (q := 32) C (by omega) dX8_draw_31 rfl ?_
      refine i_putJ (i := 0) (j := 0) (f := 9) (q := 35) (cs' := [mdW am (st, bk3_26, un3_26, ck, ty, tm, tx, ln, rf, x, dn, rk, pl, iw, wd, wm, od, oc)]) C rfl rfl rfl hi_X8_draw_X8 tyX8 tyX8_ok nmX8 (by decide) (Nat.le_of_ble_eq_true rfl) lk_X8_draw_108 rfl rfl dX8_draw_32 rfl rfl ?_
      refine i_iconst (q := 36) C dX8_draw_35 rfl ?_
      refine i_istore_n (q := 37) (lv' := [(3, vI 0), (0, vP (am 0)), (1, vI x), (2, vI y)]) C rfl (by decide) rfl dX8_draw_36 rfl ?_
      refine i_iconst (q := 38) C dX8_draw_37 rfl ?_
      refine i_istore (q := 40) (lv' := [(4, vI 0), (3, vI 0), (0, vP (am 0)), (1, vI x), (2, vI y)]) C (by decide) rfl dX8_draw_38 rfl ?_
      have loop_40 : ∀ (fuel : Nat) (i : Int) (cm : Int) (st4 : Int → Int) (dg4 : Int) (dn4 : Int → Int), ((y - i).toNat) < fuel → (0 ≤ i ∧ i ≤ y) → ((bo st4, dg4, cm) = drN i.toNat (bo st, x, 0)) → (okS (24 * N) st4) → (0 ≤ dg4 ∧ dg4 < 2147483648) → V X 0 0 40 [(0, vP (am 0)), (1, vI x), (2, vI y), (3, vI cm), (4, vI i)] [] [mdW am (st4, bk3_26, un3_26, ck, ty, tm, tx, ln, rf, dg4, dn4, rk, pl, iw, wd, wm, od, oc)] := by
        intro fuel
        induction fuel with
        | zero => intro i cm st4 dg4 dn4 hz; exact absurd hz (Nat.not_lt_zero _)
        | succ fuel ih_40 =>
          intro i cm st4 dg4 dn4 hfu_40 hi hq ho hd
          have hgv4 := ho.gv
          refine i_iload (j := 4) (q := 42) C rfl dX8_draw_40 rfl ?_
          refine i_iload_n (j := 2) (q := 43) C rfl rfl dX8_draw_42 rfl ?_
          refine i_icmp_ge (tgt := 178) (q := 46) C (by omega) (by omega) dX8_draw_43 (by decide) rfl (fun c_43 => ?_) (fun c_43 => ?_)
          · skip
            refine i_iload_n (j := 3) (q := 179) C rfl rfl dX8_draw_178 rfl ?_
            refine i_iret C hR dX8_draw_179 ?_
            have hsp : (sp_draw x y (absM st bk un ck ty tm tx ln rf)) = (cm, absM st4 bk3_26 un3_26 ck ty tm tx ln rf) := by
              unfold absM
              simp only [sp_draw]
              have e9 : i = y := by omega
              subst e9
              rw [if_pos (by omega), ← hq, ← he_26]
            exact ⟨st4, bk3_26, un3_26, rf, dg4, dn4, by rw [hsp], rfl, by rw [hsp] <;> exact rfl, hm.upd hN (ho.up (by omega) (by omega)) (hk_26.up (by omega) (by omega)) hck⟩
          · skip
            refine i_aload_n (j := 0) (q := 47) C rfl rfl dX8_draw_46 rfl ?_
            refine i_callV (wr := []) (As := []) (st := []) (i := 0) (j := 0) (q := 50) C (c_X8_draws K l (am) (st4) (bk3_26) (un3_26) (ck) (ty) (tm) (tx) (ln) (rf) (dg4) (dn4) (rk) (pl) (iw) (wd) (wm) (od) (oc) (by first | assumption | omega)) gX8_draw_X8_draws rfl hd_X8_draws ⟨Nat.le_of_ble_eq_true rfl, Nat.le_of_ble_eq_true rfl⟩ ⟨rfl, rfl⟩ ⟨Nat.le_of_ble_eq_true rfl, Nat.le_of_ble_eq_true rfl⟩ (permBy [0] (by decide) rfl rfl) rfl rfl rfl rfl (Nat.le_of_ble_eq_true rfl) dX8_draw_47 rfl (fun v w hq => ?_)
            obtain ⟨rfl, rfl⟩ := hq
            show V X 0 0 50 [(0, vP (am 0)), (1, vI x), (2, vI y), (3, vI cm), (4, vI i)] [] [mdW am (st4, bk3_26, un3_26, ck, ty, tm, tx, ln, rf, nxt dg4, dn4, rk, pl, iw, wd, wm, od, oc)]
            have hx1 := nxt_in (x := dg4) (by omega)
            refine i_aload_n (j := 0) (q := 51) C rfl rfl dX8_draw_50 rfl ?_
            refine i_get (i := 0) (j := 0) (f := 9) (q := 54) C rfl rfl rfl hi_X8_draw_X8 (by decide) lk_X8_draw_108 rfl dX8_draw_51 rfl ?_
            refine i_ldc2 (z := 65536) (q := 57) C (List.mem_of_getElem? (i := 3) rfl) dX8_draw_54 rfl ?_
            refine i_ldiv (q := 58) C (by omega) dX8_draw_57 rfl ?_
            refine i_ldc2 (z := 5) (q := 61) C (List.mem_of_getElem? (i := 4) rfl) dX8_draw_58 rfl ?_
            refine i_lrem (q := 62) C (by omega) dX8_draw_61 rfl ?_
            refine i_l2i (q := 63) C dX8_draw_62 rfl ?_
            refine i_iconst (q := 64) C dX8_draw_63 rfl ?_
            refine i_iadd (q := 65) C dX8_draw_64 rfl ?_
            refine i_istore (q := 67) (lv' := [(5, vI ((((nxt dg4) / 65536) % 5) + 1)), (0, vP (am 0)), (1, vI x), (2, vI y), (3, vI cm), (4, vI i)]) C (by decide) rfl dX8_draw_65 rfl ?_
            refine i_iconst (q := 68) C dX8_draw_67 rfl ?_
            refine i_istore (q := 70) (lv' := [(6, vI 0), (5, vI ((((nxt dg4) / 65536) % 5) + 1)), (0, vP (am 0)), (1, vI x), (2, vI y), (3, vI cm), (4, vI i)]) C (by decide) rfl dX8_draw_68 rfl ?_
            have loop_70 : ∀ (fuel : Nat) (k : Int) (dg5 : Int) (dn5 : Int → Int), ((((nxt dg4 / 65536) % 5) + 1 - k).toNat) < fuel → (0 ≤ k ∧ k ≤ ((nxt dg4 / 65536) % 5) + 1) → (rg dn5 k = (drL k.toNat (nxt dg4)).1) → (dg5 = (drL k.toNat (nxt dg4)).2) → (∀ j, 0 ≤ j → j < k → 0 ≤ dn5 j ∧ dn5 j ≤ 7) → (0 ≤ dg5 ∧ dg5 < 2147483648) → V X 0 0 70 [(0, vP (am 0)), (1, vI x), (2, vI y), (3, vI cm), (4, vI i), (5, vI ((((nxt dg4) / 65536) % 5) + 1)), (6, vI k)] [] [mdW am (st4, bk3_26, un3_26, ck, ty, tm, tx, ln, rf, dg5, dn5, rk, pl, iw, wd, wm, od, oc)] := by
              intro fuel
              induction fuel with
              | zero => intro k dg5 dn5 hz; exact absurd hz (Nat.not_lt_zero _)
              | succ fuel ih_70 =>
                intro k dg5 dn5 hfu_70 hk hl1 hl2 hl3 hd5
                refine i_iload (j := 6) (q := 72) C rfl dX8_draw_70 rfl ?_
                refine i_iload (j := 5) (q := 74) C rfl dX8_draw_72 rfl ?_
                refine i_icmp_ge (tgt := 107) (q := 77) C (by omega) (by omega) dX8_draw_74 (by decide) rfl (fun c_74 => ?_) (fun c_74 => ?_)
                · skip
                  refine i_aload_n (j := 0) (q := 108) C rfl rfl dX8_draw_107 rfl ?_
                  refine i_callV (wr := []) (As := []) (st := []) (i := 0) (j := 0) (q := 111) C (c_X8_draws K l (am) (st4) (bk3_26) (un3_26) (ck) (ty) (tm) (tx) (ln) (rf) (dg5) (dn5) (rk) (pl) (iw) (wd) (wm) (od) (oc) (by first | assumption | omega)) gX8_draw_X8_draws rfl hd_X8_draws ⟨Nat.le_of_ble_eq_true rfl, Nat.le_of_ble_eq_true rfl⟩ ⟨rfl, rfl⟩ ⟨Nat.le_of_ble_eq_true rfl, Nat.le_of_ble_eq_true rfl⟩ (permBy [0] (by decide) rfl rfl) rfl rfl rfl rfl (Nat.le_of_ble_eq_true rfl) dX8_draw_108 rfl (fun v w hq => ?_)
                  obtain ⟨rfl, rfl⟩ := hq
                  show V X 0 0 111 [(0, vP (am 0)), (1, vI x), (2, vI y), (3, vI cm), (4, vI i), (5, vI ((((nxt dg4) / 65536) % 5) + 1)), (6, vI k)] [] [mdW am (st4, bk3_26, un3_26, ck, ty, tm, tx, ln, rf, nxt dg5, dn5, rk, pl, iw, wd, wm, od, oc)]
                  have hx3 := nxt_in (x := dg5) (by omega)
                  refine i_aload_n (j := 0) (q := 112) C rfl rfl dX8_draw_111 rfl ?_
                  refine i_aload_n (j := 0) (q := 113) C rfl rfl dX8_draw_112 rfl ?_
                  refine i_get (i := 0) (j := 0) (f := 10) (q := 116) C rfl rfl rfl hi_X8_draw_X8 (by decide) lk_X8_draw_26 rfl dX8_draw_113 rfl ?_
                  refine i_iload (j := 5) (q := 118) C rfl dX8_draw_116 rfl ?_
                  refine i_callV (wr := []) (As := [vP (am 6), vI ((((nxt dg4) / 65536) % 5) + 1)]) (st := []) (i := 0) (j := 0) (q := 121) C (c_X8_foundBy_dn K l (am) (st4) (bk3_26) (un3_26) (ck) (ty) (tm) (tx) (ln) (rf) (nxt dg5) (dn5) (rk) (pl) (iw) (wd) (wm) (od) (oc) (24 * N) ((((nxt dg4) / 65536) % 5) + 1) (ho) (by first | assumption | omega) (fun j g0 g1 => by have := hl3 j g0 (by omega); omega)) gX8_draw_X8_foundBy rfl hd_X8_foundBy ⟨Nat.le_of_ble_eq_true rfl, Nat.le_of_ble_eq_true rfl⟩ ⟨rfl, rfl⟩ ⟨Nat.le_of_ble_eq_true rfl, Nat.le_of_ble_eq_true rfl⟩ (permBy [0] (by decide) rfl rfl) rfl rfl rfl rfl (Nat.le_of_ble_eq_true rfl) dX8_draw_118 rfl (fun v w hq => ?_)
                  obtain ⟨r_118, rfl, rfl, hr_118⟩ := hq
                  show V X 0 0 121 [(0, vP (am 0)), (1, vI x), (2, vI y), (3, vI cm), (4, vI i), (5, vI ((((nxt dg4) / 65536) % 5) + 1)), (6, vI k)] [vI r_118] [mdW am (st4, bk3_26, un3_26, ck, ty, tm, tx, ln, rf, nxt dg5, dn5, rk, pl, iw, wd, wm, od, oc)]
                  refine i_iconst (q := 122) C dX8_draw_121 rfl ?_
                  refine i_icmp_ne (tgt := 172) (q := 125) C (by rcases hr_118 with h | h <;> omega) (by omega) dX8_draw_122 (by decide) rfl (fun c_122 => ?_) (fun c_122 => ?_)
                  · skip
                    have hw : drL (((nxt dg4 / 65536) % 5) + 1).toNat (nxt dg4) = (rg dn5 (((nxt dg4 / 65536) % 5) + 1), dg5) := by
                      rw [← show k = ((nxt dg4 / 65536) % 5) + 1 by omega, hl1, hl2]
                    have hnx : (bo st4, nxt dg5, cm) = drN (i + 1).toNat (bo st, x, 0) := by
                      rw [drN_s _ hi.1, ← hq, dr1_no hw (by 
                        intro z
                        have hh : hasB (bo st4) (rg dn5 (((nxt dg4 / 65536) % 5) + 1)) = true := by
                          rcases hr_118 with h | h
                          · exact absurd h.1 c_122
                          · exact (has_bo _).mpr ⟨mp st4 r_118, mem_ml h.1 (by omega) h.2.2.1, h.2.2.2⟩
                        rw [hh] at z
                        exact absurd z.1 (by simp))]
                    have hok := ho
                    refine i_iinc (j := 4) (q := 175) (lv' := [(4, vI (i + 1)), (0, vP (am 0)), (1, vI x), (2, vI y), (3, vI cm), (5, vI ((((nxt dg4) / 65536) % 5) + 1)), (6, vI k)]) C rfl (by decide) rfl dX8_draw_172 rfl ?_
                    refine i_goto (q := 40) C dX8_draw_175 (by decide) ?_
                    refine V.lv [1, 2, 3, 4, 0] rfl ?_
                    exact ih_40 (i + 1) (cm) (st4) (nxt dg5) (dn5) (by omega) (by omega) (hnx) (hok) (by omega)
                  · skip
                    refine i_aload_n (j := 0) (q := 126) C rfl rfl dX8_draw_125 rfl ?_
                    refine i_callV (wr := []) (As := []) (st := []) (i := 0) (j := 0) (q := 129) C (c_X8_mayCome K l (am) (st4) (bk3_26) (un3_26) (ck) (ty) (tm) (tx) (ln) (rf) (nxt dg5) (dn5) (rk) (pl) (iw) (wd) (wm) (od) (oc) (24 * N) (ho)) gX8_draw_X8_mayCome rfl hd_X8_mayCome ⟨Nat.le_of_ble_eq_true rfl, Nat.le_of_ble_eq_true rfl⟩ ⟨rfl, rfl⟩ ⟨Nat.le_of_ble_eq_true rfl, Nat.le_of_ble_eq_true rfl⟩ (permBy [0] (by decide) rfl rfl) rfl rfl rfl rfl (Nat.le_of_ble_eq_true rfl) dX8_draw_126 rfl (fun v w hq => ?_)
                    obtain ⟨rfl, rfl⟩ := hq
                    show V X 0 0 129 [(0, vP (am 0)), (1, vI x), (2, vI y), (3, vI cm), (4, vI i), (5, vI ((((nxt dg4) / 65536) % 5) + 1)), (6, vI k)] [vI (if roomB (bo st4) = true then 1 else 0)] [mdW am (st4, bk3_26, un3_26, ck, ty, tm, tx, ln, rf, nxt dg5, dn5, rk, pl, iw, wd, wm, od, oc)]
                    refine i_if_eq (tgt := 172) (q := 132) C (if01) dX8_draw_129 (by decide) rfl (fun c_129 => ?_) (fun c_129 => ?_)
                    · skip
                      have h_129 := if0 c_129
                      have hw : drL (((nxt dg4 / 65536) % 5) + 1).toNat (nxt dg4) = (rg dn5 (((nxt dg4 / 65536) % 5) + 1), dg5) := by
                        rw [← show k = ((nxt dg4 / 65536) % 5) + 1 by omega, hl1, hl2]
                      have hnx : (bo st4, nxt dg5, cm) = drN (i + 1).toNat (bo st, x, 0) := by
                        rw [drN_s _ hi.1, ← hq, dr1_no hw (by 
                          intro z
                          exact h_129 z.2)]
                      have hok := ho
                      refine i_iinc (j := 4) (q := 175) (lv' := [(4, vI (i + 1)), (0, vP (am 0)), (1, vI x), (2, vI y), (3, vI cm), (5, vI ((((nxt dg4) / 65536) % 5) + 1)), (6, vI k)]) C rfl (by decide) rfl dX8_draw_172 rfl ?_
                      refine i_goto (q := 40) C dX8_draw_175 (by decide) ?_
                      refine V.lv [1, 2, 3, 4, 0] rfl ?_
                      exact ih_40 (i + 1) (cm) (st4) (nxt dg5) (dn5) (by omega) (by omega) (hnx) (hok) (by omega)
                    · skip
                      have h_129 := ifn0 c_129
                      have hg2 : st4 2800 < 200 := by
                        have h9 := h_129
                        unfold roomB bo at h9
                        simp only [Bool.and_eq_true, decide_eq_true_eq] at h9
                        exact h9.2
                      refine i_aload_n (j := 0) (q := 133) C rfl rfl dX8_draw_132 rfl ?_
                      refine i_aload_n (j := 0) (q := 134) C rfl rfl dX8_draw_133 rfl ?_
                      refine i_get (i := 0) (j := 0) (f := 10) (q := 137) C rfl rfl rfl hi_X8_draw_X8 (by decide) lk_X8_draw_26 rfl dX8_draw_134 rfl ?_
                      refine i_iload (j := 5) (q := 139) C rfl dX8_draw_137 rfl ?_
                      refine i_aload_n (j := 0) (q := 140) C rfl rfl dX8_draw_139 rfl ?_
                      refine i_get (i := 0) (j := 0) (f := 9) (q := 143) C rfl rfl rfl hi_X8_draw_X8 (by decide) lk_X8_draw_108 rfl dX8_draw_140 rfl ?_
                      refine i_ldc2 (z := 65536) (q := 146) C (List.mem_of_getElem? (i := 3) rfl) dX8_draw_143 rfl ?_
                      refine i_ldiv (q := 147) C (by omega) dX8_draw_146 rfl ?_
                      refine i_ldc2 (z := 1001) (q := 150) C (List.mem_of_getElem? (i := 7) rfl) dX8_draw_147 rfl ?_
                      refine i_lrem (q := 151) C (by omega) dX8_draw_150 rfl ?_
                      refine i_l2i (q := 152) C dX8_draw_151 rfl ?_
                      refine i_aload_n (j := 0) (q := 153) C rfl rfl dX8_draw_152 rfl ?_
                      refine i_get (i := 0) (j := 0) (f := 9) (q := 156) C rfl rfl rfl hi_X8_draw_X8 (by decide) lk_X8_draw_108 rfl dX8_draw_153 rfl ?_
                      refine i_ldc2 (z := 1024) (q := 159) C (List.mem_of_getElem? (i := 8) rfl) dX8_draw_156 rfl ?_
                      refine i_ldiv (q := 160) C (by omega) dX8_draw_159 rfl ?_
                      refine i_ldc2 (z := 10) (q := 163) C (List.mem_of_getElem? (i := 9) rfl) dX8_draw_160 rfl ?_
                      refine i_lrem (q := 164) C (by omega) dX8_draw_163 rfl ?_
                      refine i_l2i (q := 165) C dX8_draw_164 rfl ?_
                      refine i_callV (wr := []) (As := [vP (am 6), vI ((((nxt dg4) / 65536) % 5) + 1), vI (((nxt dg5) / 65536) % 1001), vI (((nxt dg5) / 1024) % 10)]) (st := []) (i := 0) (j := 0) (q := 168) C (c_X8_comes_dn K l (am) (st4) (bk3_26) (un3_26) (ck) (ty) (tm) (tx) (ln) (rf) (nxt dg5) (dn5) (rk) (pl) (iw) (wd) (wm) (od) (oc) (24 * N) ((((nxt dg4) / 65536) % 5) + 1) (((nxt dg5) / 65536) % 1001) (((nxt dg5) / 1024) % 10) (ho) (hg2) (by first | assumption | omega)) gX8_draw_X8_comes rfl hd_X8_comes ⟨Nat.le_of_ble_eq_true rfl, Nat.le_of_ble_eq_true rfl⟩ ⟨rfl, rfl⟩ ⟨Nat.le_of_ble_eq_true rfl, Nat.le_of_ble_eq_true rfl⟩ (permBy [0] (by decide) rfl rfl) rfl rfl rfl rfl (Nat.le_of_ble_eq_true rfl) dX8_draw_165 rfl (fun v w hq => ?_)
                      obtain ⟨rfl, rfl⟩ := hq
                      show V X 0 0 168 [(0, vP (am 0)), (1, vI x), (2, vI y), (3, vI cm), (4, vI i), (5, vI ((((nxt dg4) / 65536) % 5) + 1)), (6, vI k)] [vI (st4 2800)] [mdW am (cmS st4 dn5 ((((nxt dg4) / 65536) % 5) + 1) (((nxt dg5) / 65536) % 1001) (((nxt dg5) / 1024) % 10), bk3_26, un3_26, ck, ty, tm, tx, ln, rf, nxt dg5, dn5, rk, pl, iw, wd, wm, od, oc)]
                      have hw : drL (((nxt dg4 / 65536) % 5) + 1).toNat (nxt dg4) = (rg dn5 (((nxt dg4 / 65536) % 5) + 1), dg5) := by
                        rw [← show k = ((nxt dg4 / 65536) % 5) + 1 by omega, hl1, hl2]
                      have hf : hasB (bo st4) (rg dn5 (((nxt dg4 / 65536) % 5) + 1)) = false := by
                        rcases hr_118 with h | h
                        · cases hz : hasB (bo st4) (rg dn5 (((nxt dg4 / 65536) % 5) + 1)) with
                          | false => rfl
                          | true =>
                            obtain ⟨w, h1, h2⟩ := (has_bo _).mp hz
                            exact absurd h2 (h.2 w h1)
                        · omega
                      obtain ⟨hc1, hok⟩ := cmS_ok ho hg2 (row := dn5) (n := ((nxt dg4 / 65536) % 5) + 1) (sc := (nxt dg5 / 65536) % 1001) (me := (nxt dg5 / 1024) % 10) (by omega) (by omega) (by omega) (fun j g0 g1 => hl3 j g0 (by omega))
                      have hnx : (bo (cmS st4 dn5 (((nxt dg4 / 65536) % 5) + 1) ((nxt dg5 / 65536) % 1001) ((nxt dg5 / 1024) % 10)), nxt dg5, cm + 1) = drN (i + 1).toNat (bo st, x, 0) := by
                        rw [drN_s _ hi.1, ← hq, dr1_yes hw hf h_129, hc1]
                      refine i_pop (q := 169) C rfl dX8_draw_168 rfl ?_
                      refine i_iinc (j := 3) (q := 172) (lv' := [(3, vI (cm + 1)), (0, vP (am 0)), (1, vI x), (2, vI y), (4, vI i), (5, vI ((((nxt dg4) / 65536) % 5) + 1)), (6, vI k)]) C rfl (by decide) rfl dX8_draw_169 rfl ?_
                      refine i_iinc (j := 4) (q := 175) (lv' := [(4, vI (i + 1)), (3, vI (cm + 1)), (0, vP (am 0)), (1, vI x), (2, vI y), (5, vI ((((nxt dg4) / 65536) % 5) + 1)), (6, vI k)]) C rfl (by decide) rfl dX8_draw_172 rfl ?_
                      refine i_goto (q := 40) C dX8_draw_175 (by decide) ?_
                      refine V.lv [2, 3, 4, 1, 0] rfl ?_
                      exact ih_40 (i + 1) (cm + 1) (cmS st4 dn5 ((((nxt dg4) / 65536) % 5) + 1) (((nxt dg5) / 65536) % 1001) (((nxt dg5) / 1024) % 10)) (nxt dg5) (dn5) (by omega) (by omega) (hnx) (hok) (by omega)
                · skip
                  refine i_aload_n (j := 0) (q := 78) C rfl rfl dX8_draw_77 rfl ?_
                  refine i_callV (wr := []) (As := []) (st := []) (i := 0) (j := 0) (q := 81) C (c_X8_draws K l (am) (st4) (bk3_26) (un3_26) (ck) (ty) (tm) (tx) (ln) (rf) (dg5) (dn5) (rk) (pl) (iw) (wd) (wm) (od) (oc) (by first | assumption | omega)) gX8_draw_X8_draws rfl hd_X8_draws ⟨Nat.le_of_ble_eq_true rfl, Nat.le_of_ble_eq_true rfl⟩ ⟨rfl, rfl⟩ ⟨Nat.le_of_ble_eq_true rfl, Nat.le_of_ble_eq_true rfl⟩ (permBy [0] (by decide) rfl rfl) rfl rfl rfl rfl (Nat.le_of_ble_eq_true rfl) dX8_draw_78 rfl (fun v w hq => ?_)
                  obtain ⟨rfl, rfl⟩ := hq
                  show V X 0 0 81 [(0, vP (am 0)), (1, vI x), (2, vI y), (3, vI cm), (4, vI i), (5, vI ((((nxt dg4) / 65536) % 5) + 1)), (6, vI k)] [] [mdW am (st4, bk3_26, un3_26, ck, ty, tm, tx, ln, rf, nxt dg5, dn5, rk, pl, iw, wd, wm, od, oc)]
                  have hx2 := nxt_in (x := dg5) (by omega)
                  refine i_aload_n (j := 0) (q := 82) C rfl rfl dX8_draw_81 rfl ?_
                  refine i_get (i := 0) (j := 0) (f := 10) (q := 85) C rfl rfl rfl hi_X8_draw_X8 (by decide) lk_X8_draw_26 rfl dX8_draw_82 rfl ?_
                  refine i_iload (j := 6) (q := 87) C rfl dX8_draw_85 rfl ?_
                  refine i_aload_n (j := 0) (q := 88) C rfl rfl dX8_draw_87 rfl ?_
                  refine i_get (i := 0) (j := 0) (f := 9) (q := 91) C rfl rfl rfl hi_X8_draw_X8 (by decide) lk_X8_draw_108 rfl dX8_draw_88 rfl ?_
                  refine i_ldc2 (z := 65536) (q := 94) C (List.mem_of_getElem? (i := 3) rfl) dX8_draw_91 rfl ?_
                  refine i_ldiv (q := 95) C (by omega) dX8_draw_94 rfl ?_
                  refine i_ldc2 (z := 8) (q := 98) C (List.mem_of_getElem? (i := 6) rfl) dX8_draw_95 rfl ?_
                  refine i_lrem (q := 99) C (by omega) dX8_draw_98 rfl ?_
                  refine i_l2i (q := 100) C dX8_draw_99 rfl ?_
                  refine i_iast (i := 0) (j := 6) (q := 101) (cs' := [mdW am (st4, bk3_26, un3_26, ck, ty, tm, tx, ln, rf, nxt dg5, up dn5 k (((nxt dg5) / 65536) % 8), rk, pl, iw, wd, wm, od, oc)]) C rfl rfl (by omega) dX8_draw_100 rfl rfl ?_
                  refine i_iinc (j := 6) (q := 104) (lv' := [(6, vI (k + 1)), (0, vP (am 0)), (1, vI x), (2, vI y), (3, vI cm), (4, vI i), (5, vI ((((nxt dg4) / 65536) % 5) + 1))]) C rfl (by decide) rfl dX8_draw_101 rfl ?_
                  refine i_goto (q := 70) C dX8_draw_104 (by decide) ?_
                  refine V.lv [1, 2, 3, 4, 5, 6, 0] rfl ?_
                  exact ih_70 (k + 1) (nxt dg5) (up dn5 k (((nxt dg5) / 65536) % 8)) (by omega) (by omega) (by rw [rg_push _ hk.1, drL_s _ hk.1, hl1, ← hl2]) (by rw [drL_s _ hk.1, ← hl2]) (fun j g0 g1 => by
                    by_cases e : j = k
                    · subst e; rw [up_s]; omega
                    · rw [up_n _ _ e]; exact hl3 j g0 (by omega)) (by omega)
            refine V.lv [2, 3, 4, 5, 6, 1, 0] rfl ?_
            exact loop_70 _ (0) (nxt dg4) (dn4) (Nat.lt_succ_self _) (by omega) (by rw [rg_0 _ (by omega)]; rfl) (rfl) (fun j _ _ => by omega) (by omega)
      refine V.lv [2, 3, 4, 1, 0] rfl ?_
      exact loop_40 _ (0) (0) (st) (x) (dn) (Nat.lt_succ_self _) (by omega) (rfl) (hs) (by omega)
    · skip
      have h_17 := if0 c_17
      refine i_aload_n (j := 0) (q := 21) C rfl rfl dX8_draw_20 rfl ?_
      refine i_callV (wr := []) (As := []) (st := []) (i := 0) (j := 0) (q := 24) C (c_X8_bad K l (am) (st) (bk) (un) (ck) (ty) (tm) (tx) (ln) (rf) (dg) (dn) (rk) (pl) (iw) (wd) (wm) (od) (oc) ) gX8_draw_X8_bad rfl hd_X8_bad ⟨Nat.le_of_ble_eq_true rfl, Nat.le_of_ble_eq_true rfl⟩ ⟨rfl, rfl⟩ ⟨Nat.le_of_ble_eq_true rfl, Nat.le_of_ble_eq_true rfl⟩ (permBy [0] (by decide) rfl rfl) rfl rfl rfl rfl (Nat.le_of_ble_eq_true rfl) dX8_draw_21 rfl (fun v w hq => ?_)
      obtain ⟨rfl, rfl⟩ := hq
      show V X 0 0 24 [(0, vP (am 0)), (1, vI x), (2, vI y)] [vI (-2)] [mdW am (st, bk, un, ck, ty, tm, tx, ln, up rf 0 (rf 0 + 1), dg, dn, rk, pl, iw, wd, wm, od, oc)]
      refine i_iret C hR dX8_draw_24 ?_
      have hsp : (sp_draw x y (absM st bk un ck ty tm tx ln rf)) = (-2, aBad (absM st bk un ck ty tm tx ln rf)) := by
        unfold absM
        simp only [sp_draw]
        rw [if_neg (by omega)]
      exact ⟨st, bk, un, up rf 0 (rf 0 + 1), dg, dn, by rw [hsp], rfl, by rw [hsp] <;> exact absM_bad, okM_bad hm hN⟩
