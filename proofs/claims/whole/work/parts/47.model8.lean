theorem lk_X8_digest_7 : Cond.fieldLink RX8 7 (TX8 0).1 (TX8 0).2.1 (TX8 0).2.2.1 ∈ wsX8_digest := List.mem_of_getElem? (i := 3) rfl
theorem hi_X8_digest_X8 : ∀ w ∈ u_ws RX8 TX8 18, w ∈ wsX8_digest := by decide +kernel
theorem lk_X8_digest_53 : Cond.fieldLink RX8 53 (TX8 5).1 (TX8 5).2.1 (TX8 5).2.2.1 ∈ wsX8_digest := List.mem_of_getElem? (i := 4) rfl
theorem lk_X8_digest_17 : Cond.fieldLink RX8 17 (TX8 4).1 (TX8 4).2.1 (TX8 4).2.2.1 ∈ wsX8_digest := List.mem_of_getElem? (i := 5) rfl
theorem hd_X8_told : yX8_told.cls = RX8 ∧ yX8_told.cls ≠ "java/lang/invoke/MethodHandle" ∧ yX8_told.cls ≠ "java/lang/invoke/VarHandle" ∧ (parseMethodDescriptor yX8_told.desc).map (fun d => d.parameters.length) = some 1 := by decide +kernel
set_option maxHeartbeats 400000 in
set_option maxRecDepth 100000 in
theorem c_X8_digest (K : KT) (l : Launch) (am : Nat → Nat) (st : Int → Int) (bk : Int → Int) (un : Int) (ck : Int) (ty : Int → Int) (tm : Int) (tx : Int → Int) (ln : Int) (rf : Int → Int) (dg : Int) (dn : Int → Int) (rk : Int → Int) (pl : Int) (iw : Int) (wd : Int → Int) (wm : Int) (od : Int → Int) (oc : Int) (N : Int) (hm : okM N st bk un ck ty tm tx ln rf) : Mt K l yX8_digest wsX8_digest ({ frames := 2, cells := 0, slots := 0, locals := 43 }) [vP (am 0)] [mdW am (st, bk, un, ck, ty, tm, tx, ln, rf, dg, dn, rk, pl, iw, wd, wm, od, oc)] 0 0 (fun v w => v = some (vJ (dgs (absM st bk un ck ty tm tx ln rf))) ∧ w = [mdW am (st, bk, un, ck, ty, tm, tx, ln, rf, dg, dn, rk, pl, iw, wd, wm, od, oc)]) := by
  refine Mt.of (own := RX8) (cc := cX8_digest) (maxL := 5) (ret := (some .long)) (lv0 := [(0, vP (am 0))]) (by decide) rfl rfl (Nat.le_of_ble_eq_true rfl) rfl (fun X C hR hNm => ?_)
  have hs := hm.hs
  have hgv := hs.gv
  have hN0 := hm.hN
  have hH := hm.hH
  have hck := hm.hck
  have htm := hm.htm
  have hln := hm.hln
  have hun := hH.1
  have hty := hm.hty
  refine i_ldc2 (z := 2003) (q := 3) C (List.mem_of_getElem? (i := 1) rfl) dX8_digest_0 rfl ?_
  refine i_lstore_n (q := 4) (lv' := [(1, vJ 2003), (0, vP (am 0))]) C rfl (by decide) rfl dX8_digest_3 rfl ?_
  refine i_iconst (q := 5) C dX8_digest_4 rfl ?_
  refine i_istore_n (q := 6) (lv' := [(3, vI 0), (1, vJ 2003), (0, vP (am 0))]) C rfl (by decide) rfl dX8_digest_5 rfl ?_
  have loop_6 : ∀ (fuel : Nat) (k : Int) (h : Int), ((11 - k).toNat) < fuel → (0 ≤ k ∧ k ≤ 11) → (h = dgT (absM st bk un ck ty tm tx ln rf) k.toNat) → V X 0 0 6 [(0, vP (am 0)), (1, vJ h), (3, vI k)] [] [mdW am (st, bk, un, ck, ty, tm, tx, ln, rf, dg, dn, rk, pl, iw, wd, wm, od, oc)] := by
    intro fuel
    induction fuel with
    | zero => intro k h hz; exact absurd hz (Nat.not_lt_zero _)
    | succ fuel ih_6 =>
      intro k h hfu_6 hk hv
      refine i_iload_n (j := 2) (q := 7) C rfl rfl dX8_digest_6 rfl ?_
      refine i_bipush (q := 9) C (by decide) dX8_digest_7 rfl ?_
      refine i_icmp_ge (tgt := 31) (q := 12) C (by omega) (by omega) dX8_digest_9 (by decide) rfl (fun c_9 => ?_) (fun c_9 => ?_)
      · skip
        refine i_iconst (q := 32) C dX8_digest_31 rfl ?_
        refine i_istore_n (q := 33) (lv' := [(3, vI 0), (0, vP (am 0)), (1, vJ h)]) C rfl (by decide) rfl dX8_digest_32 rfl ?_
        have loop_33 : ∀ (fuel : Nat) (p : Int) (h2 : Int), ((st 2800 - p).toNat) < fuel → (0 ≤ p ∧ p ≤ st 2800) → (h2 = (ml st p.toNat).foldl dgP (dgT (absM st bk un ck ty tm tx ln rf) 11)) → V X 0 0 33 [(0, vP (am 0)), (1, vJ h2), (3, vI p)] [] [mdW am (st, bk, un, ck, ty, tm, tx, ln, rf, dg, dn, rk, pl, iw, wd, wm, od, oc)] := by
          intro fuel
          induction fuel with
          | zero => intro p h2 hz; exact absurd hz (Nat.not_lt_zero _)
          | succ fuel ih_33 =>
            intro p h2 hfu_33 hp hv2
            refine i_iload_n (j := 2) (q := 34) C rfl rfl dX8_digest_33 rfl ?_
            refine i_aload_n (j := 0) (q := 35) C rfl rfl dX8_digest_34 rfl ?_
            refine i_get (i := 0) (j := 0) (f := 0) (q := 38) C rfl rfl rfl hi_X8_digest_X8 (by decide) lk_X8_digest_7 rfl dX8_digest_35 rfl ?_
            refine i_sipush (q := 41) C (by decide) dX8_digest_38 rfl ?_
            refine i_iald (i := 0) (j := 1) (q := 42) C rfl rfl (by omega) dX8_digest_41 rfl ?_
            have ld_41 := hs.gv
            refine i_icmp_ge (tgt := 122) (q := 45) C (by omega) (by omega) dX8_digest_42 (by decide) rfl (fun c_42 => ?_) (fun c_42 => ?_)
            · skip
              refine i_iconst (q := 123) C dX8_digest_122 rfl ?_
              refine i_istore_n (q := 124) (lv' := [(3, vI 0), (0, vP (am 0)), (1, vJ h2)]) C rfl (by decide) rfl dX8_digest_123 rfl ?_
              have loop_124 : ∀ (fuel : Nat) (k4 : Int) (h4 : Int), ((tm - k4).toNat) < fuel → (0 ≤ k4 ∧ k4 ≤ tm) → (h4 = (rg ty k4).foldl mx ((ml st (st 2800).toNat).foldl dgP (dgT (absM st bk un ck ty tm tx ln rf) 11))) → V X 0 0 124 [(0, vP (am 0)), (1, vJ h4), (3, vI k4)] [] [mdW am (st, bk, un, ck, ty, tm, tx, ln, rf, dg, dn, rk, pl, iw, wd, wm, od, oc)] := by
                intro fuel
                induction fuel with
                | zero => intro k4 h4 hz; exact absurd hz (Nat.not_lt_zero _)
                | succ fuel ih_124 =>
                  intro k4 h4 hfu_124 hk4 hv4
                  refine i_iload_n (j := 2) (q := 125) C rfl rfl dX8_digest_124 rfl ?_
                  refine i_aload_n (j := 0) (q := 126) C rfl rfl dX8_digest_125 rfl ?_
                  refine i_get (i := 0) (j := 0) (f := 5) (q := 129) C rfl rfl rfl hi_X8_digest_X8 (by decide) lk_X8_digest_53 rfl dX8_digest_126 rfl ?_
                  refine i_icmp_ge (tgt := 152) (q := 132) C (by omega) (by omega) dX8_digest_129 (by decide) rfl (fun c_129 => ?_) (fun c_129 => ?_)
                  · skip
                    refine i_lload_n (j := 1) (q := 153) C rfl rfl dX8_digest_152 rfl ?_
                    refine i_lret C hR dX8_digest_153 ?_
                    have e9 : k4 = tm := by omega
                    subst e9; subst hv4
                    exact ⟨rfl, rfl⟩
                  · skip
                    refine i_ldc2 (z := 31) (q := 135) C (List.mem_of_getElem? (i := 2) rfl) dX8_digest_132 rfl ?_
                    refine i_lload_n (j := 1) (q := 136) C rfl rfl dX8_digest_135 rfl ?_
                    refine i_lmul (q := 137) C dX8_digest_136 rfl ?_
                    refine i_aload_n (j := 0) (q := 138) C rfl rfl dX8_digest_137 rfl ?_
                    refine i_get (i := 0) (j := 0) (f := 4) (q := 141) C rfl rfl rfl hi_X8_digest_X8 (by decide) lk_X8_digest_17 rfl dX8_digest_138 rfl ?_
                    refine i_iload_n (j := 2) (q := 142) C rfl rfl dX8_digest_141 rfl ?_
                    refine i_iald (i := 0) (j := 3) (q := 143) C rfl rfl (by omega) dX8_digest_142 rfl ?_
                    have ld_142 := hty k4 (by omega) (by omega)
                    refine i_i2l (q := 144) C (by omega) dX8_digest_143 rfl ?_
                    refine i_ladd (q := 145) C dX8_digest_144 rfl ?_
                    refine i_lstore_n (q := 146) (lv' := [(1, vJ ((31 * h4) + (ty k4))), (0, vP (am 0)), (3, vI k4)]) C rfl (by decide) rfl dX8_digest_145 rfl ?_
                    refine i_iinc (j := 2) (q := 149) (lv' := [(3, vI (k4 + 1)), (1, vJ ((31 * h4) + (ty k4))), (0, vP (am 0))]) C rfl (by decide) rfl dX8_digest_146 rfl ?_
                    refine i_goto (q := 124) C dX8_digest_149 (by decide) ?_
                    refine V.lv [2, 1, 0] rfl ?_
                    exact ih_124 (k4 + 1) ((31 * h4) + (ty k4)) (by omega) (by omega) (by rw [rg_s _ hk4.1, List.foldl_append, ← hv4]; rfl)
              refine V.lv [1, 2, 0] rfl ?_
              exact loop_124 _ (0) (h2) (Nat.lt_succ_self _) (by omega) (by rw [rg_0 _ (by omega), hv2, show p = st 2800 by omega]; rfl)
            · skip
              refine i_aload_n (j := 0) (q := 46) C rfl rfl dX8_digest_45 rfl ?_
              refine i_get (i := 0) (j := 0) (f := 0) (q := 49) C rfl rfl rfl hi_X8_digest_X8 (by decide) lk_X8_digest_7 rfl dX8_digest_46 rfl ?_
              refine i_bipush (q := 51) C (by decide) dX8_digest_49 rfl ?_
              refine i_iload_n (j := 2) (q := 52) C rfl rfl dX8_digest_51 rfl ?_
              refine i_imul (q := 53) C dX8_digest_52 rfl ?_
              refine i_iald (i := 0) (j := 1) (q := 54) C rfl rfl (by omega) dX8_digest_53 rfl ?_
              have ld_53 := hs.k0 p (by omega) (by omega)
              refine i_iconst (q := 55) C dX8_digest_54 rfl ?_
              refine i_icmp_ne (tgt := 116) (q := 58) C (by omega) (by omega) dX8_digest_55 (by decide) rfl (fun c_55 => ?_) (fun c_55 => ?_)
              · skip
                refine i_iinc (j := 2) (q := 119) (lv' := [(3, vI (p + 1)), (0, vP (am 0)), (1, vJ h2)]) C rfl (by decide) rfl dX8_digest_116 rfl ?_
                refine i_goto (q := 33) C dX8_digest_119 (by decide) ?_
                refine V.lv [1, 2, 0] rfl ?_
                exact ih_33 (p + 1) (h2) (by omega) (by omega) (by
                  rw [fold_ml _ _ st hp.1, ← hv2]
                  first
                    | (rw [if_neg c_55])
                    | (rw [if_pos c_55, ← dgP_mp hs hp.1 (by omega), hv3, show k2 = 5 + st (14 * p + 3) by omega]))
              · skip
                refine i_ldc2 (z := 31) (q := 61) C (List.mem_of_getElem? (i := 2) rfl) dX8_digest_58 rfl ?_
                refine i_lload_n (j := 1) (q := 62) C rfl rfl dX8_digest_61 rfl ?_
                refine i_lmul (q := 63) C dX8_digest_62 rfl ?_
                refine i_iload_n (j := 2) (q := 64) C rfl rfl dX8_digest_63 rfl ?_
                refine i_i2l (q := 65) C (by omega) dX8_digest_64 rfl ?_
                refine i_ladd (q := 66) C dX8_digest_65 rfl ?_
                refine i_lstore_n (q := 67) (lv' := [(1, vJ ((31 * h2) + p)), (0, vP (am 0)), (3, vI p)]) C rfl (by decide) rfl dX8_digest_66 rfl ?_
                refine i_iconst (q := 68) C dX8_digest_67 rfl ?_
                refine i_istore (q := 70) (lv' := [(4, vI 0), (1, vJ ((31 * h2) + p)), (0, vP (am 0)), (3, vI p)]) C (by decide) rfl dX8_digest_68 rfl ?_
                have loop_70 : ∀ (fuel : Nat) (k2 : Int) (h3 : Int), ((5 + st (14 * p + 3) - k2).toNat) < fuel → (0 ≤ k2 ∧ k2 ≤ 5 + st (14 * p + 3)) → (h3 = (rg (fun j => st (14 * p + 1 + j)) k2).foldl mx (mx h2 p)) → V X 0 0 70 [(0, vP (am 0)), (1, vJ h3), (3, vI p), (4, vI k2)] [] [mdW am (st, bk, un, ck, ty, tm, tx, ln, rf, dg, dn, rk, pl, iw, wd, wm, od, oc)] := by
                  intro fuel
                  induction fuel with
                  | zero => intro k2 h3 hz; exact absurd hz (Nat.not_lt_zero _)
                  | succ fuel ih_70 =>
                    intro k2 h3 hfu_70 hk2 hv3
                    refine i_iload (j := 3) (q := 72) C rfl dX8_digest_70 rfl ?_
                    refine i_iconst (q := 73) C dX8_digest_72 rfl ?_
                    refine i_aload_n (j := 0) (q := 74) C rfl rfl dX8_digest_73 rfl ?_
                    refine i_get (i := 0) (j := 0) (f := 0) (q := 77) C rfl rfl rfl hi_X8_digest_X8 (by decide) lk_X8_digest_7 rfl dX8_digest_74 rfl ?_
                    refine i_bipush (q := 79) C (by decide) dX8_digest_77 rfl ?_
                    refine i_iload_n (j := 2) (q := 80) C rfl rfl dX8_digest_79 rfl ?_
                    refine i_imul (q := 81) C dX8_digest_80 rfl ?_
                    refine i_iconst (q := 82) C dX8_digest_81 rfl ?_
                    refine i_iadd (q := 83) C dX8_digest_82 rfl ?_
                    refine i_iald (i := 0) (j := 1) (q := 84) C rfl rfl (by omega) dX8_digest_83 rfl ?_
                    have ld_83 := hs.k3 p (by omega) (by omega)
                    refine i_iadd (q := 85) C dX8_digest_84 rfl ?_
                    refine i_icmp_ge (tgt := 116) (q := 88) C (by omega) (by omega) dX8_digest_85 (by decide) rfl (fun c_85 => ?_) (fun c_85 => ?_)
                    · skip
                      refine i_iinc (j := 2) (q := 119) (lv' := [(3, vI (p + 1)), (0, vP (am 0)), (1, vJ h3), (4, vI k2)]) C rfl (by decide) rfl dX8_digest_116 rfl ?_
                      refine i_goto (q := 33) C dX8_digest_119 (by decide) ?_
                      refine V.lv [1, 2, 0] rfl ?_
                      exact ih_33 (p + 1) (h3) (by omega) (by omega) (by
                        rw [fold_ml _ _ st hp.1, ← hv2]
                        first
                          | (rw [if_neg c_55])
                          | (rw [if_pos c_55, ← dgP_mp hs hp.1 (by omega), hv3, show k2 = 5 + st (14 * p + 3) by omega]))
                    · skip
                      refine i_ldc2 (z := 31) (q := 91) C (List.mem_of_getElem? (i := 2) rfl) dX8_digest_88 rfl ?_
                      refine i_lload_n (j := 1) (q := 92) C rfl rfl dX8_digest_91 rfl ?_
                      refine i_lmul (q := 93) C dX8_digest_92 rfl ?_
                      refine i_aload_n (j := 0) (q := 94) C rfl rfl dX8_digest_93 rfl ?_
                      refine i_get (i := 0) (j := 0) (f := 0) (q := 97) C rfl rfl rfl hi_X8_digest_X8 (by decide) lk_X8_digest_7 rfl dX8_digest_94 rfl ?_
                      refine i_bipush (q := 99) C (by decide) dX8_digest_97 rfl ?_
                      refine i_iload_n (j := 2) (q := 100) C rfl rfl dX8_digest_99 rfl ?_
                      refine i_imul (q := 101) C dX8_digest_100 rfl ?_
                      refine i_iconst (q := 102) C dX8_digest_101 rfl ?_
                      refine i_iadd (q := 103) C dX8_digest_102 rfl ?_
                      refine i_iload (j := 3) (q := 105) C rfl dX8_digest_103 rfl ?_
                      refine i_iadd (q := 106) C dX8_digest_105 rfl ?_
                      refine i_iald (i := 0) (j := 1) (q := 107) C rfl rfl (by have := hs.k3 p (by omega) (by omega); omega) dX8_digest_106 rfl ?_
                      have ld_106 := hs.kk p (by omega) (by omega) k2 (by omega) (by omega)
                      refine i_i2l (q := 108) C (by omega) dX8_digest_107 rfl ?_
                      refine i_ladd (q := 109) C dX8_digest_108 rfl ?_
                      refine i_lstore_n (q := 110) (lv' := [(1, vJ ((31 * h3) + (st (((14 * p) + 1) + k2)))), (0, vP (am 0)), (3, vI p), (4, vI k2)]) C rfl (by decide) rfl dX8_digest_109 rfl ?_
                      refine i_iinc (j := 3) (q := 113) (lv' := [(4, vI (k2 + 1)), (1, vJ ((31 * h3) + (st (((14 * p) + 1) + k2)))), (0, vP (am 0)), (3, vI p)]) C rfl (by decide) rfl dX8_digest_110 rfl ?_
                      refine i_goto (q := 70) C dX8_digest_113 (by decide) ?_
                      refine V.lv [2, 1, 3, 0] rfl ?_
                      exact ih_70 (k2 + 1) ((31 * h3) + (st (((14 * p) + 1) + k2))) (by omega) (by omega) (by rw [rg_s _ hk2.1, List.foldl_append, ← hv3]; rfl)
                refine V.lv [2, 1, 3, 0] rfl ?_
                exact loop_70 _ (0) ((31 * h2) + p) (Nat.lt_succ_self _) (by have := hs.k3 p (by omega) (by omega); omega) (by rw [rg_0 _ (by omega)]; rfl)
        refine V.lv [1, 2, 0] rfl ?_
        exact loop_33 _ (0) (h) (Nat.lt_succ_self _) (by omega) (by rw [hv, show k = 11 by omega]; rfl)
      · skip
        refine i_ldc2 (z := 31) (q := 15) C (List.mem_of_getElem? (i := 2) rfl) dX8_digest_12 rfl ?_
        refine i_lload_n (j := 1) (q := 16) C rfl rfl dX8_digest_15 rfl ?_
        refine i_lmul (q := 17) C dX8_digest_16 rfl ?_
        refine i_aload_n (j := 0) (q := 18) C rfl rfl dX8_digest_17 rfl ?_
        refine i_iload_n (j := 2) (q := 19) C rfl rfl dX8_digest_18 rfl ?_
        refine i_callV (wr := []) (As := [vI k]) (st := [vJ (31 * h)]) (i := 0) (j := 0) (q := 22) C (c_X8_tolds K l (am) (st) (bk) (un) (ck) (ty) (tm) (tx) (ln) (rf) (dg) (dn) (rk) (pl) (iw) (wd) (wm) (od) (oc) (24 * N) (k) (by first | assumption | omega) (by first | assumption | omega) (by omega) (by omega) (by omega)) gX8_digest_X8_told rfl hd_X8_told ⟨Nat.le_of_ble_eq_true rfl, Nat.le_of_ble_eq_true rfl⟩ ⟨rfl, rfl⟩ ⟨Nat.le_of_ble_eq_true rfl, Nat.le_of_ble_eq_true rfl⟩ (permBy [0] (by decide) rfl rfl) rfl rfl rfl rfl (Nat.le_of_ble_eq_true rfl) dX8_digest_19 rfl (fun v w hq => ?_)
        obtain ⟨rfl, rfl⟩ := hq
        show V X 0 0 22 [(0, vP (am 0)), (1, vJ h), (3, vI k)] [vI (tld k (absM st bk un ck ty tm tx ln rf)), vJ (31 * h)] [mdW am (st, bk, un, ck, ty, tm, tx, ln, rf, dg, dn, rk, pl, iw, wd, wm, od, oc)]
        refine i_i2l (q := 23) C (tld_in hm k) dX8_digest_22 rfl ?_
        refine i_ladd (q := 24) C dX8_digest_23 rfl ?_
        refine i_lstore_n (q := 25) (lv' := [(1, vJ ((31 * h) + (tld k (absM st bk un ck ty tm tx ln rf)))), (0, vP (am 0)), (3, vI k)]) C rfl (by decide) rfl dX8_digest_24 rfl ?_
        refine i_iinc (j := 2) (q := 28) (lv' := [(3, vI (k + 1)), (1, vJ ((31 * h) + (tld k (absM st bk un ck ty tm tx ln rf)))), (0, vP (am 0))]) C rfl (by decide) rfl dX8_digest_25 rfl ?_
        refine i_goto (q := 6) C dX8_digest_28 (by decide) ?_
        refine V.lv [2, 1, 0] rfl ?_
        exact ih_6 (k + 1) ((31 * h) + (tld k (absM st bk un ck ty tm tx ln rf))) (by omega) (by omega) (by rw [dgT_s _ hk.1, ← hv]; rfl)
  refine V.lv [2, 1, 0] rfl ?_
  exact loop_6 _ (0) (2003) (Nat.lt_succ_self _) (by omega) (rfl)

theorem lk_X8_isAhead_29 : Cond.fieldLink RX8 29 (TX8 11).1 (TX8 11).2.1 (TX8 11).2.2.1 ∈ wsX8_isAhead := List.mem_of_getElem? (i := 1) rfl
theorem hi_X8_isAhead_X8 : ∀ w ∈ u_ws RX8 TX8 18, w ∈ wsX8_isAhead := by decide +kernel
set_option maxHeartbeats 400000 in
set_option maxRecDepth 100000 in
theorem c_X8_isAhead (K : KT) (l : Launch) (am : Nat → Nat) (st : Int → Int) (bk : Int → Int) (un : Int) (ck : Int) (ty : Int → Int) (tm : Int) (tx : Int → Int) (ln : Int) (rf : Int → Int) (dg : Int) (dn : Int → Int) (rk : Int → Int) (pl : Int) (iw : Int) (wd : Int → Int) (wm : Int) (od : Int → Int) (oc : Int) (U : Int) (p : Int) (r : Int) (hs : okS U st) (hrk : ∀ q, 0 ≤ q → q < st 2800 → -100000 ≤ rk q ∧ rk q ≤ 1000) (hp : 0 ≤ p ∧ p < st 2800) (hr : 0 ≤ r ∧ r < st 2800) : Mt K l yX8_isAhead wsX8_isAhead ({ frames := 0, cells := 0, slots := 0, locals := 0 }) [vP (am 0), vI p, vI r] [mdW am (st, bk, un, ck, ty, tm, tx, ln, rf, dg, dn, rk, pl, iw, wd, wm, od, oc)] 0 0 (fun v w => v = some (vI (if rk r < rk p ∨ (rk p = rk r ∧ p < r) then 1 else 0)) ∧ w = [mdW am (st, bk, un, ck, ty, tm, tx, ln, rf, dg, dn, rk, pl, iw, wd, wm, od, oc)]) := by
  refine Mt.of (own := RX8) (cc := cX8_isAhead) (maxL := 3) (ret := (some .boolean)) (lv0 := [(0, vP (am 0)), (1, vI p), (2, vI r)]) (by decide) rfl rfl (Nat.le_of_ble_eq_true rfl) rfl (fun X C hR hNm => ?_)
  have hgv := hs.gv
  refine i_aload_n (j := 0) (q := 1) C rfl rfl dX8_isAhead_0 rfl ?_
  refine i_get (i := 0) (j := 0) (f := 11) (q := 4) C rfl rfl rfl hi_X8_isAhead_X8 (by decide) lk_X8_isAhead_29 rfl dX8_isAhead_1 rfl ?_
  refine i_iload_n (j := 1) (q := 5) C rfl rfl dX8_isAhead_4 rfl ?_
  refine i_iald (i := 0) (j := 7) (q := 6) C rfl rfl (by omega) dX8_isAhead_5 rfl ?_
  have ld_5 := hrk p (by omega) (by omega)
  refine i_aload_n (j := 0) (q := 7) C rfl rfl dX8_isAhead_6 rfl ?_
  refine i_get (i := 0) (j := 0) (f := 11) (q := 10) C rfl rfl rfl hi_X8_isAhead_X8 (by decide) lk_X8_isAhead_29 rfl dX8_isAhead_7 rfl ?_
  refine i_iload_n (j := 2) (q := 11) C rfl rfl dX8_isAhead_10 rfl ?_
  refine i_iald (i := 0) (j := 7) (q := 12) C rfl rfl (by omega) dX8_isAhead_11 rfl ?_
  have ld_11 := hrk r (by omega) (by omega)
  refine i_icmp_gt (tgt := 35) (q := 15) C (by omega) (by omega) dX8_isAhead_12 (by decide) rfl (fun c_12 => ?_) (fun c_12 => ?_)
  · skip
    refine i_iconst (q := 36) C dX8_isAhead_35 rfl ?_
    refine i_goto (q := 40) C dX8_isAhead_36 (by decide) ?_
    refine i_zret C hR (by omega) dX8_isAhead_40 ?_
    exact ⟨by simp only [Option.some.injEq, Sum.inl.injEq]; split <;> omega, rfl⟩
  · skip
    refine i_aload_n (j := 0) (q := 16) C rfl rfl dX8_isAhead_15 rfl ?_
    refine i_get (i := 0) (j := 0) (f := 11) (q := 19) C rfl rfl rfl hi_X8_isAhead_X8 (by decide) lk_X8_isAhead_29 rfl dX8_isAhead_16 rfl ?_
    refine i_iload_n (j := 1) (q := 20) C rfl rfl dX8_isAhead_19 rfl ?_
    refine i_iald (i := 0) (j := 7) (q := 21) C rfl rfl (by omega) dX8_isAhead_20 rfl ?_
    have ld_20 := hrk p (by omega) (by omega)
    refine i_aload_n (j := 0) (q := 22) C rfl rfl dX8_isAhead_21 rfl ?_
    refine i_get (i := 0) (j := 0) (f := 11) (q := 25) C rfl rfl rfl hi_X8_isAhead_X8 (by decide) lk_X8_isAhead_29 rfl dX8_isAhead_22 rfl ?_
    refine i_iload_n (j := 2) (q := 26) C rfl rfl dX8_isAhead_25 rfl ?_
    refine i_iald (i := 0) (j := 7) (q := 27) C rfl rfl (by omega) dX8_isAhead_26 rfl ?_
    have ld_26 := hrk r (by omega) (by omega)
    refine i_icmp_ne (tgt := 39) (q := 30) C (by omega) (by omega) dX8_isAhead_27 (by decide) rfl (fun c_27 => ?_) (fun c_27 => ?_)
    · skip
      refine i_iconst (q := 40) C dX8_isAhead_39 rfl ?_
      refine i_zret C hR (by omega) dX8_isAhead_40 ?_
      exact ⟨by simp only [Option.some.injEq, Sum.inl.injEq]; split <;> omega, rfl⟩
    · skip
      refine i_iload_n (j := 1) (q := 31) C rfl rfl dX8_isAhead_30 rfl ?_
      refine i_iload_n (j := 2) (q := 32) C rfl rfl dX8_isAhead_31 rfl ?_
      refine i_icmp_ge (tgt := 39) (q := 35) C (by omega) (by omega) dX8_isAhead_32 (by decide) rfl (fun c_32 => ?_) (fun c_32 => ?_)
      · skip
        refine i_iconst (q := 40) C dX8_isAhead_39 rfl ?_
        refine i_zret C hR (by omega) dX8_isAhead_40 ?_
        exact ⟨by simp only [Option.some.injEq, Sum.inl.injEq]; split <;> omega, rfl⟩
      · skip
        refine i_iconst (q := 36) C dX8_isAhead_35 rfl ?_
        refine i_goto (q := 40) C dX8_isAhead_36 (by decide) ?_
        refine i_zret C hR (by omega) dX8_isAhead_40 ?_
        exact ⟨by simp only [Option.some.injEq, Sum.inl.injEq]; split <;> omega, rfl⟩

theorem lk_X8_isTold_29 : Cond.fieldLink RX8 29 (TX8 11).1 (TX8 11).2.1 (TX8 11).2.2.1 ∈ wsX8_isTold := List.mem_of_getElem? (i := 1) rfl
theorem hi_X8_isTold_X8 : ∀ w ∈ u_ws RX8 TX8 18, w ∈ wsX8_isTold := by decide +kernel
theorem lk_X8_isTold_7 : Cond.fieldLink RX8 7 (TX8 0).1 (TX8 0).2.1 (TX8 0).2.2.1 ∈ wsX8_isTold := List.mem_of_getElem? (i := 3) rfl
theorem hd_X8_isAhead : yX8_isAhead.cls = RX8 ∧ yX8_isAhead.cls ≠ "java/lang/invoke/MethodHandle" ∧ yX8_isAhead.cls ≠ "java/lang/invoke/VarHandle" ∧ (parseMethodDescriptor yX8_isAhead.desc).map (fun d => d.parameters.length) = some 2 := by decide +kernel
set_option maxHeartbeats 400000 in
set_option maxRecDepth 100000 in
theorem c_X8_isTold (K : KT) (l : Launch) (am : Nat → Nat) (st : Int → Int) (bk : Int → Int) (un : Int) (ck : Int) (ty : Int → Int) (tm : Int) (tx : Int → Int) (ln : Int) (rf : Int → Int) (dg : Int) (dn : Int → Int) (rk : Int → Int) (pl : Int) (iw : Int) (wd : Int → Int) (wm : Int) (od : Int → Int) (oc : Int) (U : Int) (p : Int) (hs : okS U st) (hrk : ∀ q, 0 ≤ q → q < st 2800 → -100000 ≤ rk q ∧ rk q ≤ 1000) (hp : 0 ≤ p ∧ p < st 2800) : Mt K l yX8_isTold wsX8_isTold ({ frames := 1, cells := 0, slots := 0, locals := 22 }) [vP (am 0), vI p] [mdW am (st, bk, un, ck, ty, tm, tx, ln, rf, dg, dn, rk, pl, iw, wd, wm, od, oc)] 0 0 (fun v w => v = some (vI (if rk p ≠ -100000 ∧ toR (rkl st rk (st 2800).toNat) (p, rk p, st (14 * p + 2)) = true then 1 else 0)) ∧ w = [mdW am (st, bk, un, ck, ty, tm, tx, ln, rf, dg, dn, rk, pl, iw, wd, wm, od, oc)]) := by
  refine Mt.of (own := RX8) (cc := cX8_isTold) (maxL := 5) (ret := (some .boolean)) (lv0 := [(0, vP (am 0)), (1, vI p)]) (by decide) rfl rfl (Nat.le_of_ble_eq_true rfl) rfl (fun X C hR hNm => ?_)
  have hgv := hs.gv
  have hto : toR (rkl st rk (st 2800).toNat) (p, rk p, st (14 * p + 2)) = true ↔ (st (14 * p + 2) ≤ 0 ∨ (∀ q, 0 ≤ q → q < st 2800 → rk q ≠ -100000 → (q = p ∨ st (14 * q + 2) ≠ st (14 * p + 2) ∨ (rk q < rk p ∨ (rk p = rk q ∧ p < q))))) := by
    unfold toR
    rw [Bool.or_eq_true, decide_eq_true_eq, List.all_eq_true, rkl_all, Int.toNat_of_nonneg hgv.1]
    constructor
    · intro h
      rcases h with h | h
      · exact Or.inl h
      · refine Or.inr (fun q g0 g1 g2 => ?_)
        have := h q g0 g1 g2
        simpa [ahR, or_assoc] using this
    · intro h
      rcases h with h | h
      · exact Or.inl h
      · refine Or.inr (fun q g0 g1 g2 => ?_)
        have := h q g0 g1 g2
        simpa [ahR, or_assoc] using this
  refine i_aload_n (j := 0) (q := 1) C rfl rfl dX8_isTold_0 rfl ?_
  refine i_get (i := 0) (j := 0) (f := 11) (q := 4) C rfl rfl rfl hi_X8_isTold_X8 (by decide) lk_X8_isTold_29 rfl dX8_isTold_1 rfl ?_
  refine i_iload_n (j := 1) (q := 5) C rfl rfl dX8_isTold_4 rfl ?_
  refine i_iald (i := 0) (j := 7) (q := 6) C rfl rfl (by omega) dX8_isTold_5 rfl ?_
  have ld_5 := hrk p (by omega) (by omega)
  refine i_ldc (z := -100000) (q := 8) C (List.mem_of_getElem? (i := 2) rfl) dX8_isTold_6 rfl ?_
  refine i_icmp_eq (tgt := 15) (q := 11) C (by omega) (by omega) dX8_isTold_8 (by decide) rfl (fun c_8 => ?_) (fun c_8 => ?_)
  · skip
    refine i_iconst (q := 16) C dX8_isTold_15 rfl ?_
    refine i_istore_n (q := 17) (lv' := [(2, vI 0), (0, vP (am 0)), (1, vI p)]) C rfl (by decide) rfl dX8_isTold_16 rfl ?_
    refine i_aload_n (j := 1) (q := 18) C rfl rfl dX8_isTold_17 rfl ?_
    refine i_get (i := 0) (j := 0) (f := 0) (q := 21) C rfl rfl rfl hi_X8_isTold_X8 (by decide) lk_X8_isTold_7 rfl dX8_isTold_18 rfl ?_
    refine i_bipush (q := 23) C (by decide) dX8_isTold_21 rfl ?_
    refine i_iload_n (j := 2) (q := 24) C rfl rfl dX8_isTold_23 rfl ?_
    refine i_imul (q := 25) C dX8_isTold_24 rfl ?_
    refine i_iconst (q := 26) C dX8_isTold_25 rfl ?_
    refine i_iadd (q := 27) C dX8_isTold_26 rfl ?_
    refine i_iald (i := 0) (j := 1) (q := 28) C rfl rfl (by omega) dX8_isTold_27 rfl ?_
    have ld_27 := hs.k2 p (by omega) (by omega)
    refine i_istore_n (q := 29) (lv' := [(3, vI (st ((14 * p) + 2))), (2, vI 0), (0, vP (am 0)), (1, vI p)]) C rfl (by decide) rfl dX8_isTold_28 rfl ?_
    refine i_iconst (q := 30) C dX8_isTold_29 rfl ?_
    refine i_istore (q := 32) (lv' := [(4, vI 0), (3, vI (st ((14 * p) + 2))), (2, vI 0), (0, vP (am 0)), (1, vI p)]) C (by decide) rfl dX8_isTold_30 rfl ?_
    have loop_32 : ∀ (fuel : Nat) (q : Int) (b : Int), ((st 2800 - q).toNat) < fuel → (0 ≤ q ∧ q ≤ st 2800) → ((b = 1 ∧ rk p ≠ -100000 ∧ (st (14 * p + 2) ≤ 0 ∨ ∀ j, 0 ≤ j → j < q → rk j ≠ -100000 → (j = p ∨ st (14 * j + 2) ≠ st (14 * p + 2) ∨ (rk j < rk p ∨ (rk p = rk j ∧ p < j))))) ∨ (b = 0 ∧ ¬ (rk p ≠ -100000 ∧ (st (14 * p + 2) ≤ 0 ∨ (∀ q, 0 ≤ q → q < st 2800 → rk q ≠ -100000 → (q = p ∨ st (14 * q + 2) ≠ st (14 * p + 2) ∨ (rk q < rk p ∨ (rk p = rk q ∧ p < q)))))))) → V X 0 0 32 [(0, vP (am 0)), (1, vI p), (2, vI b), (3, vI (st ((14 * p) + 2))), (4, vI q)] [] [mdW am (st, bk, un, ck, ty, tm, tx, ln, rf, dg, dn, rk, pl, iw, wd, wm, od, oc)] := by
      intro fuel
      induction fuel with
      | zero => intro q b hz; exact absurd hz (Nat.not_lt_zero _)
      | succ fuel ih_32 =>
        intro q b hfu_32 hq hb
        refine i_iload (j := 4) (q := 34) C rfl dX8_isTold_32 rfl ?_
        refine i_aload_n (j := 0) (q := 35) C rfl rfl dX8_isTold_34 rfl ?_
        refine i_get (i := 0) (j := 0) (f := 0) (q := 38) C rfl rfl rfl hi_X8_isTold_X8 (by decide) lk_X8_isTold_7 rfl dX8_isTold_35 rfl ?_
        refine i_sipush (q := 41) C (by decide) dX8_isTold_38 rfl ?_
        refine i_iald (i := 0) (j := 1) (q := 42) C rfl rfl (by omega) dX8_isTold_41 rfl ?_
        have ld_41 := hs.gv
        refine i_icmp_ge (tgt := 109) (q := 45) C (by omega) (by omega) dX8_isTold_42 (by decide) rfl (fun c_42 => ?_) (fun c_42 => ?_)
        · skip
          refine i_iload_n (j := 2) (q := 110) C rfl rfl dX8_isTold_109 rfl ?_
          refine i_zret C hR (by omega) dX8_isTold_110 ?_
          exact ⟨by
            simp only [Option.some.injEq, Sum.inl.injEq]
            rcases hb with ⟨h1, h2, h3⟩ | ⟨h1, h2⟩
            · rw [if_pos ⟨h2, hto.mpr (by
                rcases h3 with h3 | h3
                · exact Or.inl h3
                · first
                    | exact Or.inr (fun j g0 g1 g2 => h3 j g0 (by omega) g2)
                    | exact Or.inl (by omega)
                    | omega)⟩]; exact h1
            · rw [if_neg (fun z => h2 ⟨z.1, hto.mp z.2⟩)]; exact h1, rfl⟩
        · skip
          refine i_iload_n (j := 2) (q := 46) C rfl rfl dX8_isTold_45 rfl ?_
          refine i_if_eq (tgt := 109) (q := 49) C (by omega) dX8_isTold_46 (by decide) rfl (fun c_46 => ?_) (fun c_46 => ?_)
          · skip
            refine i_iload_n (j := 2) (q := 110) C rfl rfl dX8_isTold_109 rfl ?_
            refine i_zret C hR (by omega) dX8_isTold_110 ?_
            exact ⟨by
              simp only [Option.some.injEq, Sum.inl.injEq]
              rcases hb with ⟨h1, h2, h3⟩ | ⟨h1, h2⟩
              · rw [if_pos ⟨h2, hto.mpr (by
                  rcases h3 with h3 | h3
                  · exact Or.inl h3
                  · first
                      | exact Or.inr (fun j g0 g1 g2 => h3 j g0 (by omega) g2)
                      | exact Or.inl (by omega)
                      | omega)⟩]; exact h1
              · rw [if_neg (fun z => h2 ⟨z.1, hto.mp z.2⟩)]; exact h1, rfl⟩
          · skip
            refine i_iload_n (j := 3) (q := 50) C rfl rfl dX8_isTold_49 rfl ?_
            refine i_if_le (tgt := 109) (q := 53) C (by omega) dX8_isTold_50 (by decide) rfl (fun c_50 => ?_) (fun c_50 => ?_)
            · skip
              refine i_iload_n (j := 2) (q := 110) C rfl rfl dX8_isTold_109 rfl ?_
              refine i_zret C hR (by omega) dX8_isTold_110 ?_
              exact ⟨by
                simp only [Option.some.injEq, Sum.inl.injEq]
                rcases hb with ⟨h1, h2, h3⟩ | ⟨h1, h2⟩
                · rw [if_pos ⟨h2, hto.mpr (by
                    rcases h3 with h3 | h3
                    · exact Or.inl h3
                    · first
                        | exact Or.inr (fun j g0 g1 g2 => h3 j g0 (by omega) g2)
                        | exact Or.inl (by omega)
                        | omega)⟩]; exact h1
                · rw [if_neg (fun z => h2 ⟨z.1, hto.mp z.2⟩)]; exact h1, rfl⟩
            · skip
              have join_102 : ∀ (c : Int), ((c = 1 ∧ (rk q ≠ -100000 → (q = p ∨ st (14 * q + 2) ≠ st (14 * p + 2) ∨ (rk q < rk p ∨ (rk p = rk q ∧ p < q))))) ∨ (c = 0 ∧ rk q ≠ -100000 ∧ ¬ (q = p ∨ st (14 * q + 2) ≠ st (14 * p + 2) ∨ (rk q < rk p ∨ (rk p = rk q ∧ p < q))))) → V X 0 0 102 [(0, vP (am 0)), (1, vI p), (2, vI b), (3, vI (st ((14 * p) + 2))), (4, vI q)] [vI c] [mdW am (st, bk, un, ck, ty, tm, tx, ln, rf, dg, dn, rk, pl, iw, wd, wm, od, oc)] := by
                intro c hc
                refine i_istore_n (q := 103) (lv' := [(2, vI c), (0, vP (am 0)), (1, vI p), (3, vI (st ((14 * p) + 2))), (4, vI q)]) C rfl (by decide) rfl dX8_isTold_102 rfl ?_
                refine i_iinc (j := 4) (q := 106) (lv' := [(4, vI (q + 1)), (2, vI c), (0, vP (am 0)), (1, vI p), (3, vI (st ((14 * p) + 2)))]) C rfl (by decide) rfl dX8_isTold_103 rfl ?_
                refine i_goto (q := 32) C dX8_isTold_106 (by decide) ?_
                refine V.lv [2, 3, 1, 4, 0] rfl ?_
                exact ih_32 (q + 1) (c) (by omega) (by omega) (by
                  obtain ⟨g1, g2, g3⟩ : b = 1 ∧ rk p ≠ -100000 ∧ (∀ j, 0 ≤ j → j < q → rk j ≠ -100000 → (j = p ∨ st (14 * j + 2) ≠ st (14 * p + 2) ∨ (rk j < rk p ∨ (rk p = rk j ∧ p < j)))) := by
                    rcases hb with ⟨h1, h2, h3 | h3⟩ | h
                    · omega
                    · exact ⟨h1, h2, h3⟩
                    · omega
                  rcases hc with ⟨hc1, hc2⟩ | ⟨hc1, hc2, hc3⟩
                  · refine Or.inl ⟨hc1, g2, Or.inr (fun j b0 b1 b2 => ?_)⟩
                    by_cases e : j = q
                    · subst e; exact hc2 b2
                    · exact g3 j b0 (by omega) b2
                  · refine Or.inr ⟨hc1, fun z => ?_⟩
                    rcases z.2 with z2 | z2
                    · omega
                    · exact hc3 (z2 q (by omega) (by omega) hc2))
              refine i_iload (j := 4) (q := 55) C rfl dX8_isTold_53 rfl ?_
              refine i_iload_n (j := 1) (q := 56) C rfl rfl dX8_isTold_55 rfl ?_
              refine i_icmp_eq (tgt := 97) (q := 59) C (by omega) (by omega) dX8_isTold_56 (by decide) rfl (fun c_56 => ?_) (fun c_56 => ?_)
              · skip
                refine i_iconst (q := 98) C dX8_isTold_97 rfl ?_
                refine i_goto (q := 102) C dX8_isTold_98 (by decide) ?_
                exact join_102 (1) (by
                  first
                    | exact Or.inl ⟨rfl, fun _ => by omega⟩
                    | exact Or.inr ⟨rfl, by omega, by omega⟩
                    | exact Or.inl ⟨rfl, fun z => absurd c_68 z⟩)
              · skip
                refine i_aload_n (j := 0) (q := 60) C rfl rfl dX8_isTold_59 rfl ?_
                refine i_get (i := 0) (j := 0) (f := 11) (q := 63) C rfl rfl rfl hi_X8_isTold_X8 (by decide) lk_X8_isTold_29 rfl dX8_isTold_60 rfl ?_
                refine i_iload (j := 4) (q := 65) C rfl dX8_isTold_63 rfl ?_
                refine i_iald (i := 0) (j := 7) (q := 66) C rfl rfl (by omega) dX8_isTold_65 rfl ?_
                have ld_65 := hrk q (by omega) (by omega)
                refine i_ldc (z := -100000) (q := 68) C (List.mem_of_getElem? (i := 2) rfl) dX8_isTold_66 rfl ?_
                refine i_icmp_eq (tgt := 97) (q := 71) C (by omega) (by omega) dX8_isTold_68 (by decide) rfl (fun c_68 => ?_) (fun c_68 => ?_)
                · skip
                  refine i_iconst (q := 98) C dX8_isTold_97 rfl ?_
                  refine i_goto (q := 102) C dX8_isTold_98 (by decide) ?_
                  exact join_102 (1) (by
                    first
                      | exact Or.inl ⟨rfl, fun _ => by omega⟩
                      | exact Or.inr ⟨rfl, by omega, by omega⟩
                      | exact Or.inl ⟨rfl, fun z => absurd c_68 z⟩)
                · skip
                  refine i_aload_n (j := 0) (q := 72) C rfl rfl dX8_isTold_71 rfl ?_
                  refine i_get (i := 0) (j := 0) (f := 0) (q := 75) C rfl rfl rfl hi_X8_isTold_X8 (by decide) lk_X8_isTold_7 rfl dX8_isTold_72 rfl ?_
                  refine i_bipush (q := 77) C (by decide) dX8_isTold_75 rfl ?_
                  refine i_iload (j := 4) (q := 79) C rfl dX8_isTold_77 rfl ?_
                  refine i_imul (q := 80) C dX8_isTold_79 rfl ?_
                  refine i_iconst (q := 81) C dX8_isTold_80 rfl ?_
                  refine i_iadd (q := 82) C dX8_isTold_81 rfl ?_
                  refine i_iald (i := 0) (j := 1) (q := 83) C rfl rfl (by omega) dX8_isTold_82 rfl ?_
                  have ld_82 := hs.k2 q (by omega) (by omega)
                  refine i_iload_n (j := 3) (q := 84) C rfl rfl dX8_isTold_83 rfl ?_
                  refine i_icmp_ne (tgt := 97) (q := 87) C (by omega) (by omega) dX8_isTold_84 (by decide) rfl (fun c_84 => ?_) (fun c_84 => ?_)
                  · skip
                    refine i_iconst (q := 98) C dX8_isTold_97 rfl ?_
                    refine i_goto (q := 102) C dX8_isTold_98 (by decide) ?_
                    exact join_102 (1) (by
                      first
                        | exact Or.inl ⟨rfl, fun _ => by omega⟩
                        | exact Or.inr ⟨rfl, by omega, by omega⟩
                        | exact Or.inl ⟨rfl, fun z => absurd c_68 z⟩)
                  · skip
                    refine i_aload_n (j := 0) (q := 88) C rfl rfl dX8_isTold_87 rfl ?_
                    refine i_iload_n (j := 1) (q := 89) C rfl rfl dX8_isTold_88 rfl ?_
                    refine i_iload (j := 4) (q := 91) C rfl dX8_isTold_89 rfl ?_
                    refine i_callV (wr := []) (As := [vI p, vI q]) (st := []) (i := 0) (j := 0) (q := 94) C (c_X8_isAhead K l (am) (st) (bk) (un) (ck) (ty) (tm) (tx) (ln) (rf) (dg) (dn) (rk) (pl) (iw) (wd) (wm) (od) (oc) (U) (p) (q) (by first | assumption | omega) (by first | assumption | omega) (by first | assumption | omega) (by first | assumption | omega)) gX8_isTold_X8_isAhead rfl hd_X8_isAhead ⟨Nat.le_of_ble_eq_true rfl, Nat.le_of_ble_eq_true rfl⟩ ⟨rfl, rfl⟩ ⟨Nat.le_of_ble_eq_true rfl, Nat.le_of_ble_eq_true rfl⟩ (permBy [0] (by decide) rfl rfl) rfl rfl rfl rfl (Nat.le_of_ble_eq_true rfl) dX8_isTold_91 rfl (fun v w hq => ?_)
                    obtain ⟨rfl, rfl⟩ := hq
                    show V X 0 0 94 [(0, vP (am 0)), (1, vI p), (2, vI b), (3, vI (st ((14 * p) + 2))), (4, vI q)] [vI (if rk q < rk p ∨ (rk p = rk q ∧ p < q) then 1 else 0)] [mdW am (st, bk, un, ck, ty, tm, tx, ln, rf, dg, dn, rk, pl, iw, wd, wm, od, oc)]
                    refine i_if_eq (tgt := 101) (q := 97) C (if01) dX8_isTold_94 (by decide) rfl (fun c_94 => ?_) (fun c_94 => ?_)
                    · skip
                      have h_94 := if0 c_94
                      refine i_iconst (q := 102) C dX8_isTold_101 rfl ?_
                      exact join_102 (0) (by
                        first
                          | exact Or.inl ⟨rfl, fun _ => by omega⟩
                          | exact Or.inr ⟨rfl, by omega, by omega⟩
                          | exact Or.inl ⟨rfl, fun z => absurd c_68 z⟩)
                    · skip
                      have h_94 := ifn0 c_94
                      refine i_iconst (q := 98) C dX8_isTold_97 rfl ?_
                      refine i_goto (q := 102) C dX8_isTold_98 (by decide) ?_
                      exact join_102 (1) (by
                        first
                          | exact Or.inl ⟨rfl, fun _ => by omega⟩
                          | exact Or.inr ⟨rfl, by omega, by omega⟩
                          | exact Or.inl ⟨rfl, fun z => absurd c_68 z⟩)
    refine V.lv [3, 4, 2, 1, 0] rfl ?_
    exact loop_32 _ (0) (0) (Nat.lt_succ_self _) (by omega) (by first | exact Or.inr ⟨rfl, fun z => z.1 c_8⟩ | exact Or.inl ⟨rfl, c_8, Or.inr (fun j _ _ _ => by omega)⟩)
  · skip
    refine i_iconst (q := 12) C dX8_isTold_11 rfl ?_
    refine i_goto (q := 16) C dX8_isTold_12 (by decide) ?_
    refine i_istore_n (q := 17) (lv' := [(2, vI 1), (0, vP (am 0)), (1, vI p)]) C rfl (by decide) rfl dX8_isTold_16 rfl ?_
    refine i_aload_n (j := 1) (q := 18) C rfl rfl dX8_isTold_17 rfl ?_
    refine i_get (i := 0) (j := 0) (f := 0) (q := 21) C rfl rfl rfl hi_X8_isTold_X8 (by decide) lk_X8_isTold_7 rfl dX8_isTold_18 rfl ?_
    refine i_bipush (q := 23) C (by decide) dX8_isTold_21 rfl ?_
    refine i_iload_n (j := 2) (q := 24) C rfl rfl dX8_isTold_23 rfl ?_
    refine i_imul (q := 25) C dX8_isTold_24 rfl ?_
    refine i_iconst (q := 26) C dX8_isTold_25 rfl ?_
    refine i_iadd (q := 27) C dX8_isTold_26 rfl ?_
    refine i_iald (i := 0) (j := 1) (q := 28) C rfl rfl (by omega) dX8_isTold_27 rfl ?_
    have ld_27 := hs.k2 p (by omega) (by omega)
    refine i_istore_n (q := 29) (lv' := [(3, vI (st ((14 * p) + 2))), (2, vI 1), (0, vP (am 0)), (1, vI p)]) C rfl (by decide) rfl dX8_isTold_28 rfl ?_
    refine i_iconst (q := 30) C dX8_isTold_29 rfl ?_
    refine i_istore (q := 32) (lv' := [(4, vI 0), (3, vI (st ((14 * p) + 2))), (2, vI 1), (0, vP (am 0)), (1, vI p)]) C (by decide) rfl dX8_isTold_30 rfl ?_
    have loop_32 : ∀ (fuel : Nat) (q : Int) (b : Int), ((st 2800 - q).toNat) < fuel → (0 ≤ q ∧ q ≤ st 2800) → ((b = 1 ∧ rk p ≠ -100000 ∧ (st (14 * p + 2) ≤ 0 ∨ ∀ j, 0 ≤ j → j < q → rk j ≠ -100000 → (j = p ∨ st (14 * j + 2) ≠ st (14 * p + 2) ∨ (rk j < rk p ∨ (rk p = rk j ∧ p < j))))) ∨ (b = 0 ∧ ¬ (rk p ≠ -100000 ∧ (st (14 * p + 2) ≤ 0 ∨ (∀ q, 0 ≤ q → q < st 2800 → rk q ≠ -100000 → (q = p ∨ st (14 * q + 2) ≠ st (14 * p + 2) ∨ (rk q < rk p ∨ (rk p = rk q ∧ p < q)))))))) → V X 0 0 32 [(0, vP (am 0)), (1, vI p), (2, vI b), (3, vI (st ((14 * p) + 2))), (4, vI q)] [] [mdW am (st, bk, un, ck, ty, tm, tx, ln, rf, dg, dn, rk, pl, iw, wd, wm, od, oc)] := by
      intro fuel
      induction fuel with
      | zero => intro q b hz; exact absurd hz (Nat.not_lt_zero _)
      | succ fuel ih_32 =>
        intro q b hfu_32 hq hb
        refine i_iload (j := 4) (q := 34) C rfl dX8_isTold_32 rfl ?_
        refine i_aload_n (j := 0) (q := 35) C rfl rfl dX8_isTold_34 rfl ?_
        refine i_get (i := 0) (j := 0) (f := 0) (q := 38) C rfl rfl rfl hi_X8_isTold_X8 (by decide) lk_X8_isTold_7 rfl dX8_isTold_35 rfl ?_
        refine i_sipush (q := 41) C (by decide) dX8_isTold_38 rfl ?_
        refine i_iald (i := 0) (j := 1) (q := 42) C rfl rfl (by omega) dX8_isTold_41 rfl ?_
        have ld_41 := hs.gv
        refine i_icmp_ge (tgt := 109) (q := 45) C (by omega) (by omega) dX8_isTold_42 (by decide) rfl (fun c_42 => ?_) (fun c_42 => ?_)
        · skip
          refine i_iload_n (j := 2) (q := 110) C rfl rfl dX8_isTold_109 rfl ?_
          refine i_zret C hR (by omega) dX8_isTold_110 ?_
          exact ⟨by
            simp only [Option.some.injEq, Sum.inl.injEq]
            rcases hb with ⟨h1, h2, h3⟩ | ⟨h1, h2⟩
            · rw [if_pos ⟨h2, hto.mpr (by
                rcases h3 with h3 | h3
                · exact Or.inl h3
                · first
                    | exact Or.inr (fun j g0 g1 g2 => h3 j g0 (by omega) g2)
                    | exact Or.inl (by omega)
                    | omega)⟩]; exact h1
            · rw [if_neg (fun z => h2 ⟨z.1, hto.mp z.2⟩)]; exact h1, rfl⟩
        · skip
          refine i_iload_n (j := 2) (q := 46) C rfl rfl dX8_isTold_45 rfl ?_
          refine i_if_eq (tgt := 109) (q := 49) C (by omega) dX8_isTold_46 (by decide) rfl (fun c_46 => ?_) (fun c_46 => ?_)
          · skip
            refine i_iload_n (j := 2) (q := 110) C rfl rfl dX8_isTold_109 rfl ?_
            refine i_zret C hR (by omega) dX8_isTold_110 ?_
            exact ⟨by
              simp only [Option.some.injEq, Sum.inl.injEq]
              rcases hb with ⟨h1, h2, h3⟩ | ⟨h1, h2⟩
              · rw [if_pos ⟨h2, hto.mpr (by
                  rcases h3 with h3 | h3
                  · exact Or.inl h3
                  · first
                      | exact Or.inr (fun j g0 g1 g2 => h3 j g0 (by omega) g2)
                      | exact Or.inl (by omega)
                      | omega)⟩]; exact h1
              · rw [if_neg (fun z => h2 ⟨z.1, hto.mp z.2⟩)]; exact h1, rfl⟩
          · skip
            refine i_iload_n (j := 3) (q := 50) C rfl rfl dX8_isTold_49 rfl ?_
            refine i_if_le (tgt := 109) (q := 53) C (by omega) dX8_isTold_50 (by decide) rfl (fun c_50 => ?_) (fun c_50 => ?_)
            · skip
              refine i_iload_n (j := 2) (q := 110) C rfl rfl dX8_isTold_109 rfl ?_
              refine i_zret C hR (by omega) dX8_isTold_110 ?_
              exact ⟨by
                simp only [Option.some.injEq, Sum.inl.injEq]
                rcases hb with ⟨h1, h2, h3⟩ | ⟨h1, h2⟩
                · rw [if_pos ⟨h2, hto.mpr (by
                    rcases h3 with h3 | h3
                    · exact Or.inl h3
                    · first
                        | exact Or.inr (fun j g0 g1 g2 => h3 j g0 (by omega) g2)
                        | exact Or.inl (by omega)
                        | omega)⟩]; exact h1
                · rw [if_neg (fun z => h2 ⟨z.1, hto.mp z.2⟩)]; exact h1, rfl⟩
            · skip
              have join_102 : ∀ (c : Int), ((c = 1 ∧ (rk q ≠ -100000 → (q = p ∨ st (14 * q + 2) ≠ st (14 * p + 2) ∨ (rk q < rk p ∨ (rk p = rk q ∧ p < q))))) ∨ (c = 0 ∧ rk q ≠ -100000 ∧ ¬ (q = p ∨ st (14 * q + 2) ≠ st (14 * p + 2) ∨ (rk q < rk p ∨ (rk p = rk q ∧ p < q))))) → V X 0 0 102 [(0, vP (am 0)), (1, vI p), (2, vI b), (3, vI (st ((14 * p) + 2))), (4, vI q)] [vI c] [mdW am (st, bk, un, ck, ty, tm, tx, ln, rf, dg, dn, rk, pl, iw, wd, wm, od, oc)] := by
                intro c hc
                refine i_istore_n (q := 103) (lv' := [(2, vI c), (0, vP (am 0)), (1, vI p), (3, vI (st ((14 * p) + 2))), (4, vI q)]) C rfl (by decide) rfl dX8_isTold_102 rfl ?_
                refine i_iinc (j := 4) (q := 106) (lv' := [(4, vI (q + 1)), (2, vI c), (0, vP (am 0)), (1, vI p), (3, vI (st ((14 * p) + 2)))]) C rfl (by decide) rfl dX8_isTold_103 rfl ?_
                refine i_goto (q := 32) C dX8_isTold_106 (by decide) ?_
                refine V.lv [2, 3, 1, 4, 0] rfl ?_
                exact ih_32 (q + 1) (c) (by omega) (by omega) (by
                  obtain ⟨g1, g2, g3⟩ : b = 1 ∧ rk p ≠ -100000 ∧ (∀ j, 0 ≤ j → j < q → rk j ≠ -100000 → (j = p ∨ st (14 * j + 2) ≠ st (14 * p + 2) ∨ (rk j < rk p ∨ (rk p = rk j ∧ p < j)))) := by
                    rcases hb with ⟨h1, h2, h3 | h3⟩ | h
                    · omega
                    · exact ⟨h1, h2, h3⟩
                    · omega
                  rcases hc with ⟨hc1, hc2⟩ | ⟨hc1, hc2, hc3⟩
                  · refine Or.inl ⟨hc1, g2, Or.inr (fun j b0 b1 b2 => ?_)⟩
                    by_cases e : j = q
                    · subst e; exact hc2 b2
                    · exact g3 j b0 (by omega) b2
                  · refine Or.inr ⟨hc1, fun z => ?_⟩
                    rcases z.2 with z2 | z2
                    · omega
                    · exact hc3 (z2 q (by omega) (by omega) hc2))
              refine i_iload (j := 4) (q := 55) C rfl dX8_isTold_53 rfl ?_
              refine i_iload_n (j := 1) (q := 56) C rfl rfl dX8_isTold_55 rfl ?_
              refine i_icmp_eq (tgt := 97) (q := 59) C (by omega) (by omega) dX8_isTold_56 (by decide) rfl (fun c_56 => ?_) (fun c_56 => ?_)
              · skip
                refine i_iconst (q := 98) C dX8_isTold_97 rfl ?_
                refine i_goto (q := 102) C dX8_isTold_98 (by decide) ?_
                exact join_102 (1) (by
                  first
                    | exact Or.inl ⟨rfl, fun _ => by omega⟩
                    | exact Or.inr ⟨rfl, by omega, by omega⟩
                    | exact Or.inl ⟨rfl, fun z => absurd c_68 z⟩)
              · skip
                refine i_aload_n (j := 0) (q := 60) C rfl rfl dX8_isTold_59 rfl ?_
                refine i_get (i := 0) (j := 0) (f := 11) (q := 63) C rfl rfl rfl hi_X8_isTold_X8 (by decide) lk_X8_isTold_29 rfl dX8_isTold_60 rfl ?_
                refine i_iload (j := 4) (q := 65) C rfl dX8_isTold_63 rfl ?_
                refine i_iald (i := 0) (j := 7) (q := 66) C rfl rfl (by omega) dX8_isTold_65 rfl ?_
                have ld_65 := hrk q (by omega) (by omega)
                refine i_ldc (z := -100000) (q := 68) C (List.mem_of_getElem? (i := 2) rfl) dX8_isTold_66 rfl ?_
                refine i_icmp_eq (tgt := 97) (q := 71) C (by omega) (by omega) dX8_isTold_68 (by decide) rfl (fun c_68 => ?_) (fun c_68 => ?_)
                · skip
                  refine i_iconst (q := 98) C dX8_isTold_97 rfl ?_
                  refine i_goto (q := 102) C dX8_isTold_98 (by decide) ?_
                  exact join_102 (1) (by
                    first
                      | exact Or.inl ⟨rfl, fun _ => by omega⟩
                      | exact Or.inr ⟨rfl, by omega, by omega⟩
                      | exact Or.inl ⟨rfl, fun z => absurd c_68 z⟩)
                · skip
                  refine i_aload_n (j := 0) (q := 72) C rfl rfl dX8_isTold_71 rfl ?_
                  refine i_get (i := 0) (j := 0) (f := 0) (q := 75) C rfl rfl rfl hi_X8_isTold_X8 (by decide) lk_X8_isTold_7 rfl dX8_isTold_72 rfl ?_
                  refine i_bipush (q := 77) C (by decide) dX8_isTold_75 rfl ?_
                  refine i_iload (j := 4) (q := 79) C rfl dX8_isTold_77 rfl ?_
                  refine i_imul (q := 80) C dX8_isTold_79 rfl ?_
                  refine i_iconst (q := 81) C dX8_isTold_80 rfl ?_
                  refine i_iadd (q := 82) C dX8_isTold_81 rfl ?_
                  refine i_iald (i := 0) (j := 1) (q := 83) C rfl rfl (by omega) dX8_isTold_82 rfl ?_
                  have ld_82 := hs.k2 q (by omega) (by omega)
                  refine i_iload_n (j := 3) (q := 84) C rfl rfl dX8_isTold_83 rfl ?_
                  refine i_icmp_ne (tgt := 97) (q := 87) C (by omega) (by omega) dX8_isTold_84 (by decide) rfl (fun c_84 => ?_) (fun c_84 => ?_)
                  · skip
                    refine i_iconst (q := 98) C dX8_isTold_97 rfl ?_
                    refine i_goto (q := 102) C dX8_isTold_98 (by decide) ?_
                    exact join_102 (1) (by
                      first
                        | exact Or.inl ⟨rfl, fun _ => by omega⟩
                        | exact Or.inr ⟨rfl, by omega, by omega⟩
                        | exact Or.inl ⟨rfl, fun z => absurd c_68 z⟩)
                  · skip
                    refine i_aload_n (j := 0) (q := 88) C rfl rfl dX8_isTold_87 rfl ?_
                    refine i_iload_n (j := 1) (q := 89) C rfl rfl dX8_isTold_88 rfl ?_
                    refine i_iload (j := 4) (q := 91) C rfl dX8_isTold_89 rfl ?_
                    refine i_callV (wr := []) (As := [vI p, vI q]) (st := []) (i := 0) (j := 0) (q := 94) C (c_X8_isAhead K l (am) (st) (bk) (un) (ck) (ty) (tm) (tx) (ln) (rf) (dg) (dn) (rk) (pl) (iw) (wd) (wm) (od) (oc) (U) (p) (q) (by first | assumption | omega) (by first | assumption | omega) (by first | assumption | omega) (by first | assumption | omega)) gX8_isTold_X8_isAhead rfl hd_X8_isAhead ⟨Nat.le_of_ble_eq_true rfl, Nat.le_of_ble_eq_true rfl⟩ ⟨rfl, rfl⟩ ⟨Nat.le_of_ble_eq_true rfl, Nat.le_of_ble_eq_true rfl⟩ (permBy [0] (by decide) rfl rfl) rfl rfl rfl rfl (Nat.le_of_ble_eq_true rfl) dX8_isTold_91 rfl (fun v w hq => ?_)
                    obtain ⟨rfl, rfl⟩ := hq
                    show V X 0 0 94 [(0, vP (am 0)), (1, vI p), (2, vI b), (3, vI (st ((14 * p) + 2))), (4, vI q)] [vI (if rk q < rk p ∨ (rk p = rk q ∧ p < q) then 1 else 0)] [mdW am (st, bk, un, ck, ty, tm, tx, ln, rf, dg, dn, rk, pl, iw, wd, wm, od, oc)]
                    refine i_if_eq (tgt := 101) (q := 97) C (if01) dX8_isTold_94 (by decide) rfl (fun c_94 => ?_) (fun c_94 => ?_)
                    · skip
                      have h_94 := if0 c_94
                      refine i_iconst (q := 102) C dX8_isTold_101 rfl ?_
                      exact join_102 (0) (by
                        first
                          | exact Or.inl ⟨rfl, fun _ => by omega⟩
                          | exact Or.inr ⟨rfl, by omega, by omega⟩
                          | exact Or.inl ⟨rfl, fun z => absurd c_68 z⟩)
                    · skip
                      have h_94 := ifn0 c_94
                      refine i_iconst (q := 98) C dX8_isTold_97 rfl ?_
                      refine i_goto (q := 102) C dX8_isTold_98 (by decide) ?_
                      exact join_102 (1) (by
                        first
                          | exact Or.inl ⟨rfl, fun _ => by omega⟩
                          | exact Or.inr ⟨rfl, by omega, by omega⟩
                          | exact Or.inl ⟨rfl, fun z => absurd c_68 z⟩)
    refine V.lv [3, 4, 2, 1, 0] rfl ?_
    exact loop_32 _ (0) (1) (Nat.lt_succ_self _) (by omega) (by first | exact Or.inr ⟨rfl, fun z => z.1 c_8⟩ | exact Or.inl ⟨rfl, c_8, Or.inr (fun j _ _ _ => by omega)⟩)

theorem lk_X8_inOrder_7 : Cond.fieldLink RX8 7 (TX8 0).1 (TX8 0).2.1 (TX8 0).2.2.1 ∈ wsX8_inOrder := List.mem_of_getElem? (i := 1) rfl
theorem hi_X8_inOrder_X8 : ∀ w ∈ u_ws RX8 TX8 18, w ∈ wsX8_inOrder := by decide +kernel
theorem hd_X8_isTold : yX8_isTold.cls = RX8 ∧ yX8_isTold.cls ≠ "java/lang/invoke/MethodHandle" ∧ yX8_isTold.cls ≠ "java/lang/invoke/VarHandle" ∧ (parseMethodDescriptor yX8_isTold.desc).map (fun d => d.parameters.length) = some 1 := by decide +kernel
set_option maxHeartbeats 400000 in
set_option maxRecDepth 100000 in
theorem c_X8_inOrder (K : KT) (l : Launch) (am : Nat → Nat) (st : Int → Int) (bk : Int → Int) (un : Int) (ck : Int) (ty : Int → Int) (tm : Int) (tx : Int → Int) (ln : Int) (rf : Int → Int) (dg : Int) (dn : Int → Int) (rk : Int → Int) (pl : Int) (iw : Int) (wd : Int → Int) (wm : Int) (od : Int → Int) (oc : Int) (U : Int) (x : Int) (hs : okS U st) (hrk : ∀ q, 0 ≤ q → q < st 2800 → -100000 ≤ rk q ∧ rk q ≤ 1000) (hx : rI x) : Mt K l yX8_inOrder wsX8_inOrder ({ frames := 2, cells := 0, slots := 0, locals := 46 }) [vP (am 0), vI x] [mdW am (st, bk, un, ck, ty, tm, tx, ln, rf, dg, dn, rk, pl, iw, wd, wm, od, oc)] 0 0 (fun v w => v = some (vI (bst (rkl st rk (st 2800).toNat) x)) ∧ w = [mdW am (st, bk, un, ck, ty, tm, tx, ln, rf, dg, dn, rk, pl, iw, wd, wm, od, oc)]) := by
  refine Mt.of (own := RX8) (cc := cX8_inOrder) (maxL := 7) (ret := (some .int)) (lv0 := [(0, vP (am 0)), (1, vI x)]) (by decide) rfl rfl (Nat.le_of_ble_eq_true rfl) rfl (fun X C hR hNm => ?_)
  have hgv := hs.gv
  refine i_iconst (q := 1) C dX8_inOrder_0 rfl ?_
  refine i_istore_n (q := 2) (lv' := [(2, vI 0), (0, vP (am 0)), (1, vI x)]) C rfl (by decide) rfl dX8_inOrder_1 rfl ?_
  refine i_bipush (q := 4) C (by decide) dX8_inOrder_2 rfl ?_
  refine i_istore_n (q := 5) (lv' := [(3, vI ((-5))), (2, vI 0), (0, vP (am 0)), (1, vI x)]) C rfl (by decide) rfl dX8_inOrder_4 rfl ?_
  refine i_iconst (q := 6) C dX8_inOrder_5 rfl ?_
  refine i_istore (q := 8) (lv' := [(4, vI 0), (3, vI ((-5))), (2, vI 0), (0, vP (am 0)), (1, vI x)]) C (by decide) rfl dX8_inOrder_6 rfl ?_
  have loop_8 : ∀ (fuel : Nat) (p : Int) (n : Int) (f : Int), ((st 2800 - p).toNat) < fuel → (0 ≤ p ∧ p ≤ st 2800) → (n = (((rkl st rk p.toNat).filter (toR (rkl st rk (st 2800).toNat))).length : Int)) → (f = (rkl st rk p.toNat).foldl (fun f (y : Rk) => if toR (rkl st rk (st 2800).toNat) y = true ∧ cnR (rkl st rk (st 2800).toNat) y = x then y.1 else f) (-5)) → V X 0 0 8 [(0, vP (am 0)), (1, vI x), (2, vI n), (3, vI f), (4, vI p)] [] [mdW am (st, bk, un, ck, ty, tm, tx, ln, rf, dg, dn, rk, pl, iw, wd, wm, od, oc)] := by
    intro fuel
    induction fuel with
    | zero => intro p n f hz; exact absurd hz (Nat.not_lt_zero _)
    | succ fuel ih_8 =>
      intro p n f hfu_8 hp hn hf
      refine i_iload (j := 4) (q := 10) C rfl dX8_inOrder_8 rfl ?_
      refine i_aload_n (j := 0) (q := 11) C rfl rfl dX8_inOrder_10 rfl ?_
      refine i_get (i := 0) (j := 0) (f := 0) (q := 14) C rfl rfl rfl hi_X8_inOrder_X8 (by decide) lk_X8_inOrder_7 rfl dX8_inOrder_11 rfl ?_
      refine i_sipush (q := 17) C (by decide) dX8_inOrder_14 rfl ?_
      refine i_iald (i := 0) (j := 1) (q := 18) C rfl rfl (by omega) dX8_inOrder_17 rfl ?_
      have ld_17 := hs.gv
      refine i_icmp_ge (tgt := 114) (q := 21) C (by omega) (by omega) dX8_inOrder_18 (by decide) rfl (fun c_18 => ?_) (fun c_18 => ?_)
      · skip
        refine i_iload_n (j := 1) (q := 115) C rfl rfl dX8_inOrder_114 rfl ?_
        refine i_iconst (q := 116) C dX8_inOrder_115 rfl ?_
        refine i_icmp_ne (tgt := 123) (q := 119) C (by omega) (by omega) dX8_inOrder_116 (by decide) rfl (fun c_116 => ?_) (fun c_116 => ?_)
        · skip
          refine i_iload_n (j := 3) (q := 124) C rfl rfl dX8_inOrder_123 rfl ?_
          refine i_iret C hR dX8_inOrder_124 ?_
          have e9 : p = st 2800 := by omega
          subst e9
          exact ⟨by unfold bst; rw [if_neg c_116, ← hf], rfl⟩
        · skip
          refine i_iload_n (j := 2) (q := 120) C rfl rfl dX8_inOrder_119 rfl ?_
          refine i_goto (q := 124) C dX8_inOrder_120 (by decide) ?_
          refine i_iret C hR dX8_inOrder_124 ?_
          have e9 : p = st 2800 := by omega
          subst e9
          exact ⟨by unfold bst; rw [if_pos c_116, ← hn], rfl⟩
      · skip
        refine i_aload_n (j := 0) (q := 22) C rfl rfl dX8_inOrder_21 rfl ?_
        refine i_iload (j := 4) (q := 24) C rfl dX8_inOrder_22 rfl ?_
        refine i_callV (wr := []) (As := [vI p]) (st := []) (i := 0) (j := 0) (q := 27) C (c_X8_isTold K l (am) (st) (bk) (un) (ck) (ty) (tm) (tx) (ln) (rf) (dg) (dn) (rk) (pl) (iw) (wd) (wm) (od) (oc) (U) (p) (by first | assumption | omega) (by first | assumption | omega) (by first | assumption | omega)) gX8_inOrder_X8_isTold rfl hd_X8_isTold ⟨Nat.le_of_ble_eq_true rfl, Nat.le_of_ble_eq_true rfl⟩ ⟨rfl, rfl⟩ ⟨Nat.le_of_ble_eq_true rfl, Nat.le_of_ble_eq_true rfl⟩ (permBy [0] (by decide) rfl rfl) rfl rfl rfl rfl (Nat.le_of_ble_eq_true rfl) dX8_inOrder_24 rfl (fun v w hq => ?_)
        obtain ⟨rfl, rfl⟩ := hq
        show V X 0 0 27 [(0, vP (am 0)), (1, vI x), (2, vI n), (3, vI f), (4, vI p)] [vI (if rk p ≠ -100000 ∧ toR (rkl st rk (st 2800).toNat) (p, rk p, st (14 * p + 2)) = true then 1 else 0)] [mdW am (st, bk, un, ck, ty, tm, tx, ln, rf, dg, dn, rk, pl, iw, wd, wm, od, oc)]
        refine i_if_eq (tgt := 108) (q := 30) C (if01) dX8_inOrder_27 (by decide) rfl (fun c_27 => ?_) (fun c_27 => ?_)
        · skip
          have h_27 := if0 c_27
          refine i_iinc (j := 4) (q := 111) (lv' := [(4, vI (p + 1)), (0, vP (am 0)), (1, vI x), (2, vI n), (3, vI f)]) C rfl (by decide) rfl dX8_inOrder_108 rfl ?_
          refine i_goto (q := 8) C dX8_inOrder_111 (by decide) ?_
          refine V.lv [1, 2, 3, 4, 0] rfl ?_
          exact ih_8 (p + 1) (n) (f) (by omega) (by omega) (by
            rw [fil_rkl _ st rk hp.1, ← hn]
            first
              | rw [if_pos h_27]
              | (rw [if_neg h_27]; omega)) (by
            rw [fold_rkl _ _ st rk hp.1, ← hf]
            first
              | exact hf2
              | (by_cases e : rk p = -100000
                 · rw [if_neg (fun z => z e)]
                 · rw [if_pos e, if_neg (fun z => h_27 ⟨e, z.1⟩)]))
        · skip
          have h_27 := ifn0 c_27
          refine i_iconst (q := 31) C dX8_inOrder_30 rfl ?_
          refine i_istore (q := 33) (lv' := [(5, vI 0), (0, vP (am 0)), (1, vI x), (2, vI n), (3, vI f), (4, vI p)]) C (by decide) rfl dX8_inOrder_31 rfl ?_
          refine i_iconst (q := 34) C dX8_inOrder_33 rfl ?_
          refine i_istore (q := 36) (lv' := [(6, vI 0), (5, vI 0), (0, vP (am 0)), (1, vI x), (2, vI n), (3, vI f), (4, vI p)]) C (by decide) rfl dX8_inOrder_34 rfl ?_
          have loop_36 : ∀ (fuel : Nat) (q : Int) (a : Int), ((st 2800 - q).toNat) < fuel → (0 ≤ q ∧ q ≤ st 2800) → (a = (((rkl st rk q.toNat).filter (fun y : Rk => decide (y.1 ≠ (p, rk p, st (14 * p + 2)).1) && toR (rkl st rk (st 2800).toNat) y && ahR y (p, rk p, st (14 * p + 2)))).length : Int)) → (0 ≤ a ∧ a ≤ q) → V X 0 0 36 [(0, vP (am 0)), (1, vI x), (2, vI n), (3, vI f), (4, vI p), (5, vI a), (6, vI q)] [] [mdW am (st, bk, un, ck, ty, tm, tx, ln, rf, dg, dn, rk, pl, iw, wd, wm, od, oc)] := by
            intro fuel
            induction fuel with
            | zero => intro q a hz; exact absurd hz (Nat.not_lt_zero _)
            | succ fuel ih_36 =>
              intro q a hfu_36 hq ha ha2
              refine i_iload (j := 6) (q := 38) C rfl dX8_inOrder_36 rfl ?_
              refine i_aload_n (j := 0) (q := 39) C rfl rfl dX8_inOrder_38 rfl ?_
              refine i_get (i := 0) (j := 0) (f := 0) (q := 42) C rfl rfl rfl hi_X8_inOrder_X8 (by decide) lk_X8_inOrder_7 rfl dX8_inOrder_39 rfl ?_
              refine i_sipush (q := 45) C (by decide) dX8_inOrder_42 rfl ?_
              refine i_iald (i := 0) (j := 1) (q := 46) C rfl rfl (by omega) dX8_inOrder_45 rfl ?_
              have ld_45 := hs.gv
              refine i_icmp_ge (tgt := 92) (q := 49) C (by omega) (by omega) dX8_inOrder_46 (by decide) rfl (fun c_46 => ?_) (fun c_46 => ?_)
              · skip
                have join_104 : ∀ (f2 : Int), (f2 = if rk p ≠ -100000 then (fun f (y : Rk) => if toR (rkl st rk (st 2800).toNat) y = true ∧ cnR (rkl st rk (st 2800).toNat) y = x then y.1 else f) f (p, rk p, st (14 * p + 2)) else f) → V X 0 0 104 [(0, vP (am 0)), (1, vI x), (2, vI n), (4, vI p)] [vI f2] [mdW am (st, bk, un, ck, ty, tm, tx, ln, rf, dg, dn, rk, pl, iw, wd, wm, od, oc)] := by
                  intro f2 hf2
                  refine i_istore_n (q := 105) (lv' := [(3, vI f2), (0, vP (am 0)), (1, vI x), (2, vI n), (4, vI p)]) C rfl (by decide) rfl dX8_inOrder_104 rfl ?_
                  refine i_iinc (j := 3) (q := 108) (lv' := [(2, vI (n + 1)), (3, vI f2), (0, vP (am 0)), (1, vI x), (4, vI p)]) C rfl (by decide) rfl dX8_inOrder_105 rfl ?_
                  refine i_iinc (j := 4) (q := 111) (lv' := [(4, vI (p + 1)), (2, vI (n + 1)), (3, vI f2), (0, vP (am 0)), (1, vI x)]) C rfl (by decide) rfl dX8_inOrder_108 rfl ?_
                  refine i_goto (q := 8) C dX8_inOrder_111 (by decide) ?_
                  refine V.lv [3, 4, 1, 2, 0] rfl ?_
                  exact ih_8 (p + 1) (n + 1) (f2) (by omega) (by omega) (by
                    rw [fil_rkl _ st rk hp.1, ← hn]
                    first
                      | rw [if_pos h_27]
                      | (rw [if_neg h_27]; omega)) (by
                    rw [fold_rkl _ _ st rk hp.1, ← hf]
                    first
                      | exact hf2
                      | (by_cases e : rk p = -100000
                         · rw [if_neg (fun z => z e)]
                         · rw [if_pos e, if_neg (fun z => h_27 ⟨e, z.1⟩)]))
                refine i_iload (j := 5) (q := 94) C rfl dX8_inOrder_92 rfl ?_
                refine i_iload_n (j := 1) (q := 95) C rfl rfl dX8_inOrder_94 rfl ?_
                refine i_icmp_ne (tgt := 103) (q := 98) C (by omega) (by omega) dX8_inOrder_95 (by decide) rfl (fun c_95 => ?_) (fun c_95 => ?_)
                · skip
                  refine i_iload_n (j := 3) (q := 104) C rfl rfl dX8_inOrder_103 rfl ?_
                  refine V.lv [0, 1, 2, 4] rfl ?_
                  exact join_104 (f) (by
                    have ecn : cnR (rkl st rk (st 2800).toNat) (p, rk p, st (14 * p + 2)) = a := by rw [ha, show q = st 2800 by omega]; rfl
                    rw [if_pos h_27.1]
                    simp only
                    rw [ecn]
                    first
                      | exact (if_pos ⟨h_27.2, c_95⟩).symm
                      | exact (if_neg (fun z => c_95 z.2)).symm)
                · skip
                  refine i_iload (j := 4) (q := 100) C rfl dX8_inOrder_98 rfl ?_
                  refine i_goto (q := 104) C dX8_inOrder_100 (by decide) ?_
                  refine V.lv [0, 1, 2, 4] rfl ?_
                  exact join_104 (p) (by
                    have ecn : cnR (rkl st rk (st 2800).toNat) (p, rk p, st (14 * p + 2)) = a := by rw [ha, show q = st 2800 by omega]; rfl
                    rw [if_pos h_27.1]
                    simp only
                    rw [ecn]
                    first
                      | exact (if_pos ⟨h_27.2, c_95⟩).symm
                      | exact (if_neg (fun z => c_95 z.2)).symm)
              · skip
                have join_83 : ∀ (c : Int), ((c = 1 ∧ (rk q ≠ -100000 ∧ (q ≠ p ∧ toR (rkl st rk (st 2800).toNat) (q, rk q, st (14 * q + 2)) = true ∧ (rk p < rk q ∨ (rk q = rk p ∧ q < p))))) ∨ (c = 0 ∧ ¬ (rk q ≠ -100000 ∧ (q ≠ p ∧ toR (rkl st rk (st 2800).toNat) (q, rk q, st (14 * q + 2)) = true ∧ (rk p < rk q ∨ (rk q = rk p ∧ q < p)))))) → V X 0 0 83 [(0, vP (am 0)), (1, vI x), (2, vI n), (3, vI f), (4, vI p), (5, vI a), (6, vI q)] [vI c, vI a] [mdW am (st, bk, un, ck, ty, tm, tx, ln, rf, dg, dn, rk, pl, iw, wd, wm, od, oc)] := by
                  intro c hc
                  refine i_iadd (q := 84) C dX8_inOrder_83 rfl ?_
                  refine i_istore (q := 86) (lv' := [(5, vI (a + c)), (0, vP (am 0)), (1, vI x), (2, vI n), (3, vI f), (4, vI p), (6, vI q)]) C (by decide) rfl dX8_inOrder_84 rfl ?_
                  refine i_iinc (j := 6) (q := 89) (lv' := [(6, vI (q + 1)), (5, vI (a + c)), (0, vP (am 0)), (1, vI x), (2, vI n), (3, vI f), (4, vI p)]) C rfl (by decide) rfl dX8_inOrder_86 rfl ?_
                  refine i_goto (q := 36) C dX8_inOrder_89 (by decide) ?_
                  refine V.lv [2, 3, 4, 5, 6, 1, 0] rfl ?_
                  exact ih_36 (q + 1) (a + c) (by omega) (by omega) (by
                    have hiff : (fun y : Rk => decide (y.1 ≠ (p, rk p, st (14 * p + 2)).1) && toR (rkl st rk (st 2800).toNat) y && ahR y (p, rk p, st (14 * p + 2))) (q, rk q, st (14 * q + 2)) = true ↔ (q ≠ p ∧ toR (rkl st rk (st 2800).toNat) (q, rk q, st (14 * q + 2)) = true ∧ (rk p < rk q ∨ (rk q = rk p ∧ q < p))) := by
                      simp [ahR, and_assoc]
                    rw [fil_rkl _ st rk hq.1, ← ha]
                    rcases hc with ⟨h1, h2⟩ | ⟨h1, h2⟩
                    · rw [if_pos ⟨h2.1, hiff.mpr h2.2⟩, h1]
                    · rw [if_neg (fun z => h2 ⟨z.1, hiff.mp z.2⟩), h1]) (by omega)
                refine i_iload (j := 5) (q := 51) C rfl dX8_inOrder_49 rfl ?_
                refine i_iload (j := 6) (q := 53) C rfl dX8_inOrder_51 rfl ?_
                refine i_iload (j := 4) (q := 55) C rfl dX8_inOrder_53 rfl ?_
                refine i_icmp_eq (tgt := 82) (q := 58) C (by omega) (by omega) dX8_inOrder_55 (by decide) rfl (fun c_55 => ?_) (fun c_55 => ?_)
                · skip
                  refine i_iconst (q := 83) C dX8_inOrder_82 rfl ?_
                  exact join_83 (0) (by
                    first
                      | exact Or.inr ⟨rfl, fun z => z.2.1 c_55⟩
                      | exact Or.inr ⟨rfl, fun z => h_64 ⟨z.1, z.2.2.1⟩⟩
                      | exact Or.inr ⟨rfl, fun z => h_75 z.2.2.2⟩
                      | exact Or.inl ⟨rfl, h_64.1, c_55, h_64.2, h_75⟩)
                · skip
                  refine i_aload_n (j := 0) (q := 59) C rfl rfl dX8_inOrder_58 rfl ?_
                  refine i_iload (j := 6) (q := 61) C rfl dX8_inOrder_59 rfl ?_
                  refine i_callV (wr := []) (As := [vI q]) (st := [vI a]) (i := 0) (j := 0) (q := 64) C (c_X8_isTold K l (am) (st) (bk) (un) (ck) (ty) (tm) (tx) (ln) (rf) (dg) (dn) (rk) (pl) (iw) (wd) (wm) (od) (oc) (U) (q) (by first | assumption | omega) (by first | assumption | omega) (by first | assumption | omega)) gX8_inOrder_X8_isTold rfl hd_X8_isTold ⟨Nat.le_of_ble_eq_true rfl, Nat.le_of_ble_eq_true rfl⟩ ⟨rfl, rfl⟩ ⟨Nat.le_of_ble_eq_true rfl, Nat.le_of_ble_eq_true rfl⟩ (permBy [0] (by decide) rfl rfl) rfl rfl rfl rfl (Nat.le_of_ble_eq_true rfl) dX8_inOrder_61 rfl (fun v w hq => ?_)
                  obtain ⟨rfl, rfl⟩ := hq
                  show V X 0 0 64 [(0, vP (am 0)), (1, vI x), (2, vI n), (3, vI f), (4, vI p), (5, vI a), (6, vI q)] [vI (if rk q ≠ -100000 ∧ toR (rkl st rk (st 2800).toNat) (q, rk q, st (14 * q + 2)) = true then 1 else 0), vI a] [mdW am (st, bk, un, ck, ty, tm, tx, ln, rf, dg, dn, rk, pl, iw, wd, wm, od, oc)]
                  refine i_if_eq (tgt := 82) (q := 67) C (if01) dX8_inOrder_64 (by decide) rfl (fun c_64 => ?_) (fun c_64 => ?_)
                  · skip
                    have h_64 := if0 c_64
                    refine i_iconst (q := 83) C dX8_inOrder_82 rfl ?_
                    exact join_83 (0) (by
                      first
                        | exact Or.inr ⟨rfl, fun z => z.2.1 c_55⟩
                        | exact Or.inr ⟨rfl, fun z => h_64 ⟨z.1, z.2.2.1⟩⟩
                        | exact Or.inr ⟨rfl, fun z => h_75 z.2.2.2⟩
                        | exact Or.inl ⟨rfl, h_64.1, c_55, h_64.2, h_75⟩)
                  · skip
                    have h_64 := ifn0 c_64
                    refine i_aload_n (j := 0) (q := 68) C rfl rfl dX8_inOrder_67 rfl ?_
                    refine i_iload (j := 6) (q := 70) C rfl dX8_inOrder_68 rfl ?_
                    refine i_iload (j := 4) (q := 72) C rfl dX8_inOrder_70 rfl ?_
                    refine i_callV (wr := []) (As := [vI q, vI p]) (st := [vI a]) (i := 0) (j := 0) (q := 75) C (c_X8_isAhead K l (am) (st) (bk) (un) (ck) (ty) (tm) (tx) (ln) (rf) (dg) (dn) (rk) (pl) (iw) (wd) (wm) (od) (oc) (U) (q) (p) (by first | assumption | omega) (by first | assumption | omega) (by first | assumption | omega) (by first | assumption | omega)) gX8_inOrder_X8_isAhead rfl hd_X8_isAhead ⟨Nat.le_of_ble_eq_true rfl, Nat.le_of_ble_eq_true rfl⟩ ⟨rfl, rfl⟩ ⟨Nat.le_of_ble_eq_true rfl, Nat.le_of_ble_eq_true rfl⟩ (permBy [0] (by decide) rfl rfl) rfl rfl rfl rfl (Nat.le_of_ble_eq_true rfl) dX8_inOrder_72 rfl (fun v w hq => ?_)
                    obtain ⟨rfl, rfl⟩ := hq
                    show V X 0 0 75 [(0, vP (am 0)), (1, vI x), (2, vI n), (3, vI f), (4, vI p), (5, vI a), (6, vI q)] [vI (if rk p < rk q ∨ (rk q = rk p ∧ q < p) then 1 else 0), vI a] [mdW am (st, bk, un, ck, ty, tm, tx, ln, rf, dg, dn, rk, pl, iw, wd, wm, od, oc)]
                    refine i_if_eq (tgt := 82) (q := 78) C (if01) dX8_inOrder_75 (by decide) rfl (fun c_75 => ?_) (fun c_75 => ?_)
                    · skip
                      have h_75 := if0 c_75
                      refine i_iconst (q := 83) C dX8_inOrder_82 rfl ?_
                      exact join_83 (0) (by
                        first
                          | exact Or.inr ⟨rfl, fun z => z.2.1 c_55⟩
                          | exact Or.inr ⟨rfl, fun z => h_64 ⟨z.1, z.2.2.1⟩⟩
                          | exact Or.inr ⟨rfl, fun z => h_75 z.2.2.2⟩
                          | exact Or.inl ⟨rfl, h_64.1, c_55, h_64.2, h_75⟩)
                    · skip
                      have h_75 := ifn0 c_75
                      refine i_iconst (q := 79) C dX8_inOrder_78 rfl ?_
                      refine i_goto (q := 83) C dX8_inOrder_79 (by decide) ?_
                      exact join_83 (1) (by
                        first
                          | exact Or.inr ⟨rfl, fun z => z.2.1 c_55⟩
                          | exact Or.inr ⟨rfl, fun z => h_64 ⟨z.1, z.2.2.1⟩⟩
                          | exact Or.inr ⟨rfl, fun z => h_75 z.2.2.2⟩
                          | exact Or.inl ⟨rfl, h_64.1, c_55, h_64.2, h_75⟩)
          refine V.lv [2, 3, 4, 5, 6, 1, 0] rfl ?_
          exact loop_36 _ (0) (0) (Nat.lt_succ_self _) (by omega) (rfl) (by omega)
  refine V.lv [3, 4, 2, 1, 0] rfl ?_
  exact loop_8 _ (0) (0) ((-5)) (Nat.lt_succ_self _) (by omega) (rfl) (rfl)

theorem lk_X8_laysRanks_7 : Cond.fieldLink RX8 7 (TX8 0).1 (TX8 0).2.1 (TX8 0).2.2.1 ∈ wsX8_laysRanks := List.mem_of_getElem? (i := 1) rfl
theorem hi_X8_laysRanks_X8 : ∀ w ∈ u_ws RX8 TX8 18, w ∈ wsX8_laysRanks := by decide +kernel
theorem lk_X8_laysRanks_29 : Cond.fieldLink RX8 29 (TX8 11).1 (TX8 11).2.1 (TX8 11).2.2.1 ∈ wsX8_laysRanks := List.mem_of_getElem? (i := 2) rfl
set_option maxHeartbeats 400000 in
set_option maxRecDepth 100000 in
theorem c_X8_laysRanks (K : KT) (l : Launch) (am : Nat → Nat) (st : Int → Int) (bk : Int → Int) (un : Int) (ck : Int) (ty : Int → Int) (tm : Int) (tx : Int → Int) (ln : Int) (rf : Int → Int) (dg : Int) (dn : Int → Int) (rk : Int → Int) (pl : Int) (iw : Int) (wd : Int → Int) (wm : Int) (od : Int → Int) (oc : Int) (U : Int) (x : Int) (hs : okS U st) (htm : 0 ≤ tm ∧ tm ≤ 12) (hty : ∀ k, 0 ≤ k → k < tm → 0 ≤ ty k ∧ ty k ≤ 7) (hx : x = 0 ∨ x = 1) : Mt K l yX8_laysRanks wsX8_laysRanks ({ frames := 2, cells := 0, slots := 0, locals := 50 }) [vP (am 0), vI x] [mdW am (st, bk, un, ck, ty, tm, tx, ln, rf, dg, dn, rk, pl, iw, wd, wm, od, oc)] 0 0 (fun v w => ∃ rk3 : Int → Int, v = none ∧ w = [mdW am (st, bk, un, ck, ty, tm, tx, ln, rf, dg, dn, rk3, pl, iw, wd, wm, od, oc)] ∧ (∀ p, 0 ≤ p → p < st 2800 → rk3 p = rkF x st (rg ty tm) p)) := by
  refine Mt.of (own := RX8) (cc := cX8_laysRanks) (maxL := 5) (ret := none) (lv0 := [(0, vP (am 0)), (1, vI x)]) (by decide) rfl rfl (Nat.le_of_ble_eq_true rfl) rfl (fun X C hR hNm => ?_)
  have hgv := hs.gv
  refine i_iconst (q := 1) C dX8_laysRanks_0 rfl ?_
  refine i_istore_n (q := 2) (lv' := [(2, vI 0), (0, vP (am 0)), (1, vI x)]) C rfl (by decide) rfl dX8_laysRanks_1 rfl ?_
  have loop_2 : ∀ (fuel : Nat) (p : Int) (rk4 : Int → Int), ((st 2800 - p).toNat) < fuel → (0 ≤ p ∧ p ≤ st 2800) → (∀ q, 0 ≤ q → q < p → rk4 q = rkF x st (rg ty tm) q) → V X 0 0 2 [(0, vP (am 0)), (1, vI x), (2, vI p)] [] [mdW am (st, bk, un, ck, ty, tm, tx, ln, rf, dg, dn, rk4, pl, iw, wd, wm, od, oc)] := by
    intro fuel
    induction fuel with
    | zero => intro p rk4 hz; exact absurd hz (Nat.not_lt_zero _)
    | succ fuel ih_2 =>
      intro p rk4 hfu_2 hp hv
      refine i_iload_n (j := 2) (q := 3) C rfl rfl dX8_laysRanks_2 rfl ?_
      refine i_aload_n (j := 0) (q := 4) C rfl rfl dX8_laysRanks_3 rfl ?_
      refine i_get (i := 0) (j := 0) (f := 0) (q := 7) C rfl rfl rfl hi_X8_laysRanks_X8 (by decide) lk_X8_laysRanks_7 rfl dX8_laysRanks_4 rfl ?_
      refine i_sipush (q := 10) C (by decide) dX8_laysRanks_7 rfl ?_
      refine i_iald (i := 0) (j := 1) (q := 11) C rfl rfl (by omega) dX8_laysRanks_10 rfl ?_
      have ld_10 := hs.gv
      refine i_icmp_ge (tgt := 107) (q := 14) C (by omega) (by omega) dX8_laysRanks_11 (by decide) rfl (fun c_11 => ?_) (fun c_11 => ?_)
      · skip
        refine i_vret C hR dX8_laysRanks_107 ?_
        exact ⟨rk4, rfl, rfl, fun q g0 g1 => hv q g0 (by omega)⟩
      · skip
        have join_32 : ∀ (b : Int), ((b = 1 ∧ st (14 * p) = 1) ∨ (b = 0 ∧ ¬ st (14 * p) = 1)) → V X 0 0 32 [(0, vP (am 0)), (1, vI x), (2, vI p)] [vI b] [mdW am (st, bk, un, ck, ty, tm, tx, ln, rf, dg, dn, rk4, pl, iw, wd, wm, od, oc)] := by
          intro b hb
          refine i_istore_n (q := 33) (lv' := [(3, vI b), (0, vP (am 0)), (1, vI x), (2, vI p)]) C rfl (by decide) rfl dX8_laysRanks_32 rfl ?_
          refine i_aload_n (j := 1) (q := 34) C rfl rfl dX8_laysRanks_33 rfl ?_
          refine i_get (i := 0) (j := 0) (f := 0) (q := 37) C rfl rfl rfl hi_X8_laysRanks_X8 (by decide) lk_X8_laysRanks_7 rfl dX8_laysRanks_34 rfl ?_
          refine i_bipush (q := 39) C (by decide) dX8_laysRanks_37 rfl ?_
          refine i_iload_n (j := 3) (q := 40) C rfl rfl dX8_laysRanks_39 rfl ?_
          refine i_imul (q := 41) C dX8_laysRanks_40 rfl ?_
          refine i_iconst (q := 42) C dX8_laysRanks_41 rfl ?_
          refine i_iadd (q := 43) C dX8_laysRanks_42 rfl ?_
          refine i_iald (i := 0) (j := 1) (q := 44) C rfl rfl (by omega) dX8_laysRanks_43 rfl ?_
          have ld_43 := hs.k1 p (by omega) (by omega)
          refine i_istore (q := 46) (lv' := [(4, vI (st ((14 * p) + 1))), (3, vI b), (0, vP (am 0)), (1, vI x), (2, vI p)]) C (by decide) rfl dX8_laysRanks_44 rfl ?_
          refine i_aload_n (j := 2) (q := 47) C rfl rfl dX8_laysRanks_46 rfl ?_
          refine i_get (i := 0) (j := 0) (f := 11) (q := 50) C rfl rfl rfl hi_X8_laysRanks_X8 (by decide) lk_X8_laysRanks_29 rfl dX8_laysRanks_47 rfl ?_
          refine i_iload_n (j := 4) (q := 51) C rfl rfl dX8_laysRanks_50 rfl ?_
          refine i_iload_n (j := 1) (q := 52) C rfl rfl dX8_laysRanks_51 rfl ?_
          have join_100 : ∀ (v : Int), (v = rkF x st (rg ty tm) p) → V X 0 0 100 [(0, vP (am 0)), (1, vI x), (2, vI p), (3, vI b), (4, vI (st ((14 * p) + 1)))] [vI v, vI p, vP (am 7)] [mdW am (st, bk, un, ck, ty, tm, tx, ln, rf, dg, dn, rk4, pl, iw, wd, wm, od, oc)] := by
            intro v hv2
            refine i_iast (i := 0) (j := 7) (q := 101) (cs' := [mdW am (st, bk, un, ck, ty, tm, tx, ln, rf, dg, dn, up rk4 p v, pl, iw, wd, wm, od, oc)]) C rfl rfl (by omega) dX8_laysRanks_100 rfl rfl ?_
            refine i_iinc (j := 2) (q := 104) (lv' := [(2, vI (p + 1)), (0, vP (am 0)), (1, vI x), (3, vI b), (4, vI (st ((14 * p) + 1)))]) C rfl (by decide) rfl dX8_laysRanks_101 rfl ?_
            refine i_goto (q := 2) C dX8_laysRanks_104 (by decide) ?_
            refine V.lv [1, 2, 0] rfl ?_
            exact ih_2 (p + 1) (up rk4 p v) (by omega) (by omega) (fun q g0 g1 => by
              by_cases e : q = p
              · subst e; rw [up_s]; exact hv2
              · rw [up_n _ _ e]; exact hv q g0 (by omega))
          refine i_if_eq (tgt := 68) (q := 55) C (by omega) dX8_laysRanks_52 (by decide) rfl (fun c_52 => ?_) (fun c_52 => ?_)
          · skip
            refine i_iload_n (j := 1) (q := 69) C rfl rfl dX8_laysRanks_68 rfl ?_
            refine i_if_eq (tgt := 98) (q := 72) C (by omega) dX8_laysRanks_69 (by decide) rfl (fun c_69 => ?_) (fun c_69 => ?_)
            · skip
              refine i_ldc (z := -100000) (q := 100) C (List.mem_of_getElem? (i := 3) rfl) dX8_laysRanks_98 rfl ?_
              refine V.lv [2, 3, 4, 1, 0] rfl ?_
              exact join_100 ((-100000)) (by
                unfold rkF
                first
                  | exact (if_pos ⟨by omega, h_60⟩).symm
                  | exact ((if_neg (fun z => h_60 z.2)).trans (if_pos ⟨by omega, by omega, h_81⟩)).symm
                  | exact ((if_neg (fun z => h_60 z.2)).trans (if_neg (fun z => h_81 z.2.2))).symm
                  | exact ((if_neg (fun z => h_60 z.2)).trans (if_neg (fun z => absurd z.2.1 (by omega)))).symm
                  | exact ((if_neg (fun z => absurd z.1 (by omega))).trans (if_neg (fun z => absurd z.1 (by omega)))).symm
                  | omega)
            · skip
              refine i_iload_n (j := 3) (q := 73) C rfl rfl dX8_laysRanks_72 rfl ?_
              refine i_if_eq (tgt := 98) (q := 76) C (by omega) dX8_laysRanks_73 (by decide) rfl (fun c_73 => ?_) (fun c_73 => ?_)
              · skip
                refine i_ldc (z := -100000) (q := 100) C (List.mem_of_getElem? (i := 3) rfl) dX8_laysRanks_98 rfl ?_
                refine V.lv [2, 3, 4, 1, 0] rfl ?_
                exact join_100 ((-100000)) (by
                  unfold rkF
                  first
                    | exact (if_pos ⟨by omega, h_60⟩).symm
                    | exact ((if_neg (fun z => h_60 z.2)).trans (if_pos ⟨by omega, by omega, h_81⟩)).symm
                    | exact ((if_neg (fun z => h_60 z.2)).trans (if_neg (fun z => h_81 z.2.2))).symm
                    | exact ((if_neg (fun z => h_60 z.2)).trans (if_neg (fun z => absurd z.2.1 (by omega)))).symm
                    | exact ((if_neg (fun z => absurd z.1 (by omega))).trans (if_neg (fun z => absurd z.1 (by omega)))).symm
                    | omega)
              · skip
                refine i_aload_n (j := 2) (q := 77) C rfl rfl dX8_laysRanks_76 rfl ?_
                refine i_iload_n (j := 4) (q := 78) C rfl rfl dX8_laysRanks_77 rfl ?_
                refine i_callV (wr := []) (As := [vI p]) (st := [vI p, vP (am 7)]) (i := 0) (j := 0) (q := 81) C (c_X8_isClose K l (am) (st) (bk) (un) (ck) (ty) (tm) (tx) (ln) (rf) (dg) (dn) (rk4) (pl) (iw) (wd) (wm) (od) (oc) (U) (p) (by first | assumption | omega) (by first | assumption | omega) (by first | assumption | omega) (by first | assumption | omega)) gX8_laysRanks_X8_isClose rfl hd_X8_isClose ⟨Nat.le_of_ble_eq_true rfl, Nat.le_of_ble_eq_true rfl⟩ ⟨rfl, rfl⟩ ⟨Nat.le_of_ble_eq_true rfl, Nat.le_of_ble_eq_true rfl⟩ (permBy [0] (by decide) rfl rfl) rfl rfl rfl rfl (Nat.le_of_ble_eq_true rfl) dX8_laysRanks_78 rfl (fun v w hq => ?_)
                obtain ⟨rfl, rfl⟩ := hq
                show V X 0 0 81 [(4, vI (st ((14 * p) + 1))), (3, vI b), (0, vP (am 0)), (1, vI x), (2, vI p)] [vI (if clo (rg ty tm) (lt st p) = true then 1 else 0), vI p, vP (am 7)] [mdW am (st, bk, un, ck, ty, tm, tx, ln, rf, dg, dn, rk4, pl, iw, wd, wm, od, oc)]
                refine i_if_eq (tgt := 98) (q := 84) C (if01) dX8_laysRanks_81 (by decide) rfl (fun c_81 => ?_) (fun c_81 => ?_)
                · skip
                  have h_81 := if0 c_81
                  refine i_ldc (z := -100000) (q := 100) C (List.mem_of_getElem? (i := 3) rfl) dX8_laysRanks_98 rfl ?_
                  refine V.lv [2, 3, 4, 1, 0] rfl ?_
                  exact join_100 ((-100000)) (by
                    unfold rkF
                    first
                      | exact (if_pos ⟨by omega, h_60⟩).symm
                      | exact ((if_neg (fun z => h_60 z.2)).trans (if_pos ⟨by omega, by omega, h_81⟩)).symm
                      | exact ((if_neg (fun z => h_60 z.2)).trans (if_neg (fun z => h_81 z.2.2))).symm
                      | exact ((if_neg (fun z => h_60 z.2)).trans (if_neg (fun z => absurd z.2.1 (by omega)))).symm
                      | exact ((if_neg (fun z => absurd z.1 (by omega))).trans (if_neg (fun z => absurd z.1 (by omega)))).symm
                      | omega)
                · skip
                  have h_81 := ifn0 c_81
                  refine i_iload (j := 0) (q := 86) C rfl dX8_laysRanks_84 rfl ?_
                  refine i_aload_n (j := 2) (q := 87) C rfl rfl dX8_laysRanks_86 rfl ?_
                  refine i_get (i := 0) (j := 0) (f := 0) (q := 90) C rfl rfl rfl hi_X8_laysRanks_X8 (by decide) lk_X8_laysRanks_7 rfl dX8_laysRanks_87 rfl ?_
                  refine i_sipush (q := 93) C (by decide) dX8_laysRanks_90 rfl ?_
                  refine i_iald (i := 0) (j := 1) (q := 94) C rfl rfl (by omega) dX8_laysRanks_93 rfl ?_
                  have ld_93 := hs.sl
                  refine i_isub (q := 95) C dX8_laysRanks_94 rfl ?_
                  refine i_goto (q := 100) C dX8_laysRanks_95 (by decide) ?_
                  refine V.lv [2, 3, 4, 1, 0] rfl ?_
                  exact join_100 ((st ((14 * p) + 1)) - (st 2802)) (by
                    unfold rkF
                    first
                      | exact (if_pos ⟨by omega, h_60⟩).symm
                      | exact ((if_neg (fun z => h_60 z.2)).trans (if_pos ⟨by omega, by omega, h_81⟩)).symm
                      | exact ((if_neg (fun z => h_60 z.2)).trans (if_neg (fun z => h_81 z.2.2))).symm
                      | exact ((if_neg (fun z => h_60 z.2)).trans (if_neg (fun z => absurd z.2.1 (by omega)))).symm
                      | exact ((if_neg (fun z => absurd z.1 (by omega))).trans (if_neg (fun z => absurd z.1 (by omega)))).symm
                      | omega)
          · skip
            refine i_aload_n (j := 2) (q := 56) C rfl rfl dX8_laysRanks_55 rfl ?_
            refine i_iload_n (j := 4) (q := 57) C rfl rfl dX8_laysRanks_56 rfl ?_
            refine i_callV (wr := []) (As := [vI p]) (st := [vI p, vP (am 7)]) (i := 0) (j := 0) (q := 60) C (c_X8_begins K l (am) (st) (bk) (un) (ck) (ty) (tm) (tx) (ln) (rf) (dg) (dn) (rk4) (pl) (iw) (wd) (wm) (od) (oc) (U) (p) (by first | assumption | omega) (by first | assumption | omega) (by first | assumption | omega) (by first | assumption | omega)) gX8_laysRanks_X8_begins rfl hd_X8_begins ⟨Nat.le_of_ble_eq_true rfl, Nat.le_of_ble_eq_true rfl⟩ ⟨rfl, rfl⟩ ⟨Nat.le_of_ble_eq_true rfl, Nat.le_of_ble_eq_true rfl⟩ (permBy [0] (by decide) rfl rfl) rfl rfl rfl rfl (Nat.le_of_ble_eq_true rfl) dX8_laysRanks_57 rfl (fun v w hq => ?_)
            obtain ⟨rfl, rfl⟩ := hq
            show V X 0 0 60 [(4, vI (st ((14 * p) + 1))), (3, vI b), (0, vP (am 0)), (1, vI x), (2, vI p)] [vI (if bgs (rg ty tm) (lt st p) = true then 1 else 0), vI p, vP (am 7)] [mdW am (st, bk, un, ck, ty, tm, tx, ln, rf, dg, dn, rk4, pl, iw, wd, wm, od, oc)]
            refine i_if_eq (tgt := 68) (q := 63) C (if01) dX8_laysRanks_60 (by decide) rfl (fun c_60 => ?_) (fun c_60 => ?_)
            · skip
              have h_60 := if0 c_60
              refine i_iload_n (j := 1) (q := 69) C rfl rfl dX8_laysRanks_68 rfl ?_
              refine i_if_eq (tgt := 98) (q := 72) C (by omega) dX8_laysRanks_69 (by decide) rfl (fun c_69 => ?_) (fun c_69 => ?_)
              · skip
                refine i_ldc (z := -100000) (q := 100) C (List.mem_of_getElem? (i := 3) rfl) dX8_laysRanks_98 rfl ?_
                refine V.lv [2, 3, 4, 1, 0] rfl ?_
                exact join_100 ((-100000)) (by
                  unfold rkF
                  first
                    | exact (if_pos ⟨by omega, h_60⟩).symm
                    | exact ((if_neg (fun z => h_60 z.2)).trans (if_pos ⟨by omega, by omega, h_81⟩)).symm
                    | exact ((if_neg (fun z => h_60 z.2)).trans (if_neg (fun z => h_81 z.2.2))).symm
                    | exact ((if_neg (fun z => h_60 z.2)).trans (if_neg (fun z => absurd z.2.1 (by omega)))).symm
                    | exact ((if_neg (fun z => absurd z.1 (by omega))).trans (if_neg (fun z => absurd z.1 (by omega)))).symm
                    | omega)
              · skip
                refine i_iload_n (j := 3) (q := 73) C rfl rfl dX8_laysRanks_72 rfl ?_
                refine i_if_eq (tgt := 98) (q := 76) C (by omega) dX8_laysRanks_73 (by decide) rfl (fun c_73 => ?_) (fun c_73 => ?_)
                · skip
                  refine i_ldc (z := -100000) (q := 100) C (List.mem_of_getElem? (i := 3) rfl) dX8_laysRanks_98 rfl ?_
                  refine V.lv [2, 3, 4, 1, 0] rfl ?_
                  exact join_100 ((-100000)) (by
                    unfold rkF
                    first
                      | exact (if_pos ⟨by omega, h_60⟩).symm
                      | exact ((if_neg (fun z => h_60 z.2)).trans (if_pos ⟨by omega, by omega, h_81⟩)).symm
                      | exact ((if_neg (fun z => h_60 z.2)).trans (if_neg (fun z => h_81 z.2.2))).symm
                      | exact ((if_neg (fun z => h_60 z.2)).trans (if_neg (fun z => absurd z.2.1 (by omega)))).symm
                      | exact ((if_neg (fun z => absurd z.1 (by omega))).trans (if_neg (fun z => absurd z.1 (by omega)))).symm
                      | omega)
                · skip
                  refine i_aload_n (j := 2) (q := 77) C rfl rfl dX8_laysRanks_76 rfl ?_
                  refine i_iload_n (j := 4) (q := 78) C rfl rfl dX8_laysRanks_77 rfl ?_
                  refine i_callV (wr := []) (As := [vI p]) (st := [vI p, vP (am 7)]) (i := 0) (j := 0) (q := 81) C (c_X8_isClose K l (am) (st) (bk) (un) (ck) (ty) (tm) (tx) (ln) (rf) (dg) (dn) (rk4) (pl) (iw) (wd) (wm) (od) (oc) (U) (p) (by first | assumption | omega) (by first | assumption | omega) (by first | assumption | omega) (by first | assumption | omega)) gX8_laysRanks_X8_isClose rfl hd_X8_isClose ⟨Nat.le_of_ble_eq_true rfl, Nat.le_of_ble_eq_true rfl⟩ ⟨rfl, rfl⟩ ⟨Nat.le_of_ble_eq_true rfl, Nat.le_of_ble_eq_true rfl⟩ (permBy [0] (by decide) rfl rfl) rfl rfl rfl rfl (Nat.le_of_ble_eq_true rfl) dX8_laysRanks_78 rfl (fun v w hq => ?_)
                  obtain ⟨rfl, rfl⟩ := hq
                  show V X 0 0 81 [(4, vI (st ((14 * p) + 1))), (3, vI b), (0, vP (am 0)), (1, vI x), (2, vI p)] [vI (if clo (rg ty tm) (lt st p) = true then 1 else 0), vI p, vP (am 7)] [mdW am (st, bk, un, ck, ty, tm, tx, ln, rf, dg, dn, rk4, pl, iw, wd, wm, od, oc)]
                  refine i_if_eq (tgt := 98) (q := 84) C (if01) dX8_laysRanks_81 (by decide) rfl (fun c_81 => ?_) (fun c_81 => ?_)
                  · skip
                    have h_81 := if0 c_81
                    refine i_ldc (z := -100000) (q := 100) C (List.mem_of_getElem? (i := 3) rfl) dX8_laysRanks_98 rfl ?_
                    refine V.lv [2, 3, 4, 1, 0] rfl ?_
                    exact join_100 ((-100000)) (by
                      unfold rkF
                      first
                        | exact (if_pos ⟨by omega, h_60⟩).symm
                        | exact ((if_neg (fun z => h_60 z.2)).trans (if_pos ⟨by omega, by omega, h_81⟩)).symm
                        | exact ((if_neg (fun z => h_60 z.2)).trans (if_neg (fun z => h_81 z.2.2))).symm
                        | exact ((if_neg (fun z => h_60 z.2)).trans (if_neg (fun z => absurd z.2.1 (by omega)))).symm
                        | exact ((if_neg (fun z => absurd z.1 (by omega))).trans (if_neg (fun z => absurd z.1 (by omega)))).symm
                        | omega)
                  · skip
                    have h_81 := ifn0 c_81
                    refine i_iload (j := 0) (q := 86) C rfl dX8_laysRanks_84 rfl ?_
                    refine i_aload_n (j := 2) (q := 87) C rfl rfl dX8_laysRanks_86 rfl ?_
                    refine i_get (i := 0) (j := 0) (f := 0) (q := 90) C rfl rfl rfl hi_X8_laysRanks_X8 (by decide) lk_X8_laysRanks_7 rfl dX8_laysRanks_87 rfl ?_
                    refine i_sipush (q := 93) C (by decide) dX8_laysRanks_90 rfl ?_
                    refine i_iald (i := 0) (j := 1) (q := 94) C rfl rfl (by omega) dX8_laysRanks_93 rfl ?_
                    have ld_93 := hs.sl
                    refine i_isub (q := 95) C dX8_laysRanks_94 rfl ?_
                    refine i_goto (q := 100) C dX8_laysRanks_95 (by decide) ?_
                    refine V.lv [2, 3, 4, 1, 0] rfl ?_
                    exact join_100 ((st ((14 * p) + 1)) - (st 2802)) (by
                      unfold rkF
                      first
                        | exact (if_pos ⟨by omega, h_60⟩).symm
                        | exact ((if_neg (fun z => h_60 z.2)).trans (if_pos ⟨by omega, by omega, h_81⟩)).symm
                        | exact ((if_neg (fun z => h_60 z.2)).trans (if_neg (fun z => h_81 z.2.2))).symm
                        | exact ((if_neg (fun z => h_60 z.2)).trans (if_neg (fun z => absurd z.2.1 (by omega)))).symm
                        | exact ((if_neg (fun z => absurd z.1 (by omega))).trans (if_neg (fun z => absurd z.1 (by omega)))).symm
                        | omega)
            · skip
              have h_60 := ifn0 c_60
              refine i_iload (j := 0) (q := 65) C rfl dX8_laysRanks_63 rfl ?_
              refine i_goto (q := 100) C dX8_laysRanks_65 (by decide) ?_
              refine V.lv [2, 3, 4, 1, 0] rfl ?_
              exact join_100 (st ((14 * p) + 1)) (by
                unfold rkF
                first
                  | exact (if_pos ⟨by omega, h_60⟩).symm
                  | exact ((if_neg (fun z => h_60 z.2)).trans (if_pos ⟨by omega, by omega, h_81⟩)).symm
                  | exact ((if_neg (fun z => h_60 z.2)).trans (if_neg (fun z => h_81 z.2.2))).symm
                  | exact ((if_neg (fun z => h_60 z.2)).trans (if_neg (fun z => absurd z.2.1 (by omega)))).symm
                  | exact ((if_neg (fun z => absurd z.1 (by omega))).trans (if_neg (fun z => absurd z.1 (by omega)))).symm
                  | omega)
        refine i_aload_n (j := 0) (q := 15) C rfl rfl dX8_laysRanks_14 rfl ?_
        refine i_get (i := 0) (j := 0) (f := 0) (q := 18) C rfl rfl rfl hi_X8_laysRanks_X8 (by decide) lk_X8_laysRanks_7 rfl dX8_laysRanks_15 rfl ?_
        refine i_bipush (q := 20) C (by decide) dX8_laysRanks_18 rfl ?_
        refine i_iload_n (j := 2) (q := 21) C rfl rfl dX8_laysRanks_20 rfl ?_
        refine i_imul (q := 22) C dX8_laysRanks_21 rfl ?_
        refine i_iald (i := 0) (j := 1) (q := 23) C rfl rfl (by omega) dX8_laysRanks_22 rfl ?_
        have ld_22 := hs.k0 p (by omega) (by omega)
        refine i_iconst (q := 24) C dX8_laysRanks_23 rfl ?_
        refine i_icmp_ne (tgt := 31) (q := 27) C (by omega) (by omega) dX8_laysRanks_24 (by decide) rfl (fun c_24 => ?_) (fun c_24 => ?_)
        · skip
          refine i_iconst (q := 32) C dX8_laysRanks_31 rfl ?_
          exact join_32 (0) (by first | exact Or.inl ⟨rfl, c_24⟩ | exact Or.inr ⟨rfl, c_24⟩)
        · skip
          refine i_iconst (q := 28) C dX8_laysRanks_27 rfl ?_
          refine i_goto (q := 32) C dX8_laysRanks_28 (by decide) ?_
          exact join_32 (1) (by first | exact Or.inl ⟨rfl, c_24⟩ | exact Or.inr ⟨rfl, c_24⟩)
  refine V.lv [1, 2, 0] rfl ?_
  exact loop_2 _ (0) (rk) (Nat.lt_succ_self _) (by omega) (fun q _ _ => by omega)

theorem hd_X8_laysRanks : yX8_laysRanks.cls = RX8 ∧ yX8_laysRanks.cls ≠ "java/lang/invoke/MethodHandle" ∧ yX8_laysRanks.cls ≠ "java/lang/invoke/VarHandle" ∧ (parseMethodDescriptor yX8_laysRanks.desc).map (fun d => d.parameters.length) = some 1 := by decide +kernel
theorem hd_X8_inOrder : yX8_inOrder.cls = RX8 ∧ yX8_inOrder.cls ≠ "java/lang/invoke/MethodHandle" ∧ yX8_inOrder.cls ≠ "java/lang/invoke/VarHandle" ∧ (parseMethodDescriptor yX8_inOrder.desc).map (fun d => d.parameters.length) = some 1 := by decide +kernel
set_option maxHeartbeats 400000 in
set_option maxRecDepth 100000 in
theorem c_X8_best (K : KT) (l : Launch) (am : Nat → Nat) (st : Int → Int) (bk : Int → Int) (un : Int) (ck : Int) (ty : Int → Int) (tm : Int) (tx : Int → Int) (ln : Int) (rf : Int → Int) (dg : Int) (dn : Int → Int) (rk : Int → Int) (pl : Int) (iw : Int) (wd : Int → Int) (wm : Int) (od : Int → Int) (oc : Int) (N : Int) (x : Int) (hm : okM N st bk un ck ty tm tx ln rf) (hN : N < 512) (hx : rI x) : Mt K l yX8_best wsX8_best ({ frames := 3, cells := 0, slots := 0, locals := 74 }) [vP (am 0), vI x] [mdW am (st, bk, un, ck, ty, tm, tx, ln, rf, dg, dn, rk, pl, iw, wd, wm, od, oc)] 0 0 (fun v w => ∃ rf3 : Int → Int, ∃ rk3 : Int → Int, v = some (vI ((sp_best 0 x (absM st bk un ck ty tm tx ln rf)).1)) ∧ w = [mdW am (st, bk, un, ck, ty, tm, tx, ln, rf3, dg, dn, rk3, pl, iw, wd, wm, od, oc)] ∧ (absM st bk un ck ty tm tx ln rf3 = (sp_best 0 x (absM st bk un ck ty tm tx ln rf)).2) ∧ (okM (N + 1) st bk un ck ty tm tx ln rf3)) := by
  refine Mt.of (own := RX8) (cc := cX8_best) (maxL := 2) (ret := (some .int)) (lv0 := [(0, vP (am 0)), (1, vI x)]) (by decide) rfl rfl (Nat.le_of_ble_eq_true rfl) rfl (fun X C hR hNm => ?_)
  have hs := hm.hs
  have hgv := hs.gv
  have hN0 := hm.hN
  have hH := hm.hH
  have hck := hm.hck
  have htm := hm.htm
  have hln := hm.hln
  have hun := hH.1
  have hty := hm.hty
  refine i_iload_n (j := 1) (q := 1) C rfl rfl dX8_best_0 rfl ?_
  refine i_iconst (q := 2) C dX8_best_1 rfl ?_
  refine i_icmp_ge (tgt := 13) (q := 5) C (by omega) (by omega) dX8_best_2 (by decide) rfl (fun c_2 => ?_) (fun c_2 => ?_)
  · skip
    refine i_aload_n (j := 0) (q := 14) C rfl rfl dX8_best_13 rfl ?_
    refine i_iconst (q := 15) C dX8_best_14 rfl ?_
    refine i_callV (wr := []) (As := [vI 0]) (st := []) (i := 0) (j := 0) (q := 18) C (c_X8_laysRanks K l (am) (st) (bk) (un) (ck) (ty) (tm) (tx) (ln) (rf) (dg) (dn) (rk) (pl) (iw) (wd) (wm) (od) (oc) (24 * N) (0) (by first | assumption | omega) (by first | assumption | omega) (by first | assumption | omega) (by first | assumption | omega)) gX8_best_X8_laysRanks rfl hd_X8_laysRanks ⟨Nat.le_of_ble_eq_true rfl, Nat.le_of_ble_eq_true rfl⟩ ⟨rfl, rfl⟩ ⟨Nat.le_of_ble_eq_true rfl, Nat.le_of_ble_eq_true rfl⟩ (permBy [0] (by decide) rfl rfl) rfl rfl rfl rfl (Nat.le_of_ble_eq_true rfl) dX8_best_15 rfl (fun v w hq => ?_)
    obtain ⟨rk3_15, rfl, rfl, hr_15⟩ := hq
    show V X 0 0 18 [(0, vP (am 0)), (1, vI x)] [] [mdW am (st, bk, un, ck, ty, tm, tx, ln, rf, dg, dn, rk3_15, pl, iw, wd, wm, od, oc)]
    refine i_aload_n (j := 0) (q := 19) C rfl rfl dX8_best_18 rfl ?_
    refine i_iload_n (j := 1) (q := 20) C rfl rfl dX8_best_19 rfl ?_
    refine i_callV (wr := []) (As := [vI x]) (st := []) (i := 0) (j := 0) (q := 23) C (c_X8_inOrder K l (am) (st) (bk) (un) (ck) (ty) (tm) (tx) (ln) (rf) (dg) (dn) (rk3_15) (pl) (iw) (wd) (wm) (od) (oc) (24 * N) (x) (by first | assumption | omega) (fun q g0 g1 => by
      rw [hr_15 q g0 g1]
      have k1 := hs.k1 q g0 g1
      have sl := hs.sl
      unfold rkF
      split
      · omega
      · split <;> omega) (by first | assumption | omega)) gX8_best_X8_inOrder rfl hd_X8_inOrder ⟨Nat.le_of_ble_eq_true rfl, Nat.le_of_ble_eq_true rfl⟩ ⟨rfl, rfl⟩ ⟨Nat.le_of_ble_eq_true rfl, Nat.le_of_ble_eq_true rfl⟩ (permBy [0] (by decide) rfl rfl) rfl rfl rfl rfl (Nat.le_of_ble_eq_true rfl) dX8_best_20 rfl (fun v w hq => ?_)
    obtain ⟨rfl, rfl⟩ := hq
    show V X 0 0 23 [(0, vP (am 0)), (1, vI x)] [vI (bst (rkl st rk3_15 (st 2800).toNat) x)] [mdW am (st, bk, un, ck, ty, tm, tx, ln, rf, dg, dn, rk3_15, pl, iw, wd, wm, od, oc)]
    refine i_iret C hR dX8_best_23 ?_
    have hsp : (sp_best 0 x (absM st bk un ck ty tm tx ln rf)) = (bst (rkl st rk3_15 (st 2800).toNat) x, absM st bk un ck ty tm tx ln rf) := by
      unfold absM
      simp only [sp_best]
      rw [if_neg (by omega), rkl_rks hs hr_15]
    exact ⟨rf, rk3_15, by rw [hsp], rfl, by rw [hsp] <;> exact rfl, hm.s hN⟩
  · skip
    refine i_aload_n (j := 0) (q := 6) C rfl rfl dX8_best_5 rfl ?_
    refine i_callV (wr := []) (As := []) (st := []) (i := 0) (j := 0) (q := 9) C (c_X8_bad K l (am) (st) (bk) (un) (ck) (ty) (tm) (tx) (ln) (rf) (dg) (dn) (rk) (pl) (iw) (wd) (wm) (od) (oc) ) gX8_best_X8_bad rfl hd_X8_bad ⟨Nat.le_of_ble_eq_true rfl, Nat.le_of_ble_eq_true rfl⟩ ⟨rfl, rfl⟩ ⟨Nat.le_of_ble_eq_true rfl, Nat.le_of_ble_eq_true rfl⟩ (permBy [0] (by decide) rfl rfl) rfl rfl rfl rfl (Nat.le_of_ble_eq_true rfl) dX8_best_6 rfl (fun v w hq => ?_)
    obtain ⟨rfl, rfl⟩ := hq
    show V X 0 0 9 [(0, vP (am 0)), (1, vI x)] [vI (-2)] [mdW am (st, bk, un, ck, ty, tm, tx, ln, up rf 0 (rf 0 + 1), dg, dn, rk, pl, iw, wd, wm, od, oc)]
    refine i_pop (q := 10) C rfl dX8_best_9 rfl ?_
    refine i_bipush (q := 12) C (by decide) dX8_best_10 rfl ?_
    refine i_iret C hR dX8_best_12 ?_
    have hsp : (sp_best 0 x (absM st bk un ck ty tm tx ln rf)) = (-10, aBad (absM st bk un ck ty tm tx ln rf)) := by
      unfold absM
      simp only [sp_best]
      rw [if_pos (by omega)]
    exact ⟨up rf 0 (rf 0 + 1), rk, by rw [hsp], rfl, by rw [hsp] <;> exact absM_bad, okM_bad hm hN⟩

set_option maxHeartbeats 400000 in
set_option maxRecDepth 100000 in
theorem c_X8_near (K : KT) (l : Launch) (am : Nat → Nat) (st : Int → Int) (bk : Int → Int) (un : Int) (ck : Int) (ty : Int → Int) (tm : Int) (tx : Int → Int) (ln : Int) (rf : Int → Int) (dg : Int) (dn : Int → Int) (rk : Int → Int) (pl : Int) (iw : Int) (wd : Int → Int) (wm : Int) (od : Int → Int) (oc : Int) (N : Int) (x : Int) (hm : okM N st bk un ck ty tm tx ln rf) (hN : N < 512) (hx : rI x) : Mt K l yX8_near wsX8_near ({ frames := 3, cells := 0, slots := 0, locals := 74 }) [vP (am 0), vI x] [mdW am (st, bk, un, ck, ty, tm, tx, ln, rf, dg, dn, rk, pl, iw, wd, wm, od, oc)] 0 0 (fun v w => ∃ rf3 : Int → Int, ∃ rk3 : Int → Int, v = some (vI ((sp_best 1 x (absM st bk un ck ty tm tx ln rf)).1)) ∧ w = [mdW am (st, bk, un, ck, ty, tm, tx, ln, rf3, dg, dn, rk3, pl, iw, wd, wm, od, oc)] ∧ (absM st bk un ck ty tm tx ln rf3 = (sp_best 1 x (absM st bk un ck ty tm tx ln rf)).2) ∧ (okM (N + 1) st bk un ck ty tm tx ln rf3)) := by
  refine Mt.of (own := RX8) (cc := cX8_near) (maxL := 2) (ret := (some .int)) (lv0 := [(0, vP (am 0)), (1, vI x)]) (by decide) rfl rfl (Nat.le_of_ble_eq_true rfl) rfl (fun X C hR hNm => ?_)
  have hs := hm.hs
  have hgv := hs.gv
  have hN0 := hm.hN
  have hH := hm.hH
  have hck := hm.hck
  have htm := hm.htm
  have hln := hm.hln
  have hun := hH.1
  have hty := hm.hty
  refine i_iload_n (j := 1) (q := 1) C rfl rfl dX8_near_0 rfl ?_
  refine i_iconst (q := 2) C dX8_near_1 rfl ?_
  refine i_icmp_ge (tgt := 13) (q := 5) C (by omega) (by omega) dX8_near_2 (by decide) rfl (fun c_2 => ?_) (fun c_2 => ?_)
  · skip
    refine i_aload_n (j := 0) (q := 14) C rfl rfl dX8_near_13 rfl ?_
    refine i_iconst (q := 15) C dX8_near_14 rfl ?_
    refine i_callV (wr := []) (As := [vI 1]) (st := []) (i := 0) (j := 0) (q := 18) C (c_X8_laysRanks K l (am) (st) (bk) (un) (ck) (ty) (tm) (tx) (ln) (rf) (dg) (dn) (rk) (pl) (iw) (wd) (wm) (od) (oc) (24 * N) (1) (by first | assumption | omega) (by first | assumption | omega) (by first | assumption | omega) (by first | assumption | omega)) gX8_near_X8_laysRanks rfl hd_X8_laysRanks ⟨Nat.le_of_ble_eq_true rfl, Nat.le_of_ble_eq_true rfl⟩ ⟨rfl, rfl⟩ ⟨Nat.le_of_ble_eq_true rfl, Nat.le_of_ble_eq_true rfl⟩ (permBy [0] (by decide) rfl rfl) rfl rfl rfl rfl (Nat.le_of_ble_eq_true rfl) dX8_near_15 rfl (fun v w hq => ?_)
    obtain ⟨rk3_15, rfl, rfl, hr_15⟩ := hq
    show V X 0 0 18 [(0, vP (am 0)), (1, vI x)] [] [mdW am (st, bk, un, ck, ty, tm, tx, ln, rf, dg, dn, rk3_15, pl, iw, wd, wm, od, oc)]
    refine i_aload_n (j := 0) (q := 19) C rfl rfl dX8_near_18 rfl ?_
    refine i_iload_n (j := 1) (q := 20) C rfl rfl dX8_near_19 rfl ?_
    refine i_callV (wr := []) (As := [vI x]) (st := []) (i := 0) (j := 0) (q := 23) C (c_X8_inOrder K l (am) (st) (bk) (un) (ck) (ty) (tm) (tx) (ln) (rf) (dg) (dn) (rk3_15) (pl) (iw) (wd) (wm) (od) (oc) (24 * N) (x) (by first | assumption | omega) (fun q g0 g1 => by
      rw [hr_15 q g0 g1]
      have k1 := hs.k1 q g0 g1
      have sl := hs.sl
      unfold rkF
      split
      · omega
      · split <;> omega) (by first | assumption | omega)) gX8_near_X8_inOrder rfl hd_X8_inOrder ⟨Nat.le_of_ble_eq_true rfl, Nat.le_of_ble_eq_true rfl⟩ ⟨rfl, rfl⟩ ⟨Nat.le_of_ble_eq_true rfl, Nat.le_of_ble_eq_true rfl⟩ (permBy [0] (by decide) rfl rfl) rfl rfl rfl rfl (Nat.le_of_ble_eq_true rfl) dX8_near_20 rfl (fun v w hq => ?_)
    obtain ⟨rfl, rfl⟩ := hq
    show V X 0 0 23 [(0, vP (am 0)), (1, vI x)] [vI (bst (rkl st rk3_15 (st 2800).toNat) x)] [mdW am (st, bk, un, ck, ty, tm, tx, ln, rf, dg, dn, rk3_15, pl, iw, wd, wm, od, oc)]
    refine i_iret C hR dX8_near_23 ?_
    have hsp : (sp_best 1 x (absM st bk un ck ty tm tx ln rf)) = (bst (rkl st rk3_15 (st 2800).toNat) x, absM st bk un ck ty tm tx ln rf) := by
      unfold absM
      simp only [sp_best]
      rw [if_neg (by omega), rkl_rks hs hr_15]
    exact ⟨rf, rk3_15, by rw [hsp], rfl, by rw [hsp] <;> exact rfl, hm.s hN⟩
  · skip
    refine i_aload_n (j := 0) (q := 6) C rfl rfl dX8_near_5 rfl ?_
    refine i_callV (wr := []) (As := []) (st := []) (i := 0) (j := 0) (q := 9) C (c_X8_bad K l (am) (st) (bk) (un) (ck) (ty) (tm) (tx) (ln) (rf) (dg) (dn) (rk) (pl) (iw) (wd) (wm) (od) (oc) ) gX8_near_X8_bad rfl hd_X8_bad ⟨Nat.le_of_ble_eq_true rfl, Nat.le_of_ble_eq_true rfl⟩ ⟨rfl, rfl⟩ ⟨Nat.le_of_ble_eq_true rfl, Nat.le_of_ble_eq_true rfl⟩ (permBy [0] (by decide) rfl rfl) rfl rfl rfl rfl (Nat.le_of_ble_eq_true rfl) dX8_near_6 rfl (fun v w hq => ?_)
    obtain ⟨rfl, rfl⟩ := hq
    show V X 0 0 9 [(0, vP (am 0)), (1, vI x)] [vI (-2)] [mdW am (st, bk, un, ck, ty, tm, tx, ln, up rf 0 (rf 0 + 1), dg, dn, rk, pl, iw, wd, wm, od, oc)]
    refine i_pop (q := 10) C rfl dX8_near_9 rfl ?_
    refine i_bipush (q := 12) C (by decide) dX8_near_10 rfl ?_
    refine i_iret C hR dX8_near_12 ?_
    have hsp : (sp_best 1 x (absM st bk un ck ty tm tx ln rf)) = (-10, aBad (absM st bk un ck ty tm tx ln rf)) := by
      unfold absM
      simp only [sp_best]
      rw [if_pos (by omega)]
    exact ⟨up rf 0 (rf 0 + 1), rk, by rw [hsp], rfl, by rw [hsp] <;> exact absM_bad, okM_bad hm hN⟩
