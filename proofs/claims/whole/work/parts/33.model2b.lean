theorem lk_X8_scoreBy_7 : Cond.fieldLink RX8 7 (TX8 0).1 (TX8 0).2.1 (TX8 0).2.2.1 ∈ wsX8_scoreBy := List.mem_of_getElem? (i := 1) rfl
theorem hi_X8_scoreBy_X8 : ∀ w ∈ u_ws RX8 TX8 18, w ∈ wsX8_scoreBy := by decide +kernel
theorem hd_X8_held : yX8_held.cls ≠ "java/lang/invoke/MethodHandle" ∧ yX8_held.cls ≠ "java/lang/invoke/VarHandle" ∧ (parseMethodDescriptor yX8_held.desc).map (fun d => d.parameters.length) = some 1 := by decide +kernel
set_option maxHeartbeats 400000 in
set_option maxRecDepth 100000 in
theorem c_X8_scoreBy (K : KT) (l : Launch) (am : Nat → Nat) (st : Int → Int) (bk : Int → Int) (un : Int) (ck : Int) (ty : Int → Int) (tm : Int) (tx : Int → Int) (ln : Int) (rf : Int → Int) (dg : Int) (dn : Int → Int) (rk : Int → Int) (pl : Int) (iw : Int) (wd : Int → Int) (wm : Int) (od : Int → Int) (oc : Int) (U : Int) (x : Int) (p : Int) (t : Int) (hs : okS U st) (hx : 0 ≤ x ∧ x ≤ 4) (hp : 0 ≤ p ∧ p < st 2800) (ht : 0 ≤ t ∧ t ≤ 9999) : Mt K l yX8_scoreBy wsX8_scoreBy ({ frames := 1, cells := 0, slots := 0, locals := 20 }) [vP (am 0), vI x, vI p, vI t] [mdW am (st, bk, un, ck, ty, tm, tx, ln, rf, dg, dn, rk, pl, iw, wd, wm, od, oc)] 0 0 (fun v w => v = some (vI (nsc x (st (14 * p + 1)) (st (14 * p + 4)) (st (14 * p + 5)) t)) ∧ w = [mdW am (st, bk, un, ck, ty, tm, tx, ln, rf, dg, dn, rk, pl, iw, wd, wm, od, oc)]) := by
  refine Mt.of (own := RX8) (cc := cX8_scoreBy) (maxL := 9) (ret := (some .int)) (lv0 := [(0, vP (am 0)), (1, vI x), (2, vI p), (3, vI t)]) (by decide) rfl rfl (Nat.le_of_ble_eq_true rfl) rfl (fun X C hR hN => ?_)
  have hgv := hs.gv
  refine i_aload_n (j := 0) (q := 1) C rfl rfl dX8_scoreBy_0 rfl ?_
  refine i_get (i := 0) (j := 0) (f := 0) (q := 4) C rfl rfl rfl hi_X8_scoreBy_X8 (by decide) lk_X8_scoreBy_7 rfl dX8_scoreBy_1 rfl ?_
  refine i_bipush (q := 6) C (by decide) dX8_scoreBy_4 rfl ?_
  refine i_iload_n (j := 2) (q := 7) C rfl rfl dX8_scoreBy_6 rfl ?_
  refine i_imul (q := 8) C dX8_scoreBy_7 rfl ?_
  refine i_iconst (q := 9) C dX8_scoreBy_8 rfl ?_
  refine i_iadd (q := 10) C dX8_scoreBy_9 rfl ?_
  refine i_iald (i := 0) (j := 1) (q := 11) C rfl rfl (by omega) dX8_scoreBy_10 rfl ?_
  have ld_10 := hs.k1 p (by omega) (by omega)
  refine i_istore (q := 13) (lv' := [(4, vI (st ((14 * p) + 1))), (0, vP (am 0)), (1, vI x), (2, vI p), (3, vI t)]) C (by decide) rfl dX8_scoreBy_11 rfl ?_
  refine i_iload (j := 0) (q := 15) C rfl dX8_scoreBy_13 rfl ?_
  refine i_bipush (q := 17) C (by decide) dX8_scoreBy_15 rfl ?_
  refine i_iadd (q := 18) C dX8_scoreBy_17 rfl ?_
  refine i_callS (wr := [mdW am (st, bk, un, ck, ty, tm, tx, ln, rf, dg, dn, rk, pl, iw, wd, wm, od, oc)]) (As := [vI ((st ((14 * p) + 1)) + 10)]) (st := []) (q := 21) C (c_X8_held K l ((st ((14 * p) + 1)) + 10) (by first | assumption | omega)) gX8_scoreBy_X8_held rfl hd_X8_held ⟨Nat.le_of_ble_eq_true rfl, Nat.le_of_ble_eq_true rfl⟩ ⟨rfl, rfl⟩ ⟨Nat.le_of_ble_eq_true rfl, Nat.le_of_ble_eq_true rfl⟩ (permBy [0] (by decide) rfl rfl) rfl (Nat.le_of_ble_eq_true rfl) dX8_scoreBy_18 rfl (fun v w hq => ?_)
  obtain ⟨rfl, rfl, hh_18⟩ := hq
  show V X 0 0 21 [(4, vI (st ((14 * p) + 1))), (0, vP (am 0)), (1, vI x), (2, vI p), (3, vI t)] [vI (hld ((st ((14 * p) + 1)) + 10))] [mdW am (st, bk, un, ck, ty, tm, tx, ln, rf, dg, dn, rk, pl, iw, wd, wm, od, oc)]
  refine i_istore (q := 23) (lv' := [(5, vI (hld ((st ((14 * p) + 1)) + 10))), (4, vI (st ((14 * p) + 1))), (0, vP (am 0)), (1, vI x), (2, vI p), (3, vI t)]) C (by decide) rfl dX8_scoreBy_21 rfl ?_
  refine i_aload_n (j := 2) (q := 24) C rfl rfl dX8_scoreBy_23 rfl ?_
  refine i_get (i := 0) (j := 0) (f := 0) (q := 27) C rfl rfl rfl hi_X8_scoreBy_X8 (by decide) lk_X8_scoreBy_7 rfl dX8_scoreBy_24 rfl ?_
  refine i_bipush (q := 29) C (by decide) dX8_scoreBy_27 rfl ?_
  refine i_iload_n (j := 4) (q := 30) C rfl rfl dX8_scoreBy_29 rfl ?_
  refine i_imul (q := 31) C dX8_scoreBy_30 rfl ?_
  refine i_iconst (q := 32) C dX8_scoreBy_31 rfl ?_
  refine i_iadd (q := 33) C dX8_scoreBy_32 rfl ?_
  refine i_iald (i := 0) (j := 1) (q := 34) C rfl rfl (by omega) dX8_scoreBy_33 rfl ?_
  have ld_33 := hs.k5 p (by omega) (by omega)
  have join_59 : ∀ (b : Int), ((b = 1 ∧ 0 ≤ st (14 * p + 5) ∧ t - 3 ≤ st (14 * p + 5)) ∨ (b = 0 ∧ ¬ (0 ≤ st (14 * p + 5) ∧ t - 3 ≤ st (14 * p + 5)))) → V X 0 0 59 [(0, vP (am 0)), (1, vI x), (2, vI p), (3, vI t), (4, vI (st ((14 * p) + 1))), (5, vI (hld ((st ((14 * p) + 1)) + 10)))] [vI b] [mdW am (st, bk, un, ck, ty, tm, tx, ln, rf, dg, dn, rk, pl, iw, wd, wm, od, oc)] := by
    intro b hb
    refine i_istore (q := 61) (lv' := [(6, vI b), (0, vP (am 0)), (1, vI x), (2, vI p), (3, vI t), (4, vI (st ((14 * p) + 1))), (5, vI (hld ((st ((14 * p) + 1)) + 10)))]) C (by decide) rfl dX8_scoreBy_59 rfl ?_
    refine i_iload (j := 0) (q := 63) C rfl dX8_scoreBy_61 rfl ?_
    have join_79 : ∀ (fr : Int), (fr = if 0 ≤ st (14 * p + 5) ∧ t - 3 ≤ st (14 * p + 5) then hld (hld (st (14 * p + 1) + 10) + 20) else hld (st (14 * p + 1) + 10)) → (0 ≤ fr ∧ fr ≤ 1000) → V X 0 0 79 [(0, vP (am 0)), (1, vI x), (2, vI p), (3, vI t), (4, vI (st ((14 * p) + 1))), (5, vI (hld ((st ((14 * p) + 1)) + 10))), (6, vI b)] [vI fr] [mdW am (st, bk, un, ck, ty, tm, tx, ln, rf, dg, dn, rk, pl, iw, wd, wm, od, oc)] := by
      intro fr hfr hfb
      refine i_istore (q := 81) (lv' := [(7, vI fr), (0, vP (am 0)), (1, vI x), (2, vI p), (3, vI t), (4, vI (st ((14 * p) + 1))), (5, vI (hld ((st ((14 * p) + 1)) + 10))), (6, vI b)]) C (by decide) rfl dX8_scoreBy_79 rfl ?_
      refine i_aload_n (j := 1) (q := 82) C rfl rfl dX8_scoreBy_81 rfl ?_
      refine i_get (i := 0) (j := 0) (f := 0) (q := 85) C rfl rfl rfl hi_X8_scoreBy_X8 (by decide) lk_X8_scoreBy_7 rfl dX8_scoreBy_82 rfl ?_
      refine i_bipush (q := 87) C (by decide) dX8_scoreBy_85 rfl ?_
      refine i_iload_n (j := 3) (q := 88) C rfl rfl dX8_scoreBy_87 rfl ?_
      refine i_imul (q := 89) C dX8_scoreBy_88 rfl ?_
      refine i_iconst (q := 90) C dX8_scoreBy_89 rfl ?_
      refine i_iadd (q := 91) C dX8_scoreBy_90 rfl ?_
      refine i_iald (i := 0) (j := 1) (q := 92) C rfl rfl (by omega) dX8_scoreBy_91 rfl ?_
      have ld_91 := hs.k4 p (by omega) (by omega)
      refine i_istore (q := 94) (lv' := [(8, vI (st ((14 * p) + 4))), (7, vI fr), (0, vP (am 0)), (1, vI x), (2, vI p), (3, vI t), (4, vI (st ((14 * p) + 1))), (5, vI (hld ((st ((14 * p) + 1)) + 10))), (6, vI b)]) C (by decide) rfl dX8_scoreBy_92 rfl ?_
      refine i_iload_n (j := 3) (q := 95) C rfl rfl dX8_scoreBy_94 rfl ?_
      by_cases e_95_0 : x = 0
      · skip
        refine i_tsIn (q := 124) 0 C e_95_0 dX8_scoreBy_95 (by decide) rfl (by decide) ?_
        refine i_iload (j := 6) (q := 126) C rfl dX8_scoreBy_124 rfl ?_
        refine i_iret C hR dX8_scoreBy_126 ?_
        exact ⟨by rw [e_95_0]; rfl, rfl⟩
      by_cases e_95_1 : x = 1
      · skip
        refine i_tsIn (q := 127) 1 C e_95_1 dX8_scoreBy_95 (by decide) rfl (by decide) ?_
        refine i_iload (j := 7) (q := 129) C rfl dX8_scoreBy_127 rfl ?_
        refine i_iret C hR dX8_scoreBy_129 ?_
        exact ⟨by rw [e_95_1]; rfl, rfl⟩
      by_cases e_95_2 : x = 2
      · skip
        refine i_tsIn (q := 130) 2 C e_95_2 dX8_scoreBy_95 (by decide) rfl (by decide) ?_
        refine i_iload (j := 1) (q := 132) C rfl dX8_scoreBy_130 rfl ?_
        refine i_iret C hR dX8_scoreBy_132 ?_
        exact ⟨by rw [e_95_2, hfr]; rfl, rfl⟩
      by_cases e_95_3 : x = 3
      · skip
        refine i_tsIn (q := 133) 3 C e_95_3 dX8_scoreBy_95 (by decide) rfl (by decide) ?_
        refine i_iload (j := 7) (q := 135) C rfl dX8_scoreBy_133 rfl ?_
        refine i_iload (j := 0) (q := 137) C rfl dX8_scoreBy_135 rfl ?_
        refine i_bipush (q := 139) C (by decide) dX8_scoreBy_137 rfl ?_
        refine i_icmp_le (tgt := 147) (q := 142) C (by omega) (by omega) dX8_scoreBy_139 (by decide) rfl (fun c_139 => ?_) (fun c_139 => ?_)
        · skip
          refine i_iload (j := 0) (q := 149) C rfl dX8_scoreBy_147 rfl ?_
          refine i_iadd (q := 150) C dX8_scoreBy_149 rfl ?_
          refine i_callS (wr := [mdW am (st, bk, un, ck, ty, tm, tx, ln, rf, dg, dn, rk, pl, iw, wd, wm, od, oc)]) (As := [vI ((hld ((st ((14 * p) + 1)) + 10)) + (st ((14 * p) + 4)))]) (st := []) (q := 153) C (c_X8_held K l ((hld ((st ((14 * p) + 1)) + 10)) + (st ((14 * p) + 4))) (by first | assumption | omega)) gX8_scoreBy_X8_held rfl hd_X8_held ⟨Nat.le_of_ble_eq_true rfl, Nat.le_of_ble_eq_true rfl⟩ ⟨rfl, rfl⟩ ⟨Nat.le_of_ble_eq_true rfl, Nat.le_of_ble_eq_true rfl⟩ (permBy [0] (by decide) rfl rfl) rfl (Nat.le_of_ble_eq_true rfl) dX8_scoreBy_150 rfl (fun v w hq => ?_)
          obtain ⟨rfl, rfl, hh_150⟩ := hq
          show V X 0 0 153 [(8, vI (st ((14 * p) + 4))), (7, vI fr), (0, vP (am 0)), (1, vI x), (2, vI p), (3, vI t), (4, vI (st ((14 * p) + 1))), (5, vI (hld ((st ((14 * p) + 1)) + 10))), (6, vI b)] [vI (hld ((hld ((st ((14 * p) + 1)) + 10)) + (st ((14 * p) + 4))))] [mdW am (st, bk, un, ck, ty, tm, tx, ln, rf, dg, dn, rk, pl, iw, wd, wm, od, oc)]
          refine i_iret C hR dX8_scoreBy_153 ?_
          exact ⟨by rw [e_95_3]; simp only [nsc, hld, Option.some.injEq, Sum.inl.injEq]; simp; omega, rfl⟩
        · skip
          refine i_bipush (q := 144) C (by decide) dX8_scoreBy_142 rfl ?_
          refine i_goto (q := 149) C dX8_scoreBy_144 (by decide) ?_
          refine i_iadd (q := 150) C dX8_scoreBy_149 rfl ?_
          refine i_callS (wr := [mdW am (st, bk, un, ck, ty, tm, tx, ln, rf, dg, dn, rk, pl, iw, wd, wm, od, oc)]) (As := [vI ((hld ((st ((14 * p) + 1)) + 10)) + 30)]) (st := []) (q := 153) C (c_X8_held K l ((hld ((st ((14 * p) + 1)) + 10)) + 30) (by first | assumption | omega)) gX8_scoreBy_X8_held rfl hd_X8_held ⟨Nat.le_of_ble_eq_true rfl, Nat.le_of_ble_eq_true rfl⟩ ⟨rfl, rfl⟩ ⟨Nat.le_of_ble_eq_true rfl, Nat.le_of_ble_eq_true rfl⟩ (permBy [0] (by decide) rfl rfl) rfl (Nat.le_of_ble_eq_true rfl) dX8_scoreBy_150 rfl (fun v w hq => ?_)
          obtain ⟨rfl, rfl, hh_150⟩ := hq
          show V X 0 0 153 [(8, vI (st ((14 * p) + 4))), (7, vI fr), (0, vP (am 0)), (1, vI x), (2, vI p), (3, vI t), (4, vI (st ((14 * p) + 1))), (5, vI (hld ((st ((14 * p) + 1)) + 10))), (6, vI b)] [vI (hld ((hld ((st ((14 * p) + 1)) + 10)) + 30))] [mdW am (st, bk, un, ck, ty, tm, tx, ln, rf, dg, dn, rk, pl, iw, wd, wm, od, oc)]
          refine i_iret C hR dX8_scoreBy_153 ?_
          exact ⟨by rw [e_95_3]; simp only [nsc, hld, Option.some.injEq, Sum.inl.injEq]; simp; omega, rfl⟩
      refine i_tsOut (q := 154) C (by omega) (by omega) dX8_scoreBy_95 (by decide) ?_
      refine i_iload (j := 6) (q := 156) C rfl dX8_scoreBy_154 rfl ?_
      refine i_iconst (q := 157) C dX8_scoreBy_156 rfl ?_
      refine i_iload (j := 1) (q := 159) C rfl dX8_scoreBy_157 rfl ?_
      refine i_iload (j := 6) (q := 161) C rfl dX8_scoreBy_159 rfl ?_
      refine i_isub (q := 162) C dX8_scoreBy_161 rfl ?_
      refine i_imul (q := 163) C dX8_scoreBy_162 rfl ?_
      refine i_iadd (q := 164) C dX8_scoreBy_163 rfl ?_
      refine i_callS (wr := [mdW am (st, bk, un, ck, ty, tm, tx, ln, rf, dg, dn, rk, pl, iw, wd, wm, od, oc)]) (As := [vI ((st ((14 * p) + 1)) + (2 * (fr - (st ((14 * p) + 1)))))]) (st := []) (q := 167) C (c_X8_held K l ((st ((14 * p) + 1)) + (2 * (fr - (st ((14 * p) + 1))))) (by first | assumption | omega)) gX8_scoreBy_X8_held rfl hd_X8_held ⟨Nat.le_of_ble_eq_true rfl, Nat.le_of_ble_eq_true rfl⟩ ⟨rfl, rfl⟩ ⟨Nat.le_of_ble_eq_true rfl, Nat.le_of_ble_eq_true rfl⟩ (permBy [0] (by decide) rfl rfl) rfl (Nat.le_of_ble_eq_true rfl) dX8_scoreBy_164 rfl (fun v w hq => ?_)
      obtain ⟨rfl, rfl, hh_164⟩ := hq
      show V X 0 0 167 [(8, vI (st ((14 * p) + 4))), (7, vI fr), (0, vP (am 0)), (1, vI x), (2, vI p), (3, vI t), (4, vI (st ((14 * p) + 1))), (5, vI (hld ((st ((14 * p) + 1)) + 10))), (6, vI b)] [vI (hld ((st ((14 * p) + 1)) + (2 * (fr - (st ((14 * p) + 1))))))] [mdW am (st, bk, un, ck, ty, tm, tx, ln, rf, dg, dn, rk, pl, iw, wd, wm, od, oc)]
      refine i_iret C hR dX8_scoreBy_167 ?_
      exact ⟨by simp only [nsc, if_neg e_95_0, if_neg e_95_1, if_neg e_95_2, if_neg e_95_3, ← hfr] <;> rfl, rfl⟩
    refine i_if_eq (tgt := 77) (q := 66) C (by omega) dX8_scoreBy_63 (by decide) rfl (fun c_63 => ?_) (fun c_63 => ?_)
    · skip
      refine i_iload (j := 6) (q := 79) C rfl dX8_scoreBy_77 rfl ?_
      refine V.lv [1, 2, 3, 4, 5, 6, 0] rfl ?_
      exact join_79 (hld ((st ((14 * p) + 1)) + 10)) (by
        rcases hb with ⟨h1, h2⟩ | ⟨h1, h2⟩
        · rw [if_pos h2] <;> first | rfl | omega
        · rw [if_neg h2] <;> first | rfl | omega) (by omega)
    · skip
      refine i_iload (j := 6) (q := 68) C rfl dX8_scoreBy_66 rfl ?_
      refine i_bipush (q := 70) C (by decide) dX8_scoreBy_68 rfl ?_
      refine i_iadd (q := 71) C dX8_scoreBy_70 rfl ?_
      refine i_callS (wr := [mdW am (st, bk, un, ck, ty, tm, tx, ln, rf, dg, dn, rk, pl, iw, wd, wm, od, oc)]) (As := [vI ((hld ((st ((14 * p) + 1)) + 10)) + 20)]) (st := []) (q := 74) C (c_X8_held K l ((hld ((st ((14 * p) + 1)) + 10)) + 20) (by first | assumption | omega)) gX8_scoreBy_X8_held rfl hd_X8_held ⟨Nat.le_of_ble_eq_true rfl, Nat.le_of_ble_eq_true rfl⟩ ⟨rfl, rfl⟩ ⟨Nat.le_of_ble_eq_true rfl, Nat.le_of_ble_eq_true rfl⟩ (permBy [0] (by decide) rfl rfl) rfl (Nat.le_of_ble_eq_true rfl) dX8_scoreBy_71 rfl (fun v w hq => ?_)
      obtain ⟨rfl, rfl, hh_71⟩ := hq
      show V X 0 0 74 [(6, vI b), (0, vP (am 0)), (1, vI x), (2, vI p), (3, vI t), (4, vI (st ((14 * p) + 1))), (5, vI (hld ((st ((14 * p) + 1)) + 10)))] [vI (hld ((hld ((st ((14 * p) + 1)) + 10)) + 20))] [mdW am (st, bk, un, ck, ty, tm, tx, ln, rf, dg, dn, rk, pl, iw, wd, wm, od, oc)]
      refine i_goto (q := 79) C dX8_scoreBy_74 (by decide) ?_
      refine V.lv [1, 2, 3, 4, 5, 6, 0] rfl ?_
      exact join_79 (hld ((hld ((st ((14 * p) + 1)) + 10)) + 20)) (by
        rcases hb with ⟨h1, h2⟩ | ⟨h1, h2⟩
        · rw [if_pos h2] <;> first | rfl | omega
        · rw [if_neg h2] <;> first | rfl | omega) (by omega)
  refine i_if_lt (tgt := 58) (q := 37) C (by omega) dX8_scoreBy_34 (by decide) rfl (fun c_34 => ?_) (fun c_34 => ?_)
  · skip
    refine i_iconst (q := 59) C dX8_scoreBy_58 rfl ?_
    refine V.lv [2, 3, 4, 5, 1, 0] rfl ?_
    exact join_59 (0) (by omega)
  · skip
    refine i_aload_n (j := 2) (q := 38) C rfl rfl dX8_scoreBy_37 rfl ?_
    refine i_get (i := 0) (j := 0) (f := 0) (q := 41) C rfl rfl rfl hi_X8_scoreBy_X8 (by decide) lk_X8_scoreBy_7 rfl dX8_scoreBy_38 rfl ?_
    refine i_bipush (q := 43) C (by decide) dX8_scoreBy_41 rfl ?_
    refine i_iload_n (j := 4) (q := 44) C rfl rfl dX8_scoreBy_43 rfl ?_
    refine i_imul (q := 45) C dX8_scoreBy_44 rfl ?_
    refine i_iconst (q := 46) C dX8_scoreBy_45 rfl ?_
    refine i_iadd (q := 47) C dX8_scoreBy_46 rfl ?_
    refine i_iald (i := 0) (j := 1) (q := 48) C rfl rfl (by omega) dX8_scoreBy_47 rfl ?_
    have ld_47 := hs.k5 p (by omega) (by omega)
    refine i_iload_n (j := 5) (q := 49) C rfl rfl dX8_scoreBy_48 rfl ?_
    refine i_iconst (q := 50) C dX8_scoreBy_49 rfl ?_
    refine i_isub (q := 51) C dX8_scoreBy_50 rfl ?_
    refine i_icmp_lt (tgt := 58) (q := 54) C (by omega) (by omega) dX8_scoreBy_51 (by decide) rfl (fun c_51 => ?_) (fun c_51 => ?_)
    · skip
      refine i_iconst (q := 59) C dX8_scoreBy_58 rfl ?_
      refine V.lv [2, 3, 4, 5, 1, 0] rfl ?_
      exact join_59 (0) (by omega)
    · skip
      refine i_iconst (q := 55) C dX8_scoreBy_54 rfl ?_
      refine i_goto (q := 59) C dX8_scoreBy_55 (by decide) ?_
      refine V.lv [2, 3, 4, 5, 1, 0] rfl ?_
      exact join_59 (1) (by omega)
