theorem lk_X8_readsOrder_188 : Cond.fieldLink RX8 188 (TX8 17).1 (TX8 17).2.1 (TX8 17).2.2.1 ∈ wsX8_readsOrder := List.mem_of_getElem? (i := 1) rfl
theorem hi_X8_readsOrder_X8 : ∀ w ∈ u_ws RX8 TX8 18, w ∈ wsX8_readsOrder := by decide +kernel
theorem hd_X8_nameOf : yX8_nameOf.cls = RX8 ∧ yX8_nameOf.cls ≠ "java/lang/invoke/MethodHandle" ∧ yX8_nameOf.cls ≠ "java/lang/invoke/VarHandle" ∧ (parseMethodDescriptor yX8_nameOf.desc).map (fun d => d.parameters.length) = some 0 := by decide +kernel
theorem lk_X8_readsOrder_185 : Cond.fieldLink RX8 185 (TX8 15).1 (TX8 15).2.1 (TX8 15).2.2.1 ∈ wsX8_readsOrder := List.mem_of_getElem? (i := 2) rfl
theorem lk_X8_readsOrder_35 : Cond.fieldLink RX8 35 (TX8 16).1 (TX8 16).2.1 (TX8 16).2.2.1 ∈ wsX8_readsOrder := List.mem_of_getElem? (i := 5) rfl
theorem lk_X8_readsOrder_32 : Cond.fieldLink RX8 32 (TX8 14).1 (TX8 14).2.1 (TX8 14).2.2.1 ∈ wsX8_readsOrder := List.mem_of_getElem? (i := 6) rfl
theorem lk_X8_readsOrder_181 : Cond.fieldLink RX8 181 (TX8 13).1 (TX8 13).2.1 (TX8 13).2.2.1 ∈ wsX8_readsOrder := List.mem_of_getElem? (i := 3) rfl
theorem lk_X8_readsOrder_168 : Cond.fieldLink RX8 168 (TX8 12).1 (TX8 12).2.1 (TX8 12).2.2.1 ∈ wsX8_readsOrder := List.mem_of_getElem? (i := 4) rfl
theorem hd_X8_readsNumber : yX8_readsNumber.cls = RX8 ∧ yX8_readsNumber.cls ≠ "java/lang/invoke/MethodHandle" ∧ yX8_readsNumber.cls ≠ "java/lang/invoke/VarHandle" ∧ (parseMethodDescriptor yX8_readsNumber.desc).map (fun d => d.parameters.length) = some 1 := by decide +kernel
theorem hd_X8_readsWord : yX8_readsWord.cls = RX8 ∧ yX8_readsWord.cls ≠ "java/lang/invoke/MethodHandle" ∧ yX8_readsWord.cls ≠ "java/lang/invoke/VarHandle" ∧ (parseMethodDescriptor yX8_readsWord.desc).map (fun d => d.parameters.length) = some 0 := by decide +kernel
set_option maxHeartbeats 400000 in
set_option maxRecDepth 100000 in
theorem c_X8_readsOrder (K : KT) (l : Launch) (am : Nat → Nat) (st : Int → Int) (bk : Int → Int) (un : Int) (ck : Int) (ty : Int → Int) (tm : Int) (tx : Int → Int) (ln : Int) (rf : Int → Int) (dg : Int) (dn : Int → Int) (rk : Int → Int) (pl : Int) (iw : Int) (wd : Int → Int) (wm : Int) (od : Int → Int) (oc : Int) (hln : 0 ≤ ln ∧ ln ≤ 120) (htx : ∀ k, 0 ≤ k → k < ln → 0 ≤ tx k ∧ tx k ≤ 127) (hpl : 0 ≤ pl ∧ pl ≤ ln) (hoc : 0 ≤ oc ∧ oc < 24) : Mt K l yX8_readsOrder wsX8_readsOrder ({ frames := 3, cells := 0, slots := 0, locals := 69 }) [vP (am 0)] [mdW am (st, bk, un, ck, ty, tm, tx, ln, rf, dg, dn, rk, pl, iw, wd, wm, od, oc)] 0 0 (fun v w => ∃ wd3 : Int → Int, ∃ wm3 : Int, ∃ od3 : Int → Int, v = none ∧ w = [mdW am (st, bk, un, ck, ty, tm, tx, ln, rf, dg, dn, rk, (s3 (rg tx ln) pl).2, (s3 (rg tx ln) pl).1, wd3, wm3, od3, oc + 1)] ∧ ((s3 (rg tx ln) pl).1 = 0 → orA od3 oc = oR (rg tx ln) pl) ∧ (∀ k, k < 12 * oc → od3 k = od k) ∧ (0 ≤ od3 (12 * oc + 3) ∧ od3 (12 * oc + 3) ≤ 8)) := by
  refine Mt.of (own := RX8) (cc := cX8_readsOrder) (maxL := 5) (ret := none) (lv0 := [(0, vP (am 0))]) (by decide) rfl rfl (Nat.le_of_ble_eq_true rfl) rfl (fun X C hR hNm => ?_)
  have hTl : (((rg tx ln).length : Nat) : Int) = ln := by rw [rg_len]; omega
  have iV := pV_in (T := (rg tx ln)) (p := pl) hpl.1 (by omega)
  have iW := sW_in (T := (rg tx ln)) (p := pl) hpl.1 (by omega)
  have i1 := s1_in (T := (rg tx ln)) (p := pl) hpl.1 (by omega)
  have i2 := s2_in (T := (rg tx ln)) (p := pl) hpl.1 (by omega)
  have i3 := s3_in (T := (rg tx ln)) (p := pl) hpl.1 (by omega)
  rw [hTl] at iV iW i1 i2 i3
  refine i_bipush (q := 2) C (by decide) dX8_readsOrder_0 rfl ?_
  refine i_aload_n (j := 0) (q := 3) C rfl rfl dX8_readsOrder_2 rfl ?_
  refine i_get (i := 0) (j := 0) (f := 17) (q := 6) C rfl rfl rfl hi_X8_readsOrder_X8 (by decide) lk_X8_readsOrder_188 rfl dX8_readsOrder_3 rfl ?_
  refine i_imul (q := 7) C dX8_readsOrder_6 rfl ?_
  refine i_istore_n (q := 8) (lv' := [(1, vI (12 * oc)), (0, vP (am 0))]) C rfl (by decide) rfl dX8_readsOrder_7 rfl ?_
  refine i_aload_n (j := 1) (q := 9) C rfl rfl dX8_readsOrder_8 rfl ?_
  refine i_callV (wr := []) (As := []) (st := []) (i := 0) (j := 0) (q := 12) C (c_X8_nameOf K l (am) (st) (bk) (un) (ck) (ty) (tm) (tx) (ln) (rf) (dg) (dn) (rk) (pl) (iw) (wd) (wm) (od) (oc) (by first | assumption | omega) (by first | assumption | omega) (by first | assumption | omega)) gX8_readsOrder_X8_nameOf rfl hd_X8_nameOf ⟨Nat.le_of_ble_eq_true rfl, Nat.le_of_ble_eq_true rfl⟩ ⟨rfl, rfl⟩ ⟨Nat.le_of_ble_eq_true rfl, Nat.le_of_ble_eq_true rfl⟩ (permBy [0] (by decide) rfl rfl) rfl rfl rfl rfl (Nat.le_of_ble_eq_true rfl) dX8_readsOrder_9 rfl (fun v w hq => ?_)
  obtain ⟨rfl, rfl⟩ := hq
  show V X 0 0 12 [(1, vI (12 * oc)), (0, vP (am 0))] [vI ((pV (rg tx ln) pl).2.2)] [mdW am (st, bk, un, ck, ty, tm, tx, ln, rf, dg, dn, rk, (pV (rg tx ln) pl).2.1, (pV (rg tx ln) pl).1, wd, wm, od, oc)]
  refine i_istore_n (q := 13) (lv' := [(2, vI ((pV (rg tx ln) pl).2.2)), (1, vI (12 * oc)), (0, vP (am 0))]) C rfl (by decide) rfl dX8_readsOrder_12 rfl ?_
  refine i_aload_n (j := 2) (q := 14) C rfl rfl dX8_readsOrder_13 rfl ?_
  refine i_iconst (q := 15) C dX8_readsOrder_14 rfl ?_
  refine i_putI (i := 0) (j := 0) (f := 15) (q := 18) (cs' := [mdW am (st, bk, un, ck, ty, tm, tx, ln, rf, dg, dn, rk, (pV (rg tx ln) pl).2.1, (pV (rg tx ln) pl).1, wd, 0, od, oc)]) C rfl rfl rfl hi_X8_readsOrder_X8 tyX8 tyX8_ok nmX8 (by decide) (Nat.le_of_ble_eq_true rfl) lk_X8_readsOrder_185 rfl rfl dX8_readsOrder_15 rfl rfl ?_
  have join_34 : ∀ (w2 : Int) (p2 : Int) (wd2 : Int → Int) (wm2 : Int), ((sW (rg tx ln) pl).1 = w2 ∧ (sW (rg tx ln) pl).2.1 = p2 ∧ (w2 = 0 → rg wd2 wm2 = (sW (rg tx ln) pl).2.2) ∧ (0 ≤ wm2 ∧ wm2 ≤ 8)) → V X 0 0 34 [(0, vP (am 0)), (1, vI (12 * oc)), (2, vI ((pV (rg tx ln) pl).2.2))] [] [mdW am (st, bk, un, ck, ty, tm, tx, ln, rf, dg, dn, rk, p2, w2, wd2, wm2, od, oc)] := by
    intro w2 p2 wd2 wm2 h2
    have join_74 : ∀ (w3 : Int) (p3 : Int) (r1 : Int), ((s1 (rg tx ln) pl).1 = w3 ∧ (s1 (rg tx ln) pl).2.1 = p3 ∧ (w3 = 0 → r1 = (s1 (rg tx ln) pl).2.2)) → V X 0 0 74 [(0, vP (am 0)), (1, vI (12 * oc)), (2, vI ((pV (rg tx ln) pl).2.2))] [vI r1] [mdW am (st, bk, un, ck, ty, tm, tx, ln, rf, dg, dn, rk, p3, w3, wd2, wm2, od, oc)] := by
      intro w3 p3 r1 h3
      refine i_istore_n (q := 75) (lv' := [(3, vI r1), (0, vP (am 0)), (1, vI (12 * oc)), (2, vI ((pV (rg tx ln) pl).2.2))]) C rfl (by decide) rfl dX8_readsOrder_74 rfl ?_
      have join_90 : ∀ (w4 : Int) (p4 : Int) (r2 : Int), ((s2 (rg tx ln) pl).1 = w4 ∧ (s2 (rg tx ln) pl).2.1 = p4 ∧ (w4 = 0 → r2 = (s2 (rg tx ln) pl).2.2)) → V X 0 0 90 [(0, vP (am 0)), (1, vI (12 * oc)), (2, vI ((pV (rg tx ln) pl).2.2)), (3, vI r1)] [vI r2] [mdW am (st, bk, un, ck, ty, tm, tx, ln, rf, dg, dn, rk, p4, w4, wd2, wm2, od, oc)] := by
        intro w4 p4 r2 h4
        refine i_istore (q := 92) (lv' := [(4, vI r2), (0, vP (am 0)), (1, vI (12 * oc)), (2, vI ((pV (rg tx ln) pl).2.2)), (3, vI r1)]) C (by decide) rfl dX8_readsOrder_90 rfl ?_
        have join_138 : ∀ (w5 : Int) (p5 : Int), ((s3 (rg tx ln) pl).1 = w5 ∧ (s3 (rg tx ln) pl).2 = p5) → V X 0 0 138 [(0, vP (am 0)), (1, vI (12 * oc)), (2, vI ((pV (rg tx ln) pl).2.2)), (3, vI r1), (4, vI r2)] [] [mdW am (st, bk, un, ck, ty, tm, tx, ln, rf, dg, dn, rk, p5, w5, wd2, wm2, od, oc)] := by
          intro w5 p5 h5
          refine i_aload_n (j := 0) (q := 139) C rfl rfl dX8_readsOrder_138 rfl ?_
          refine i_get (i := 0) (j := 0) (f := 16) (q := 142) C rfl rfl rfl hi_X8_readsOrder_X8 (by decide) lk_X8_readsOrder_35 rfl dX8_readsOrder_139 rfl ?_
          refine i_iload_n (j := 1) (q := 143) C rfl rfl dX8_readsOrder_142 rfl ?_
          refine i_iload_n (j := 2) (q := 144) C rfl rfl dX8_readsOrder_143 rfl ?_
          refine i_iast (i := 0) (j := 9) (q := 145) (cs' := [mdW am (st, bk, un, ck, ty, tm, tx, ln, rf, dg, dn, rk, p5, w5, wd2, wm2, up od (12 * oc) ((pV (rg tx ln) pl).2.2), oc)]) C rfl rfl (by omega) dX8_readsOrder_144 rfl rfl ?_
          refine i_aload_n (j := 0) (q := 146) C rfl rfl dX8_readsOrder_145 rfl ?_
          refine i_get (i := 0) (j := 0) (f := 16) (q := 149) C rfl rfl rfl hi_X8_readsOrder_X8 (by decide) lk_X8_readsOrder_35 rfl dX8_readsOrder_146 rfl ?_
          refine i_iload_n (j := 1) (q := 150) C rfl rfl dX8_readsOrder_149 rfl ?_
          refine i_iconst (q := 151) C dX8_readsOrder_150 rfl ?_
          refine i_iadd (q := 152) C dX8_readsOrder_151 rfl ?_
          refine i_iload_n (j := 3) (q := 153) C rfl rfl dX8_readsOrder_152 rfl ?_
          refine i_iast (i := 0) (j := 9) (q := 154) (cs' := [mdW am (st, bk, un, ck, ty, tm, tx, ln, rf, dg, dn, rk, p5, w5, wd2, wm2, up (up od (12 * oc) ((pV (rg tx ln) pl).2.2)) ((12 * oc) + 1) r1, oc)]) C rfl rfl (by omega) dX8_readsOrder_153 rfl rfl ?_
          refine i_aload_n (j := 0) (q := 155) C rfl rfl dX8_readsOrder_154 rfl ?_
          refine i_get (i := 0) (j := 0) (f := 16) (q := 158) C rfl rfl rfl hi_X8_readsOrder_X8 (by decide) lk_X8_readsOrder_35 rfl dX8_readsOrder_155 rfl ?_
          refine i_iload_n (j := 1) (q := 159) C rfl rfl dX8_readsOrder_158 rfl ?_
          refine i_iconst (q := 160) C dX8_readsOrder_159 rfl ?_
          refine i_iadd (q := 161) C dX8_readsOrder_160 rfl ?_
          refine i_iload (j := 4) (q := 163) C rfl dX8_readsOrder_161 rfl ?_
          refine i_iast (i := 0) (j := 9) (q := 164) (cs' := [mdW am (st, bk, un, ck, ty, tm, tx, ln, rf, dg, dn, rk, p5, w5, wd2, wm2, up (up (up od (12 * oc) ((pV (rg tx ln) pl).2.2)) ((12 * oc) + 1) r1) ((12 * oc) + 2) r2, oc)]) C rfl rfl (by omega) dX8_readsOrder_163 rfl rfl ?_
          refine i_aload_n (j := 0) (q := 165) C rfl rfl dX8_readsOrder_164 rfl ?_
          refine i_get (i := 0) (j := 0) (f := 16) (q := 168) C rfl rfl rfl hi_X8_readsOrder_X8 (by decide) lk_X8_readsOrder_35 rfl dX8_readsOrder_165 rfl ?_
          refine i_iload_n (j := 1) (q := 169) C rfl rfl dX8_readsOrder_168 rfl ?_
          refine i_iconst (q := 170) C dX8_readsOrder_169 rfl ?_
          refine i_iadd (q := 171) C dX8_readsOrder_170 rfl ?_
          refine i_aload_n (j := 0) (q := 172) C rfl rfl dX8_readsOrder_171 rfl ?_
          refine i_get (i := 0) (j := 0) (f := 15) (q := 175) C rfl rfl rfl hi_X8_readsOrder_X8 (by decide) lk_X8_readsOrder_185 rfl dX8_readsOrder_172 rfl ?_
          refine i_iast (i := 0) (j := 9) (q := 176) (cs' := [mdW am (st, bk, un, ck, ty, tm, tx, ln, rf, dg, dn, rk, p5, w5, wd2, wm2, up (up (up (up od (12 * oc) ((pV (rg tx ln) pl).2.2)) ((12 * oc) + 1) r1) ((12 * oc) + 2) r2) ((12 * oc) + 3) wm2, oc)]) C rfl rfl (by omega) dX8_readsOrder_175 rfl rfl ?_
          refine i_aload_n (j := 0) (q := 177) C rfl rfl dX8_readsOrder_176 rfl ?_
          refine i_get (i := 0) (j := 0) (f := 14) (q := 180) C rfl rfl rfl hi_X8_readsOrder_X8 (by decide) lk_X8_readsOrder_32 rfl dX8_readsOrder_177 rfl ?_
          refine i_iconst (q := 181) C dX8_readsOrder_180 rfl ?_
          refine i_aload_n (j := 0) (q := 182) C rfl rfl dX8_readsOrder_181 rfl ?_
          refine i_get (i := 0) (j := 0) (f := 16) (q := 185) C rfl rfl rfl hi_X8_readsOrder_X8 (by decide) lk_X8_readsOrder_35 rfl dX8_readsOrder_182 rfl ?_
          refine i_iload_n (j := 1) (q := 186) C rfl rfl dX8_readsOrder_185 rfl ?_
          refine i_iconst (q := 187) C dX8_readsOrder_186 rfl ?_
          refine i_iadd (q := 188) C dX8_readsOrder_187 rfl ?_
          refine i_aload_n (j := 0) (q := 189) C rfl rfl dX8_readsOrder_188 rfl ?_
          refine i_get (i := 0) (j := 0) (f := 15) (q := 192) C rfl rfl rfl hi_X8_readsOrder_X8 (by decide) lk_X8_readsOrder_185 rfl dX8_readsOrder_189 rfl ?_
          refine i_callS (wr := []) (As := [vP (am 8), vI 0, vP (am 9), vI ((12 * oc) + 4), vI wm2]) (st := []) (q := 195) C (c_X8_bring_wd_od K l (am) (st) (bk) (un) (ck) (ty) (tm) (tx) (ln) (rf) (dg) (dn) (rk) (p5) (w5) (wd2) (wm2) (up (up (up (up od (12 * oc) ((pV (rg tx ln) pl).2.2)) ((12 * oc) + 1) r1) ((12 * oc) + 2) r2) ((12 * oc) + 3) wm2) (oc) (0) ((12 * oc) + 4) (wm2) (by omega) (by omega) (by omega)) gX8_readsOrder_X8_bring rfl hd_X8_bring ⟨Nat.le_of_ble_eq_true rfl, Nat.le_of_ble_eq_true rfl⟩ ⟨rfl, rfl⟩ ⟨Nat.le_of_ble_eq_true rfl, Nat.le_of_ble_eq_true rfl⟩ (permBy [0] (by decide) rfl rfl) rfl (Nat.le_of_ble_eq_true rfl) dX8_readsOrder_192 rfl (fun v w hq => ?_)
          obtain ⟨rfl, rfl⟩ := hq
          show V X 0 0 195 [(0, vP (am 0)), (1, vI (12 * oc)), (2, vI ((pV (rg tx ln) pl).2.2)), (3, vI r1), (4, vI r2)] [] [mdW am (st, bk, un, ck, ty, tm, tx, ln, rf, dg, dn, rk, p5, w5, wd2, wm2, cpy wd2 0 (up (up (up (up od (12 * oc) ((pV (rg tx ln) pl).2.2)) ((12 * oc) + 1) r1) ((12 * oc) + 2) r2) ((12 * oc) + 3) wm2) ((12 * oc) + 4) wm2, oc)]
          refine i_aload_n (j := 0) (q := 196) C rfl rfl dX8_readsOrder_195 rfl ?_
          refine i_dup (q := 197) C rfl dX8_readsOrder_196 rfl ?_
          refine i_get (i := 0) (j := 0) (f := 17) (q := 200) C rfl rfl rfl hi_X8_readsOrder_X8 (by decide) lk_X8_readsOrder_188 rfl dX8_readsOrder_197 rfl ?_
          refine i_iconst (q := 201) C dX8_readsOrder_200 rfl ?_
          refine i_iadd (q := 202) C dX8_readsOrder_201 rfl ?_
          refine i_putI (i := 0) (j := 0) (f := 17) (q := 205) (cs' := [mdW am (st, bk, un, ck, ty, tm, tx, ln, rf, dg, dn, rk, p5, w5, wd2, wm2, cpy wd2 0 (up (up (up (up od (12 * oc) ((pV (rg tx ln) pl).2.2)) ((12 * oc) + 1) r1) ((12 * oc) + 2) r2) ((12 * oc) + 3) wm2) ((12 * oc) + 4) wm2, oc + 1)]) C rfl rfl rfl hi_X8_readsOrder_X8 tyX8 tyX8_ok nmX8 (by decide) (Nat.le_of_ble_eq_true rfl) lk_X8_readsOrder_188 rfl rfl dX8_readsOrder_202 rfl rfl ?_
          refine i_vret C hR dX8_readsOrder_205 ?_
          obtain ⟨od9, hod9⟩ : ∃ z, z = cpy wd2 0 (up (up (up (up od (12 * oc) ((pV (rg tx ln) pl).2.2)) ((12 * oc) + 1) r1) ((12 * oc) + 2) r2) ((12 * oc) + 3) wm2) ((12 * oc) + 4) wm2 := ⟨_, rfl⟩
          have q0 : od9 (12 * oc) = ((pV (rg tx ln) pl).2.2) := by rw [hod9, cpy_out _ _ _ _ _ _ (by omega), up_n _ _ (by omega), up_n _ _ (by omega), up_n _ _ (by omega), up_s]
          have q1 : od9 (12 * oc + 1) = r1 := by rw [hod9, cpy_out _ _ _ _ _ _ (by omega), up_n _ _ (by omega), up_n _ _ (by omega), up_s]
          have q2 : od9 (12 * oc + 2) = r2 := by rw [hod9, cpy_out _ _ _ _ _ _ (by omega), up_n _ _ (by omega), up_s]
          have q3 : od9 (12 * oc + 3) = wm2 := by rw [hod9, cpy_out _ _ _ _ _ _ (by omega), up_s]
          exact ⟨wd2, wm2, od9, rfl, by rw [h5.1, h5.2, hod9], fun z => by
            have y2 := i3.2.2 z
            have y1 := i2.2.2 y2
            have yw := i1.2.2 y1
            unfold orA oR
            rw [q0, q1, q2, q3, h3.2.2 (by omega), h4.2.2 (by omega), ← h2.2.2.1 (by omega)]
            congr 2
            exact rg_ext (fun k g0 g1 => by rw [hod9, cpy_in _ _ _ _ _ _ (by omega)]; congr 1; omega), fun k g => by rw [hod9, cpy_out _ _ _ _ _ _ (by omega), up_n _ _ (by omega), up_n _ _ (by omega), up_n _ _ (by omega), up_n _ _ (by omega)], by rw [q3]; omega⟩
        refine i_aload_n (j := 1) (q := 93) C rfl rfl dX8_readsOrder_92 rfl ?_
        refine i_get (i := 0) (j := 0) (f := 13) (q := 96) C rfl rfl rfl hi_X8_readsOrder_X8 (by decide) lk_X8_readsOrder_181 rfl dX8_readsOrder_93 rfl ?_
        refine i_if_ne (tgt := 138) (q := 99) C (by omega) dX8_readsOrder_96 (by decide) rfl (fun c_96 => ?_) (fun c_96 => ?_)
        · skip
          refine V.lv [1, 2, 3, 4, 0] rfl ?_
          exact join_138 (w4) (p4) (by
            first
              | exact (by
                  have hs : s3 (rg tx ln) pl = (w4, p4) := by unfold s3; rw [h4.1, h4.2.1, if_neg c_96]
                  rw [hs]; exact ⟨rfl, rfl⟩)
              | exact (by
                  have hs : s3 (rg tx ln) pl = (0, nb (rg tx ln) p4 + 1) := by unfold s3; rw [h4.1, h4.2.1, if_pos c_96]; unfold pE; rw [if_pos c_106]
                  rw [hs]; exact ⟨rfl, rfl⟩)
              | exact (by
                  have hs : s3 (rg tx ln) pl = (1, nb (rg tx ln) p4) := by unfold s3; rw [h4.1, h4.2.1, if_pos c_96]; unfold pE; rw [if_neg c_106]
                  rw [hs]; exact ⟨rfl, by omega⟩))
        · skip
          refine i_aload_n (j := 1) (q := 100) C rfl rfl dX8_readsOrder_99 rfl ?_
          refine i_aload_n (j := 1) (q := 101) C rfl rfl dX8_readsOrder_100 rfl ?_
          refine i_callV (wr := []) (As := []) (st := [vP (am 0)]) (i := 0) (j := 0) (q := 104) C (c_X8_here K l (am) (st) (bk) (un) (ck) (ty) (tm) (tx) (ln) (rf) (dg) (dn) (rk) (p4) (w4) (wd2) (wm2) (od) (oc) (by first | assumption | omega) (by first | assumption | omega) (by omega)) gX8_readsOrder_X8_here rfl hd_X8_here ⟨Nat.le_of_ble_eq_true rfl, Nat.le_of_ble_eq_true rfl⟩ ⟨rfl, rfl⟩ ⟨Nat.le_of_ble_eq_true rfl, Nat.le_of_ble_eq_true rfl⟩ (permBy [0] (by decide) rfl rfl) rfl rfl rfl rfl (Nat.le_of_ble_eq_true rfl) dX8_readsOrder_101 rfl (fun v w hq => ?_)
          obtain ⟨rfl, rfl⟩ := hq
          show V X 0 0 104 [(4, vI r2), (0, vP (am 0)), (1, vI (12 * oc)), (2, vI ((pV (rg tx ln) pl).2.2)), (3, vI r1)] [vI ((rg tx ln).getD (nb (rg tx ln) p4).toNat (-1)), vP (am 0)] [mdW am (st, bk, un, ck, ty, tm, tx, ln, rf, dg, dn, rk, nb (rg tx ln) p4, w4, wd2, wm2, od, oc)]
          have hgd := gd_r (f := tx) (n := ln) (p := nb (rg tx ln) p4) htx
          refine i_bipush (q := 106) C (by decide) dX8_readsOrder_104 rfl ?_
          refine i_icmp_eq (tgt := 113) (q := 109) C (by omega) (by omega) dX8_readsOrder_106 (by decide) rfl (fun c_106 => ?_) (fun c_106 => ?_)
          · skip
            refine i_iconst (q := 114) C dX8_readsOrder_113 rfl ?_
            refine i_putZ (i := 0) (j := 0) (f := 13) (q := 117) (cs' := [mdW am (st, bk, un, ck, ty, tm, tx, ln, rf, dg, dn, rk, nb (rg tx ln) p4, 0, wd2, wm2, od, oc)]) C rfl rfl rfl hi_X8_readsOrder_X8 tyX8 tyX8_ok nmX8 (by decide) (Nat.le_of_ble_eq_true rfl) lk_X8_readsOrder_181 rfl rfl (by omega) dX8_readsOrder_114 rfl rfl ?_
            refine i_aload_n (j := 1) (q := 118) C rfl rfl dX8_readsOrder_117 rfl ?_
            refine i_dup (q := 119) C rfl dX8_readsOrder_118 rfl ?_
            refine i_get (i := 0) (j := 0) (f := 12) (q := 122) C rfl rfl rfl hi_X8_readsOrder_X8 (by decide) lk_X8_readsOrder_168 rfl dX8_readsOrder_119 rfl ?_
            refine i_aload_n (j := 1) (q := 123) C rfl rfl dX8_readsOrder_122 rfl ?_
            refine i_get (i := 0) (j := 0) (f := 13) (q := 126) C rfl rfl rfl hi_X8_readsOrder_X8 (by decide) lk_X8_readsOrder_181 rfl dX8_readsOrder_123 rfl ?_
            refine i_if_eq (tgt := 133) (q := 129) C (by omega) dX8_readsOrder_126 (by decide) rfl (fun c_126 => ?_) (fun c_126 => ?_)
            · skip
              refine i_iconst (q := 134) C dX8_readsOrder_133 rfl ?_
              refine i_iadd (q := 135) C dX8_readsOrder_134 rfl ?_
              refine i_putI (i := 0) (j := 0) (f := 12) (q := 138) (cs' := [mdW am (st, bk, un, ck, ty, tm, tx, ln, rf, dg, dn, rk, (nb (rg tx ln) p4) + 1, 0, wd2, wm2, od, oc)]) C rfl rfl rfl hi_X8_readsOrder_X8 tyX8 tyX8_ok nmX8 (by decide) (Nat.le_of_ble_eq_true rfl) lk_X8_readsOrder_168 rfl rfl dX8_readsOrder_135 rfl rfl ?_
              refine V.lv [1, 2, 3, 4, 0] rfl ?_
              exact join_138 (0) ((nb (rg tx ln) p4) + 1) (by
                first
                  | exact (by
                      have hs : s3 (rg tx ln) pl = (w4, p4) := by unfold s3; rw [h4.1, h4.2.1, if_neg c_96]
                      rw [hs]; exact ⟨rfl, rfl⟩)
                  | exact (by
                      have hs : s3 (rg tx ln) pl = (0, nb (rg tx ln) p4 + 1) := by unfold s3; rw [h4.1, h4.2.1, if_pos c_96]; unfold pE; rw [if_pos c_106]
                      rw [hs]; exact ⟨rfl, rfl⟩)
                  | exact (by
                      have hs : s3 (rg tx ln) pl = (1, nb (rg tx ln) p4) := by unfold s3; rw [h4.1, h4.2.1, if_pos c_96]; unfold pE; rw [if_neg c_106]
                      rw [hs]; exact ⟨rfl, by omega⟩))
            · skip
              exact absurd rfl c_126
          · skip
            refine i_iconst (q := 110) C dX8_readsOrder_109 rfl ?_
            refine i_goto (q := 114) C dX8_readsOrder_110 (by decide) ?_
            refine i_putZ (i := 0) (j := 0) (f := 13) (q := 117) (cs' := [mdW am (st, bk, un, ck, ty, tm, tx, ln, rf, dg, dn, rk, nb (rg tx ln) p4, 1, wd2, wm2, od, oc)]) C rfl rfl rfl hi_X8_readsOrder_X8 tyX8 tyX8_ok nmX8 (by decide) (Nat.le_of_ble_eq_true rfl) lk_X8_readsOrder_181 rfl rfl (by omega) dX8_readsOrder_114 rfl rfl ?_
            refine i_aload_n (j := 1) (q := 118) C rfl rfl dX8_readsOrder_117 rfl ?_
            refine i_dup (q := 119) C rfl dX8_readsOrder_118 rfl ?_
            refine i_get (i := 0) (j := 0) (f := 12) (q := 122) C rfl rfl rfl hi_X8_readsOrder_X8 (by decide) lk_X8_readsOrder_168 rfl dX8_readsOrder_119 rfl ?_
            refine i_aload_n (j := 1) (q := 123) C rfl rfl dX8_readsOrder_122 rfl ?_
            refine i_get (i := 0) (j := 0) (f := 13) (q := 126) C rfl rfl rfl hi_X8_readsOrder_X8 (by decide) lk_X8_readsOrder_181 rfl dX8_readsOrder_123 rfl ?_
            refine i_if_eq (tgt := 133) (q := 129) C (by omega) dX8_readsOrder_126 (by decide) rfl (fun c_126 => ?_) (fun c_126 => ?_)
            · skip
              exact absurd c_126 (by omega)
            · skip
              refine i_iconst (q := 130) C dX8_readsOrder_129 rfl ?_
              refine i_goto (q := 134) C dX8_readsOrder_130 (by decide) ?_
              refine i_iadd (q := 135) C dX8_readsOrder_134 rfl ?_
              refine i_putI (i := 0) (j := 0) (f := 12) (q := 138) (cs' := [mdW am (st, bk, un, ck, ty, tm, tx, ln, rf, dg, dn, rk, (nb (rg tx ln) p4) + 0, 1, wd2, wm2, od, oc)]) C rfl rfl rfl hi_X8_readsOrder_X8 tyX8 tyX8_ok nmX8 (by decide) (Nat.le_of_ble_eq_true rfl) lk_X8_readsOrder_168 rfl rfl dX8_readsOrder_135 rfl rfl ?_
              refine V.lv [1, 2, 3, 4, 0] rfl ?_
              exact join_138 (1) ((nb (rg tx ln) p4) + 0) (by
                first
                  | exact (by
                      have hs : s3 (rg tx ln) pl = (w4, p4) := by unfold s3; rw [h4.1, h4.2.1, if_neg c_96]
                      rw [hs]; exact ⟨rfl, rfl⟩)
                  | exact (by
                      have hs : s3 (rg tx ln) pl = (0, nb (rg tx ln) p4 + 1) := by unfold s3; rw [h4.1, h4.2.1, if_pos c_96]; unfold pE; rw [if_pos c_106]
                      rw [hs]; exact ⟨rfl, rfl⟩)
                  | exact (by
                      have hs : s3 (rg tx ln) pl = (1, nb (rg tx ln) p4) := by unfold s3; rw [h4.1, h4.2.1, if_pos c_96]; unfold pE; rw [if_neg c_106]
                      rw [hs]; exact ⟨rfl, by omega⟩))
      refine i_iload_n (j := 3) (q := 76) C rfl rfl dX8_readsOrder_75 rfl ?_
      refine i_iconst (q := 77) C dX8_readsOrder_76 rfl ?_
      refine i_icmp_ne (tgt := 89) (q := 80) C (by omega) (by omega) dX8_readsOrder_77 (by decide) rfl (fun c_77 => ?_) (fun c_77 => ?_)
      · skip
        refine i_iconst (q := 90) C dX8_readsOrder_89 rfl ?_
        refine V.lv [1, 2, 3, 0] rfl ?_
        exact join_90 (w3) (p3) (0) (by
          by_cases e0 : w3 = 0
          · first
              | (have hs : s2 (rg tx ln) pl = pN 9 (rg tx ln) p3 := by unfold s2; rw [h3.1, h3.2.1, if_pos ⟨e0, by omega⟩]
                 rw [hs, if_pos e0, if_pos e0]; exact ⟨rfl, rfl, fun z => by first | exact hr_83 e0 z⟩)
              | (have hs : s2 (rg tx ln) pl = (w3, p3, 0) := by unfold s2; rw [h3.1, h3.2.1, if_neg (by omega)]
                 rw [hs]; exact ⟨rfl, rfl, fun _ => rfl⟩)
          · have hs : s2 (rg tx ln) pl = (w3, p3, 0) := by unfold s2; rw [h3.1, h3.2.1, if_neg (fun z => e0 z.1)]
            rw [hs]
            first
              | (rw [if_neg e0, if_neg e0]; exact ⟨rfl, rfl, fun z => absurd z e0⟩)
              | exact ⟨rfl, rfl, fun z => absurd z e0⟩)
      · skip
        refine i_aload_n (j := 1) (q := 81) C rfl rfl dX8_readsOrder_80 rfl ?_
        refine i_bipush (q := 83) C (by decide) dX8_readsOrder_81 rfl ?_
        refine i_callV (wr := []) (As := [vI 9]) (st := []) (i := 0) (j := 0) (q := 86) C (c_X8_readsNumber K l (am) (st) (bk) (un) (ck) (ty) (tm) (tx) (ln) (rf) (dg) (dn) (rk) (p3) (w3) (wd2) (wm2) (od) (oc) (9) (by first | assumption | omega) (by first | assumption | omega) (by omega) (by omega) (by omega)) gX8_readsOrder_X8_readsNumber rfl hd_X8_readsNumber ⟨Nat.le_of_ble_eq_true rfl, Nat.le_of_ble_eq_true rfl⟩ ⟨rfl, rfl⟩ ⟨Nat.le_of_ble_eq_true rfl, Nat.le_of_ble_eq_true rfl⟩ (permBy [0] (by decide) rfl rfl) rfl rfl rfl rfl (Nat.le_of_ble_eq_true rfl) dX8_readsOrder_83 rfl (fun v w hq => ?_)
        obtain ⟨r_83, rfl, rfl, hr_83⟩ := hq
        show V X 0 0 86 [(3, vI r1), (0, vP (am 0)), (1, vI (12 * oc)), (2, vI ((pV (rg tx ln) pl).2.2))] [vI r_83] [mdW am (st, bk, un, ck, ty, tm, tx, ln, rf, dg, dn, rk, if w3 = 0 then (pN 9 (rg tx ln) p3).2.1 else p3, if w3 = 0 then (pN 9 (rg tx ln) p3).1 else w3, wd2, wm2, od, oc)]
        refine i_goto (q := 90) C dX8_readsOrder_86 (by decide) ?_
        refine V.lv [1, 2, 3, 0] rfl ?_
        exact join_90 (if w3 = 0 then (pN 9 (rg tx ln) p3).1 else w3) (if w3 = 0 then (pN 9 (rg tx ln) p3).2.1 else p3) (r_83) (by
          by_cases e0 : w3 = 0
          · first
              | (have hs : s2 (rg tx ln) pl = pN 9 (rg tx ln) p3 := by unfold s2; rw [h3.1, h3.2.1, if_pos ⟨e0, by omega⟩]
                 rw [hs, if_pos e0, if_pos e0]; exact ⟨rfl, rfl, fun z => by first | exact hr_83 e0 z⟩)
              | (have hs : s2 (rg tx ln) pl = (w3, p3, 0) := by unfold s2; rw [h3.1, h3.2.1, if_neg (by omega)]
                 rw [hs]; exact ⟨rfl, rfl, fun _ => rfl⟩)
          · have hs : s2 (rg tx ln) pl = (w3, p3, 0) := by unfold s2; rw [h3.1, h3.2.1, if_neg (fun z => e0 z.1)]
            rw [hs]
            first
              | (rw [if_neg e0, if_neg e0]; exact ⟨rfl, rfl, fun z => absurd z e0⟩)
              | exact ⟨rfl, rfl, fun z => absurd z e0⟩)
    refine i_iload_n (j := 2) (q := 35) C rfl rfl dX8_readsOrder_34 rfl ?_
    refine i_iconst (q := 36) C dX8_readsOrder_35 rfl ?_
    refine i_icmp_eq (tgt := 50) (q := 39) C (by omega) (by omega) dX8_readsOrder_36 (by decide) rfl (fun c_36 => ?_) (fun c_36 => ?_)
    · skip
      refine i_aload_n (j := 0) (q := 51) C rfl rfl dX8_readsOrder_50 rfl ?_
      refine i_sipush (q := 54) C (by decide) dX8_readsOrder_51 rfl ?_
      refine i_callV (wr := []) (As := [vI 1000]) (st := []) (i := 0) (j := 0) (q := 57) C (c_X8_readsNumber K l (am) (st) (bk) (un) (ck) (ty) (tm) (tx) (ln) (rf) (dg) (dn) (rk) (p2) (w2) (wd2) (wm2) (od) (oc) (1000) (by first | assumption | omega) (by first | assumption | omega) (by omega) (by omega) (by omega)) gX8_readsOrder_X8_readsNumber rfl hd_X8_readsNumber ⟨Nat.le_of_ble_eq_true rfl, Nat.le_of_ble_eq_true rfl⟩ ⟨rfl, rfl⟩ ⟨Nat.le_of_ble_eq_true rfl, Nat.le_of_ble_eq_true rfl⟩ (permBy [0] (by decide) rfl rfl) rfl rfl rfl rfl (Nat.le_of_ble_eq_true rfl) dX8_readsOrder_54 rfl (fun v w hq => ?_)
      obtain ⟨r_54, rfl, rfl, hr_54⟩ := hq
      show V X 0 0 57 [(0, vP (am 0)), (1, vI (12 * oc)), (2, vI ((pV (rg tx ln) pl).2.2))] [vI r_54] [mdW am (st, bk, un, ck, ty, tm, tx, ln, rf, dg, dn, rk, if w2 = 0 then (pN 1000 (rg tx ln) p2).2.1 else p2, if w2 = 0 then (pN 1000 (rg tx ln) p2).1 else w2, wd2, wm2, od, oc)]
      refine i_goto (q := 74) C dX8_readsOrder_57 (by decide) ?_
      exact join_74 (if w2 = 0 then (pN 1000 (rg tx ln) p2).1 else w2) (if w2 = 0 then (pN 1000 (rg tx ln) p2).2.1 else p2) (r_54) (by
        by_cases e0 : w2 = 0
        · first
            | (have hs : s1 (rg tx ln) pl = pN 1000 (rg tx ln) p2 := by unfold s1; rw [h2.1, h2.2.1, if_pos ⟨e0, by omega⟩]
               rw [hs, if_pos e0, if_pos e0]; exact ⟨rfl, rfl, fun z => by first | exact hr_54 e0 z⟩)
            | (have hs : s1 (rg tx ln) pl = pN 4 (rg tx ln) p2 := by unfold s1; rw [h2.1, h2.2.1, if_neg (by omega), if_pos ⟨e0, by omega⟩]
               rw [hs, if_pos e0, if_pos e0]; exact ⟨rfl, rfl, fun z => by first | exact hr_67 e0 z⟩)
            | (have hs : s1 (rg tx ln) pl = (w2, p2, 0) := by unfold s1; rw [h2.1, h2.2.1, if_neg (by omega), if_neg (by omega)]
               rw [hs]; exact ⟨rfl, rfl, fun _ => rfl⟩)
        · have hs : s1 (rg tx ln) pl = (w2, p2, 0) := by unfold s1; rw [h2.1, h2.2.1, if_neg (fun z => e0 z.1), if_neg (fun z => e0 z.1)]
          rw [hs]
          first
            | (rw [if_neg e0, if_neg e0]; exact ⟨rfl, rfl, fun z => absurd z e0⟩)
            | exact ⟨rfl, rfl, fun z => absurd z e0⟩)
    · skip
      refine i_iload_n (j := 2) (q := 40) C rfl rfl dX8_readsOrder_39 rfl ?_
      refine i_iconst (q := 41) C dX8_readsOrder_40 rfl ?_
      refine i_icmp_eq (tgt := 50) (q := 44) C (by omega) (by omega) dX8_readsOrder_41 (by decide) rfl (fun c_41 => ?_) (fun c_41 => ?_)
      · skip
        refine i_aload_n (j := 0) (q := 51) C rfl rfl dX8_readsOrder_50 rfl ?_
        refine i_sipush (q := 54) C (by decide) dX8_readsOrder_51 rfl ?_
        refine i_callV (wr := []) (As := [vI 1000]) (st := []) (i := 0) (j := 0) (q := 57) C (c_X8_readsNumber K l (am) (st) (bk) (un) (ck) (ty) (tm) (tx) (ln) (rf) (dg) (dn) (rk) (p2) (w2) (wd2) (wm2) (od) (oc) (1000) (by first | assumption | omega) (by first | assumption | omega) (by omega) (by omega) (by omega)) gX8_readsOrder_X8_readsNumber rfl hd_X8_readsNumber ⟨Nat.le_of_ble_eq_true rfl, Nat.le_of_ble_eq_true rfl⟩ ⟨rfl, rfl⟩ ⟨Nat.le_of_ble_eq_true rfl, Nat.le_of_ble_eq_true rfl⟩ (permBy [0] (by decide) rfl rfl) rfl rfl rfl rfl (Nat.le_of_ble_eq_true rfl) dX8_readsOrder_54 rfl (fun v w hq => ?_)
        obtain ⟨r_54, rfl, rfl, hr_54⟩ := hq
        show V X 0 0 57 [(0, vP (am 0)), (1, vI (12 * oc)), (2, vI ((pV (rg tx ln) pl).2.2))] [vI r_54] [mdW am (st, bk, un, ck, ty, tm, tx, ln, rf, dg, dn, rk, if w2 = 0 then (pN 1000 (rg tx ln) p2).2.1 else p2, if w2 = 0 then (pN 1000 (rg tx ln) p2).1 else w2, wd2, wm2, od, oc)]
        refine i_goto (q := 74) C dX8_readsOrder_57 (by decide) ?_
        exact join_74 (if w2 = 0 then (pN 1000 (rg tx ln) p2).1 else w2) (if w2 = 0 then (pN 1000 (rg tx ln) p2).2.1 else p2) (r_54) (by
          by_cases e0 : w2 = 0
          · first
              | (have hs : s1 (rg tx ln) pl = pN 1000 (rg tx ln) p2 := by unfold s1; rw [h2.1, h2.2.1, if_pos ⟨e0, by omega⟩]
                 rw [hs, if_pos e0, if_pos e0]; exact ⟨rfl, rfl, fun z => by first | exact hr_54 e0 z⟩)
              | (have hs : s1 (rg tx ln) pl = pN 4 (rg tx ln) p2 := by unfold s1; rw [h2.1, h2.2.1, if_neg (by omega), if_pos ⟨e0, by omega⟩]
                 rw [hs, if_pos e0, if_pos e0]; exact ⟨rfl, rfl, fun z => by first | exact hr_67 e0 z⟩)
              | (have hs : s1 (rg tx ln) pl = (w2, p2, 0) := by unfold s1; rw [h2.1, h2.2.1, if_neg (by omega), if_neg (by omega)]
                 rw [hs]; exact ⟨rfl, rfl, fun _ => rfl⟩)
          · have hs : s1 (rg tx ln) pl = (w2, p2, 0) := by unfold s1; rw [h2.1, h2.2.1, if_neg (fun z => e0 z.1), if_neg (fun z => e0 z.1)]
            rw [hs]
            first
              | (rw [if_neg e0, if_neg e0]; exact ⟨rfl, rfl, fun z => absurd z e0⟩)
              | exact ⟨rfl, rfl, fun z => absurd z e0⟩)
      · skip
        refine i_iload_n (j := 2) (q := 45) C rfl rfl dX8_readsOrder_44 rfl ?_
        refine i_bipush (q := 47) C (by decide) dX8_readsOrder_45 rfl ?_
        refine i_icmp_ne (tgt := 60) (q := 50) C (by omega) (by omega) dX8_readsOrder_47 (by decide) rfl (fun c_47 => ?_) (fun c_47 => ?_)
        · skip
          refine i_iload_n (j := 2) (q := 61) C rfl rfl dX8_readsOrder_60 rfl ?_
          refine i_iconst (q := 62) C dX8_readsOrder_61 rfl ?_
          refine i_icmp_ne (tgt := 73) (q := 65) C (by omega) (by omega) dX8_readsOrder_62 (by decide) rfl (fun c_62 => ?_) (fun c_62 => ?_)
          · skip
            refine i_iconst (q := 74) C dX8_readsOrder_73 rfl ?_
            exact join_74 (w2) (p2) (0) (by
              by_cases e0 : w2 = 0
              · first
                  | (have hs : s1 (rg tx ln) pl = pN 1000 (rg tx ln) p2 := by unfold s1; rw [h2.1, h2.2.1, if_pos ⟨e0, by omega⟩]
                     rw [hs, if_pos e0, if_pos e0]; exact ⟨rfl, rfl, fun z => by first | exact hr_54 e0 z⟩)
                  | (have hs : s1 (rg tx ln) pl = pN 4 (rg tx ln) p2 := by unfold s1; rw [h2.1, h2.2.1, if_neg (by omega), if_pos ⟨e0, by omega⟩]
                     rw [hs, if_pos e0, if_pos e0]; exact ⟨rfl, rfl, fun z => by first | exact hr_67 e0 z⟩)
                  | (have hs : s1 (rg tx ln) pl = (w2, p2, 0) := by unfold s1; rw [h2.1, h2.2.1, if_neg (by omega), if_neg (by omega)]
                     rw [hs]; exact ⟨rfl, rfl, fun _ => rfl⟩)
              · have hs : s1 (rg tx ln) pl = (w2, p2, 0) := by unfold s1; rw [h2.1, h2.2.1, if_neg (fun z => e0 z.1), if_neg (fun z => e0 z.1)]
                rw [hs]
                first
                  | (rw [if_neg e0, if_neg e0]; exact ⟨rfl, rfl, fun z => absurd z e0⟩)
                  | exact ⟨rfl, rfl, fun z => absurd z e0⟩)
          · skip
            refine i_aload_n (j := 0) (q := 66) C rfl rfl dX8_readsOrder_65 rfl ?_
            refine i_iconst (q := 67) C dX8_readsOrder_66 rfl ?_
            refine i_callV (wr := []) (As := [vI 4]) (st := []) (i := 0) (j := 0) (q := 70) C (c_X8_readsNumber K l (am) (st) (bk) (un) (ck) (ty) (tm) (tx) (ln) (rf) (dg) (dn) (rk) (p2) (w2) (wd2) (wm2) (od) (oc) (4) (by first | assumption | omega) (by first | assumption | omega) (by omega) (by omega) (by omega)) gX8_readsOrder_X8_readsNumber rfl hd_X8_readsNumber ⟨Nat.le_of_ble_eq_true rfl, Nat.le_of_ble_eq_true rfl⟩ ⟨rfl, rfl⟩ ⟨Nat.le_of_ble_eq_true rfl, Nat.le_of_ble_eq_true rfl⟩ (permBy [0] (by decide) rfl rfl) rfl rfl rfl rfl (Nat.le_of_ble_eq_true rfl) dX8_readsOrder_67 rfl (fun v w hq => ?_)
            obtain ⟨r_67, rfl, rfl, hr_67⟩ := hq
            show V X 0 0 70 [(0, vP (am 0)), (1, vI (12 * oc)), (2, vI ((pV (rg tx ln) pl).2.2))] [vI r_67] [mdW am (st, bk, un, ck, ty, tm, tx, ln, rf, dg, dn, rk, if w2 = 0 then (pN 4 (rg tx ln) p2).2.1 else p2, if w2 = 0 then (pN 4 (rg tx ln) p2).1 else w2, wd2, wm2, od, oc)]
            refine i_goto (q := 74) C dX8_readsOrder_70 (by decide) ?_
            exact join_74 (if w2 = 0 then (pN 4 (rg tx ln) p2).1 else w2) (if w2 = 0 then (pN 4 (rg tx ln) p2).2.1 else p2) (r_67) (by
              by_cases e0 : w2 = 0
              · first
                  | (have hs : s1 (rg tx ln) pl = pN 1000 (rg tx ln) p2 := by unfold s1; rw [h2.1, h2.2.1, if_pos ⟨e0, by omega⟩]
                     rw [hs, if_pos e0, if_pos e0]; exact ⟨rfl, rfl, fun z => by first | exact hr_54 e0 z⟩)
                  | (have hs : s1 (rg tx ln) pl = pN 4 (rg tx ln) p2 := by unfold s1; rw [h2.1, h2.2.1, if_neg (by omega), if_pos ⟨e0, by omega⟩]
                     rw [hs, if_pos e0, if_pos e0]; exact ⟨rfl, rfl, fun z => by first | exact hr_67 e0 z⟩)
                  | (have hs : s1 (rg tx ln) pl = (w2, p2, 0) := by unfold s1; rw [h2.1, h2.2.1, if_neg (by omega), if_neg (by omega)]
                     rw [hs]; exact ⟨rfl, rfl, fun _ => rfl⟩)
              · have hs : s1 (rg tx ln) pl = (w2, p2, 0) := by unfold s1; rw [h2.1, h2.2.1, if_neg (fun z => e0 z.1), if_neg (fun z => e0 z.1)]
                rw [hs]
                first
                  | (rw [if_neg e0, if_neg e0]; exact ⟨rfl, rfl, fun z => absurd z e0⟩)
                  | exact ⟨rfl, rfl, fun z => absurd z e0⟩)
        · skip
          refine i_aload_n (j := 0) (q := 51) C rfl rfl dX8_readsOrder_50 rfl ?_
          refine i_sipush (q := 54) C (by decide) dX8_readsOrder_51 rfl ?_
          refine i_callV (wr := []) (As := [vI 1000]) (st := []) (i := 0) (j := 0) (q := 57) C (c_X8_readsNumber K l (am) (st) (bk) (un) (ck) (ty) (tm) (tx) (ln) (rf) (dg) (dn) (rk) (p2) (w2) (wd2) (wm2) (od) (oc) (1000) (by first | assumption | omega) (by first | assumption | omega) (by omega) (by omega) (by omega)) gX8_readsOrder_X8_readsNumber rfl hd_X8_readsNumber ⟨Nat.le_of_ble_eq_true rfl, Nat.le_of_ble_eq_true rfl⟩ ⟨rfl, rfl⟩ ⟨Nat.le_of_ble_eq_true rfl, Nat.le_of_ble_eq_true rfl⟩ (permBy [0] (by decide) rfl rfl) rfl rfl rfl rfl (Nat.le_of_ble_eq_true rfl) dX8_readsOrder_54 rfl (fun v w hq => ?_)
          obtain ⟨r_54, rfl, rfl, hr_54⟩ := hq
          show V X 0 0 57 [(0, vP (am 0)), (1, vI (12 * oc)), (2, vI ((pV (rg tx ln) pl).2.2))] [vI r_54] [mdW am (st, bk, un, ck, ty, tm, tx, ln, rf, dg, dn, rk, if w2 = 0 then (pN 1000 (rg tx ln) p2).2.1 else p2, if w2 = 0 then (pN 1000 (rg tx ln) p2).1 else w2, wd2, wm2, od, oc)]
          refine i_goto (q := 74) C dX8_readsOrder_57 (by decide) ?_
          exact join_74 (if w2 = 0 then (pN 1000 (rg tx ln) p2).1 else w2) (if w2 = 0 then (pN 1000 (rg tx ln) p2).2.1 else p2) (r_54) (by
            by_cases e0 : w2 = 0
            · first
                | (have hs : s1 (rg tx ln) pl = pN 1000 (rg tx ln) p2 := by unfold s1; rw [h2.1, h2.2.1, if_pos ⟨e0, by omega⟩]
                   rw [hs, if_pos e0, if_pos e0]; exact ⟨rfl, rfl, fun z => by first | exact hr_54 e0 z⟩)
                | (have hs : s1 (rg tx ln) pl = pN 4 (rg tx ln) p2 := by unfold s1; rw [h2.1, h2.2.1, if_neg (by omega), if_pos ⟨e0, by omega⟩]
                   rw [hs, if_pos e0, if_pos e0]; exact ⟨rfl, rfl, fun z => by first | exact hr_67 e0 z⟩)
                | (have hs : s1 (rg tx ln) pl = (w2, p2, 0) := by unfold s1; rw [h2.1, h2.2.1, if_neg (by omega), if_neg (by omega)]
                   rw [hs]; exact ⟨rfl, rfl, fun _ => rfl⟩)
            · have hs : s1 (rg tx ln) pl = (w2, p2, 0) := by unfold s1; rw [h2.1, h2.2.1, if_neg (fun z => e0 z.1), if_neg (fun z => e0 z.1)]
              rw [hs]
              first
                | (rw [if_neg e0, if_neg e0]; exact ⟨rfl, rfl, fun z => absurd z e0⟩)
                | exact ⟨rfl, rfl, fun z => absurd z e0⟩)
  refine i_aload_n (j := 2) (q := 19) C rfl rfl dX8_readsOrder_18 rfl ?_
  refine i_get (i := 0) (j := 0) (f := 13) (q := 22) C rfl rfl rfl hi_X8_readsOrder_X8 (by decide) lk_X8_readsOrder_181 rfl dX8_readsOrder_19 rfl ?_
  refine i_if_ne (tgt := 34) (q := 25) C (by omega) dX8_readsOrder_22 (by decide) rfl (fun c_22 => ?_) (fun c_22 => ?_)
  · skip
    refine V.lv [2, 1, 0] rfl ?_
    exact join_34 ((pV (rg tx ln) pl).1) ((pV (rg tx ln) pl).2.1) (wd) (0) (by
      first
        | exact (by
            have hs : sW (rg tx ln) pl = pW (rg tx ln) (pV (rg tx ln) pl).2.1 := by unfold sW; rw [if_pos ⟨c_22, by omega⟩]
            rw [hs]
            exact ⟨rfl, rfl, fun z => by
              rcases hw_31 with h | h
              · exact h.2.1
              · omega, by rcases hw_31 with h | h <;> omega⟩)
        | exact (by
            have hs : sW (rg tx ln) pl = ((pV (rg tx ln) pl).1, (pV (rg tx ln) pl).2.1, []) := by unfold sW; rw [if_neg (fun z => by first | exact c_22 z.1 | omega)]
            rw [hs]
            exact ⟨rfl, rfl, fun _ => rg_0 _ (by omega), by omega⟩))
  · skip
    refine i_iload_n (j := 0) (q := 26) C rfl rfl dX8_readsOrder_25 rfl ?_
    refine i_iconst (q := 27) C dX8_readsOrder_26 rfl ?_
    refine i_icmp_gt (tgt := 34) (q := 30) C (by omega) (by omega) dX8_readsOrder_27 (by decide) rfl (fun c_27 => ?_) (fun c_27 => ?_)
    · skip
      refine V.lv [2, 1, 0] rfl ?_
      exact join_34 ((pV (rg tx ln) pl).1) ((pV (rg tx ln) pl).2.1) (wd) (0) (by
        first
          | exact (by
              have hs : sW (rg tx ln) pl = pW (rg tx ln) (pV (rg tx ln) pl).2.1 := by unfold sW; rw [if_pos ⟨c_22, by omega⟩]
              rw [hs]
              exact ⟨rfl, rfl, fun z => by
                rcases hw_31 with h | h
                · exact h.2.1
                · omega, by rcases hw_31 with h | h <;> omega⟩)
          | exact (by
              have hs : sW (rg tx ln) pl = ((pV (rg tx ln) pl).1, (pV (rg tx ln) pl).2.1, []) := by unfold sW; rw [if_neg (fun z => by first | exact c_22 z.1 | omega)]
              rw [hs]
              exact ⟨rfl, rfl, fun _ => rg_0 _ (by omega), by omega⟩))
    · skip
      refine i_aload_n (j := 2) (q := 31) C rfl rfl dX8_readsOrder_30 rfl ?_
      refine i_callV (wr := []) (As := []) (st := []) (i := 0) (j := 0) (q := 34) C (c_X8_readsWord K l (am) (st) (bk) (un) (ck) (ty) (tm) (tx) (ln) (rf) (dg) (dn) (rk) ((pV (rg tx ln) pl).2.1) ((pV (rg tx ln) pl).1) (wd) (0) (od) (oc) (by first | assumption | omega) (by first | assumption | omega) (by omega) (c_22)) gX8_readsOrder_X8_readsWord rfl hd_X8_readsWord ⟨Nat.le_of_ble_eq_true rfl, Nat.le_of_ble_eq_true rfl⟩ ⟨rfl, rfl⟩ ⟨Nat.le_of_ble_eq_true rfl, Nat.le_of_ble_eq_true rfl⟩ (permBy [0] (by decide) rfl rfl) rfl rfl rfl rfl (Nat.le_of_ble_eq_true rfl) dX8_readsOrder_31 rfl (fun v w hq => ?_)
      obtain ⟨wd3_31, wm3_31, rfl, rfl, hw_31⟩ := hq
      show V X 0 0 34 [(2, vI ((pV (rg tx ln) pl).2.2)), (1, vI (12 * oc)), (0, vP (am 0))] [] [mdW am (st, bk, un, ck, ty, tm, tx, ln, rf, dg, dn, rk, (pW (rg tx ln) ((pV (rg tx ln) pl).2.1)).2.1, (pW (rg tx ln) ((pV (rg tx ln) pl).2.1)).1, wd3_31, wm3_31, od, oc)]
      refine V.lv [2, 1, 0] rfl ?_
      exact join_34 ((pW (rg tx ln) ((pV (rg tx ln) pl).2.1)).1) ((pW (rg tx ln) ((pV (rg tx ln) pl).2.1)).2.1) (wd3_31) (wm3_31) (by
        first
          | exact (by
              have hs : sW (rg tx ln) pl = pW (rg tx ln) (pV (rg tx ln) pl).2.1 := by unfold sW; rw [if_pos ⟨c_22, by omega⟩]
              rw [hs]
              exact ⟨rfl, rfl, fun z => by
                rcases hw_31 with h | h
                · exact h.2.1
                · omega, by rcases hw_31 with h | h <;> omega⟩)
          | exact (by
              have hs : sW (rg tx ln) pl = ((pV (rg tx ln) pl).1, (pV (rg tx ln) pl).2.1, []) := by unfold sW; rw [if_neg (fun z => by first | exact c_22 z.1 | omega)]
              rw [hs]
              exact ⟨rfl, rfl, fun _ => rg_0 _ (by omega), by omega⟩))

theorem lk_X8_reads_168 : Cond.fieldLink RX8 168 (TX8 12).1 (TX8 12).2.1 (TX8 12).2.2.1 ∈ wsX8_reads := List.mem_of_getElem? (i := 1) rfl
theorem hi_X8_reads_X8 : ∀ w ∈ u_ws RX8 TX8 18, w ∈ wsX8_reads := by decide +kernel
theorem lk_X8_reads_181 : Cond.fieldLink RX8 181 (TX8 13).1 (TX8 13).2.1 (TX8 13).2.2.1 ∈ wsX8_reads := List.mem_of_getElem? (i := 2) rfl
theorem lk_X8_reads_188 : Cond.fieldLink RX8 188 (TX8 17).1 (TX8 17).2.1 (TX8 17).2.2.1 ∈ wsX8_reads := List.mem_of_getElem? (i := 3) rfl
theorem hd_X8_readsOrder : yX8_readsOrder.cls = RX8 ∧ yX8_readsOrder.cls ≠ "java/lang/invoke/MethodHandle" ∧ yX8_readsOrder.cls ≠ "java/lang/invoke/VarHandle" ∧ (parseMethodDescriptor yX8_readsOrder.desc).map (fun d => d.parameters.length) = some 0 := by decide +kernel
set_option maxHeartbeats 400000 in
set_option maxRecDepth 100000 in
theorem c_X8_reads (K : KT) (l : Launch) (am : Nat → Nat) (st : Int → Int) (bk : Int → Int) (un : Int) (ck : Int) (ty : Int → Int) (tm : Int) (tx : Int → Int) (ln : Int) (rf : Int → Int) (dg : Int) (dn : Int → Int) (rk : Int → Int) (pl : Int) (iw : Int) (wd : Int → Int) (wm : Int) (od : Int → Int) (oc : Int) (hln : 0 ≤ ln ∧ ln ≤ 120) (htx : ∀ k, 0 ≤ k → k < ln → 0 ≤ tx k ∧ tx k ≤ 127) : Mt K l yX8_reads wsX8_reads ({ frames := 4, cells := 0, slots := 0, locals := 93 }) [vP (am 0)] [mdW am (st, bk, un, ck, ty, tm, tx, ln, rf, dg, dn, rk, pl, iw, wd, wm, od, oc)] 0 0 (fun v w => ∃ r : Int, ∃ wd3 : Int → Int, ∃ wm3 : Int, ∃ od3 : Int → Int, ∃ pl3 : Int, ∃ iw3 : Int, ∃ oc3 : Int, v = some (vI r) ∧ w = [mdW am (st, bk, un, ck, ty, tm, tx, ln, rf, dg, dn, rk, pl3, iw3, wd3, wm3, od3, oc3)] ∧ ((r = 1 ∧ (0 ≤ oc3 ∧ oc3 ≤ 24) ∧ pA (rg tx ln) 24 0 [] = (-1, orL od3 oc3) ∧ (∀ q ∈ orL od3 oc3, okOr q) ∧ (∀ i, 0 ≤ i → i < oc3 → 0 ≤ od3 (12 * i + 3) ∧ od3 (12 * i + 3) ≤ 8)) ∨ (r = 0 ∧ 0 ≤ pl3 ∧ (pA (rg tx ln) 24 0 []).1 = pl3))) := by
  refine Mt.of (own := RX8) (cc := cX8_reads) (maxL := 2) (ret := (some .boolean)) (lv0 := [(0, vP (am 0))]) (by decide) rfl rfl (Nat.le_of_ble_eq_true rfl) rfl (fun X C hR hNm => ?_)
  have hTl : (((rg tx ln).length : Nat) : Int) = ln := by rw [rg_len]; omega
  refine i_aload_n (j := 0) (q := 1) C rfl rfl dX8_reads_0 rfl ?_
  refine i_iconst (q := 2) C dX8_reads_1 rfl ?_
  refine i_putI (i := 0) (j := 0) (f := 12) (q := 5) (cs' := [mdW am (st, bk, un, ck, ty, tm, tx, ln, rf, dg, dn, rk, 0, iw, wd, wm, od, oc)]) C rfl rfl rfl hi_X8_reads_X8 tyX8 tyX8_ok nmX8 (by decide) (Nat.le_of_ble_eq_true rfl) lk_X8_reads_168 rfl rfl dX8_reads_2 rfl rfl ?_
  refine i_aload_n (j := 0) (q := 6) C rfl rfl dX8_reads_5 rfl ?_
  refine i_iconst (q := 7) C dX8_reads_6 rfl ?_
  refine i_putZ (i := 0) (j := 0) (f := 13) (q := 10) (cs' := [mdW am (st, bk, un, ck, ty, tm, tx, ln, rf, dg, dn, rk, 0, 0, wd, wm, od, oc)]) C rfl rfl rfl hi_X8_reads_X8 tyX8 tyX8_ok nmX8 (by decide) (Nat.le_of_ble_eq_true rfl) lk_X8_reads_181 rfl rfl (by omega) dX8_reads_7 rfl rfl ?_
  refine i_aload_n (j := 0) (q := 11) C rfl rfl dX8_reads_10 rfl ?_
  refine i_iconst (q := 12) C dX8_reads_11 rfl ?_
  refine i_putI (i := 0) (j := 0) (f := 17) (q := 15) (cs' := [mdW am (st, bk, un, ck, ty, tm, tx, ln, rf, dg, dn, rk, 0, 0, wd, wm, od, 0)]) C rfl rfl rfl hi_X8_reads_X8 tyX8 tyX8_ok nmX8 (by decide) (Nat.le_of_ble_eq_true rfl) lk_X8_reads_188 rfl rfl dX8_reads_12 rfl rfl ?_
  refine i_iconst (q := 16) C dX8_reads_15 rfl ?_
  refine i_istore_n (q := 17) (lv' := [(1, vI 0), (0, vP (am 0))]) C rfl (by decide) rfl dX8_reads_16 rfl ?_
  have loop_17 : ∀ (fuel : Nat) (a : Int) (w : Int) (p : Int) (n : Int) (wd4 : Int → Int) (wm4 : Int) (od4 : Int → Int), ((if w = 0 then (ln - p).toNat + 1 else 0)) < fuel → ((a = 0 ∨ a = 1) ∧ (w = 0 ∨ w = 1)) → (0 ≤ p ∧ p ≤ ln) → (0 ≤ n ∧ (w = 0 → 5 * n ≤ p ∧ (∀ q ∈ orL od4 n, okOr q))) → (w = 0 → ∀ i, 0 ≤ i → i < n → 0 ≤ od4 (12 * i + 3) ∧ od4 (12 * i + 3) ≤ 8) → ((w = 0 ∧ a = 0 ∧ n = 0 ∧ p = 0) ∨ (w = 0 ∧ a = 1 ∧ (if nb (rg tx ln) p < ln then pA (rg tx ln) (24 - n.toNat) (nb (rg tx ln) p) (orL od4 n) else (-1, orL od4 n)) = pA (rg tx ln) 24 0 []) ∨ (w = 1 ∧ a = 1 ∧ (pA (rg tx ln) 24 0 []).1 = p)) → V X 0 0 17 [(0, vP (am 0)), (1, vI a)] [] [mdW am (st, bk, un, ck, ty, tm, tx, ln, rf, dg, dn, rk, p, w, wd4, wm4, od4, n)] := by
    intro fuel
    induction fuel with
    | zero => intro a w p n wd4 wm4 od4 hz; exact absurd hz (Nat.not_lt_zero _)
    | succ fuel ih_17 =>
      intro a w p n wd4 wm4 od4 hfu_17 ha hp hn h8 hv
      refine i_aload_n (j := 0) (q := 18) C rfl rfl dX8_reads_17 rfl ?_
      refine i_get (i := 0) (j := 0) (f := 13) (q := 21) C rfl rfl rfl hi_X8_reads_X8 (by decide) lk_X8_reads_181 rfl dX8_reads_18 rfl ?_
      refine i_if_ne (tgt := 44) (q := 24) C (by omega) dX8_reads_21 (by decide) rfl (fun c_21 => ?_) (fun c_21 => ?_)
      · skip
        refine i_aload_n (j := 0) (q := 45) C rfl rfl dX8_reads_44 rfl ?_
        refine i_get (i := 0) (j := 0) (f := 13) (q := 48) C rfl rfl rfl hi_X8_reads_X8 (by decide) lk_X8_reads_181 rfl dX8_reads_45 rfl ?_
        refine i_if_ne (tgt := 55) (q := 51) C (by omega) dX8_reads_48 (by decide) rfl (fun c_48 => ?_) (fun c_48 => ?_)
        · skip
          refine i_iconst (q := 56) C dX8_reads_55 rfl ?_
          refine i_zret C hR (by omega) dX8_reads_56 ?_
          exact ⟨0, wd4, wm4, od4, p, w, n, rfl, rfl, Or.inr ⟨rfl, by omega, by
            rcases hv with h | h | h
            · omega
            · omega
            · exact h.2.2⟩⟩
        · skip
          refine i_iconst (q := 52) C dX8_reads_51 rfl ?_
          refine i_goto (q := 56) C dX8_reads_52 (by decide) ?_
          refine i_zret C hR (by omega) dX8_reads_56 ?_
          exact absurd c_48 c_21
      · skip
        refine i_aload_n (j := 0) (q := 25) C rfl rfl dX8_reads_24 rfl ?_
        refine i_callV (wr := []) (As := []) (st := []) (i := 0) (j := 0) (q := 28) C (c_X8_here K l (am) (st) (bk) (un) (ck) (ty) (tm) (tx) (ln) (rf) (dg) (dn) (rk) (p) (w) (wd4) (wm4) (od4) (n) (by first | assumption | omega) (by first | assumption | omega) (by omega)) gX8_reads_X8_here rfl hd_X8_here ⟨Nat.le_of_ble_eq_true rfl, Nat.le_of_ble_eq_true rfl⟩ ⟨rfl, rfl⟩ ⟨Nat.le_of_ble_eq_true rfl, Nat.le_of_ble_eq_true rfl⟩ (permBy [0] (by decide) rfl rfl) rfl rfl rfl rfl (Nat.le_of_ble_eq_true rfl) dX8_reads_25 rfl (fun v w hq => ?_)
        obtain ⟨rfl, rfl⟩ := hq
        show V X 0 0 28 [(0, vP (am 0)), (1, vI a)] [vI ((rg tx ln).getD (nb (rg tx ln) p).toNat (-1))] [mdW am (st, bk, un, ck, ty, tm, tx, ln, rf, dg, dn, rk, nb (rg tx ln) p, w, wd4, wm4, od4, n)]
        have hnbp := nb_b (rg tx ln) (p := p) (by omega) (by omega)
        rw [hTl] at hnbp
        have hgt : 0 ≤ (rg tx ln).getD (nb (rg tx ln) p).toNat (-1) ↔ nb (rg tx ln) p < ln := gd_lt htx (by omega)
        refine i_if_ge (tgt := 35) (q := 31) C (gd_r htx) dX8_reads_28 (by decide) rfl (fun c_28 => ?_) (fun c_28 => ?_)
        · skip
          have hpa : n < 24 ∧ pA (rg tx ln) 24 0 [] = pA (rg tx ln) (24 - n.toNat) (nb (rg tx ln) p) (orL od4 n) := by
            rcases hv with h | h | h
            · obtain ⟨-, -, h1, h2⟩ := h
              subst h1; subst h2
              exact ⟨by omega, (pA_nb (rg tx ln) 23 (by omega) []).symm⟩
            · have hlt : nb (rg tx ln) p < ln := by
                first | exact hgt.mp c_28 | omega
              have h3 := h.2.2
              rw [if_pos hlt] at h3
              exact ⟨by have := (hn.2 c_21).1; omega, h3.symm⟩
            · omega
          obtain ⟨kk, hkk⟩ : ∃ kk, 24 - n.toNat = kk + 1 := ⟨24 - n.toNat - 1, by omega⟩
          have hpb := hpa.2
          rw [hkk, pA_s (rg tx ln) kk (nb (rg tx ln) p) (orL od4 n)] at hpb
          refine i_aload_n (j := 0) (q := 36) C rfl rfl dX8_reads_35 rfl ?_
          refine i_callV (wr := []) (As := []) (st := []) (i := 0) (j := 0) (q := 39) C (c_X8_readsOrder K l (am) (st) (bk) (un) (ck) (ty) (tm) (tx) (ln) (rf) (dg) (dn) (rk) (nb (rg tx ln) p) (w) (wd4) (wm4) (od4) (n) (by first | assumption | omega) (by first | assumption | omega) (by omega) (by omega)) gX8_reads_X8_readsOrder rfl hd_X8_readsOrder ⟨Nat.le_of_ble_eq_true rfl, Nat.le_of_ble_eq_true rfl⟩ ⟨rfl, rfl⟩ ⟨Nat.le_of_ble_eq_true rfl, Nat.le_of_ble_eq_true rfl⟩ (permBy [0] (by decide) rfl rfl) rfl rfl rfl rfl (Nat.le_of_ble_eq_true rfl) dX8_reads_36 rfl (fun v w hq => ?_)
          obtain ⟨wd3_36, wm3_36, od3_36, rfl, rfl, ho1_36, ho2_36, ho3_36⟩ := hq
          show V X 0 0 39 [(0, vP (am 0)), (1, vI a)] [] [mdW am (st, bk, un, ck, ty, tm, tx, ln, rf, dg, dn, rk, (s3 (rg tx ln) (nb (rg tx ln) p)).2, (s3 (rg tx ln) (nb (rg tx ln) p)).1, wd3_36, wm3_36, od3_36, n + 1)]
          have hsb := s3_b (T := (rg tx ln)) (p := nb (rg tx ln) p) (by omega) (by omega)
          rw [hTl] at hsb
          have hol : orL od3_36 (n + 1) = orL od4 n ++ [orA od3_36 n] := by rw [orL_s _ (by omega), orL_ext (fun i g0 g1 => (h8 c_21 i g0 g1).2) ho2_36]
          refine i_iconst (q := 40) C dX8_reads_39 rfl ?_
          refine i_istore_n (q := 41) (lv' := [(1, vI 1), (0, vP (am 0))]) C rfl (by decide) rfl dX8_reads_40 rfl ?_
          refine i_goto (q := 17) C dX8_reads_41 (by decide) ?_
          refine V.lv [1, 0] rfl ?_
          exact ih_17 (1) ((s3 (rg tx ln) (nb (rg tx ln) p)).1) ((s3 (rg tx ln) (nb (rg tx ln) p)).2) (n + 1) (wd3_36) (wm3_36) (od3_36) (by rw [if_pos c_21] at hfu_17; rcases hsb with h | h; (rw [if_pos h.1]; omega); (rw [if_neg (by omega)]; omega)) (by rcases hsb with h | h <;> omega) (by rcases hsb with h | h <;> omega) (⟨by omega, fun z => by
            rcases hsb with h | h
            · refine ⟨by have := (hn.2 c_21).1; omega, fun q hq => ?_⟩
              rw [hol, List.mem_append] at hq
              rcases hq with hq | hq
              · exact (hn.2 c_21).2 q hq
              · rw [List.mem_singleton.mp hq, ho1_36 h.1]; exact h.2.2
            · omega⟩) (fun z i g0 g1 => by
            by_cases e : i = n
            · subst e; exact ho3_36
            · rw [ho2_36 _ (by omega)]; exact h8 c_21 i g0 (by omega)) (by
            rcases hsb with h | h
            · rw [if_pos h.1] at hpb
              refine Or.inr (Or.inl ⟨h.1, rfl, ?_⟩)
              rw [hpb, hol, ho1_36 h.1, hTl, show 24 - (n + 1).toNat = kk by omega]
            · rw [if_neg (by omega)] at hpb
              exact Or.inr (Or.inr ⟨h.1, rfl, by rw [hpb]⟩))
        · skip
          refine i_iload_n (j := 1) (q := 32) C rfl rfl dX8_reads_31 rfl ?_
          refine i_if_ne (tgt := 44) (q := 35) C (by omega) dX8_reads_32 (by decide) rfl (fun c_32 => ?_) (fun c_32 => ?_)
          · skip
            refine i_aload_n (j := 0) (q := 45) C rfl rfl dX8_reads_44 rfl ?_
            refine i_get (i := 0) (j := 0) (f := 13) (q := 48) C rfl rfl rfl hi_X8_reads_X8 (by decide) lk_X8_reads_181 rfl dX8_reads_45 rfl ?_
            refine i_if_ne (tgt := 55) (q := 51) C (by omega) dX8_reads_48 (by decide) rfl (fun c_48 => ?_) (fun c_48 => ?_)
            · skip
              refine i_iconst (q := 56) C dX8_reads_55 rfl ?_
              refine i_zret C hR (by omega) dX8_reads_56 ?_
              exact absurd c_21 c_48
            · skip
              refine i_iconst (q := 52) C dX8_reads_51 rfl ?_
              refine i_goto (q := 56) C dX8_reads_52 (by decide) ?_
              refine i_zret C hR (by omega) dX8_reads_56 ?_
              exact ⟨1, wd4, wm4, od4, nb (rg tx ln) p, w, n, rfl, rfl, Or.inl ⟨rfl, by have := (hn.2 c_21).1; omega, by
                rcases hv with h | h | h
                · omega
                · have h3 := h.2.2
                  rw [if_neg (fun z => by have := hgt.mpr z; omega)] at h3
                  exact h3.symm
                · omega, (hn.2 c_21).2, h8 c_21⟩⟩
          · skip
            have hpa : n < 24 ∧ pA (rg tx ln) 24 0 [] = pA (rg tx ln) (24 - n.toNat) (nb (rg tx ln) p) (orL od4 n) := by
              rcases hv with h | h | h
              · obtain ⟨-, -, h1, h2⟩ := h
                subst h1; subst h2
                exact ⟨by omega, (pA_nb (rg tx ln) 23 (by omega) []).symm⟩
              · have hlt : nb (rg tx ln) p < ln := by
                  first | exact hgt.mp c_28 | omega
                have h3 := h.2.2
                rw [if_pos hlt] at h3
                exact ⟨by have := (hn.2 c_21).1; omega, h3.symm⟩
              · omega
            obtain ⟨kk, hkk⟩ : ∃ kk, 24 - n.toNat = kk + 1 := ⟨24 - n.toNat - 1, by omega⟩
            have hpb := hpa.2
            rw [hkk, pA_s (rg tx ln) kk (nb (rg tx ln) p) (orL od4 n)] at hpb
            refine i_aload_n (j := 0) (q := 36) C rfl rfl dX8_reads_35 rfl ?_
            refine i_callV (wr := []) (As := []) (st := []) (i := 0) (j := 0) (q := 39) C (c_X8_readsOrder K l (am) (st) (bk) (un) (ck) (ty) (tm) (tx) (ln) (rf) (dg) (dn) (rk) (nb (rg tx ln) p) (w) (wd4) (wm4) (od4) (n) (by first | assumption | omega) (by first | assumption | omega) (by omega) (by omega)) gX8_reads_X8_readsOrder rfl hd_X8_readsOrder ⟨Nat.le_of_ble_eq_true rfl, Nat.le_of_ble_eq_true rfl⟩ ⟨rfl, rfl⟩ ⟨Nat.le_of_ble_eq_true rfl, Nat.le_of_ble_eq_true rfl⟩ (permBy [0] (by decide) rfl rfl) rfl rfl rfl rfl (Nat.le_of_ble_eq_true rfl) dX8_reads_36 rfl (fun v w hq => ?_)
            obtain ⟨wd3_36, wm3_36, od3_36, rfl, rfl, ho1_36, ho2_36, ho3_36⟩ := hq
            show V X 0 0 39 [(0, vP (am 0)), (1, vI a)] [] [mdW am (st, bk, un, ck, ty, tm, tx, ln, rf, dg, dn, rk, (s3 (rg tx ln) (nb (rg tx ln) p)).2, (s3 (rg tx ln) (nb (rg tx ln) p)).1, wd3_36, wm3_36, od3_36, n + 1)]
            have hsb := s3_b (T := (rg tx ln)) (p := nb (rg tx ln) p) (by omega) (by omega)
            rw [hTl] at hsb
            have hol : orL od3_36 (n + 1) = orL od4 n ++ [orA od3_36 n] := by rw [orL_s _ (by omega), orL_ext (fun i g0 g1 => (h8 c_21 i g0 g1).2) ho2_36]
            refine i_iconst (q := 40) C dX8_reads_39 rfl ?_
            refine i_istore_n (q := 41) (lv' := [(1, vI 1), (0, vP (am 0))]) C rfl (by decide) rfl dX8_reads_40 rfl ?_
            refine i_goto (q := 17) C dX8_reads_41 (by decide) ?_
            refine V.lv [1, 0] rfl ?_
            exact ih_17 (1) ((s3 (rg tx ln) (nb (rg tx ln) p)).1) ((s3 (rg tx ln) (nb (rg tx ln) p)).2) (n + 1) (wd3_36) (wm3_36) (od3_36) (by rw [if_pos c_21] at hfu_17; rcases hsb with h | h; (rw [if_pos h.1]; omega); (rw [if_neg (by omega)]; omega)) (by rcases hsb with h | h <;> omega) (by rcases hsb with h | h <;> omega) (⟨by omega, fun z => by
              rcases hsb with h | h
              · refine ⟨by have := (hn.2 c_21).1; omega, fun q hq => ?_⟩
                rw [hol, List.mem_append] at hq
                rcases hq with hq | hq
                · exact (hn.2 c_21).2 q hq
                · rw [List.mem_singleton.mp hq, ho1_36 h.1]; exact h.2.2
              · omega⟩) (fun z i g0 g1 => by
              by_cases e : i = n
              · subst e; exact ho3_36
              · rw [ho2_36 _ (by omega)]; exact h8 c_21 i g0 (by omega)) (by
              rcases hsb with h | h
              · rw [if_pos h.1] at hpb
                refine Or.inr (Or.inl ⟨h.1, rfl, ?_⟩)
                rw [hpb, hol, ho1_36 h.1, hTl, show 24 - (n + 1).toNat = kk by omega]
              · rw [if_neg (by omega)] at hpb
                exact Or.inr (Or.inr ⟨h.1, rfl, by rw [hpb]⟩))
  refine V.lv [1, 0] rfl ?_
  exact loop_17 _ (0) (0) (0) (0) (wd) (wm) (od) (Nat.lt_succ_self _) (by omega) (by omega) (⟨by omega, fun _ => ⟨by omega, fun q hq => by simp [orL] at hq⟩⟩) (fun _ i _ _ => by omega) (Or.inl ⟨rfl, rfl, rfl, rfl⟩)
