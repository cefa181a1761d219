theorem lk_X8_readsWord_181 : Cond.fieldLink RX8 181 (TX8 13).1 (TX8 13).2.1 (TX8 13).2.2.1 ∈ wsX8_readsWord := List.mem_of_getElem? (i := 1) rfl
theorem hi_X8_readsWord_X8 : ∀ w ∈ u_ws RX8 TX8 18, w ∈ wsX8_readsWord := by decide +kernel
theorem lk_X8_readsWord_185 : Cond.fieldLink RX8 185 (TX8 15).1 (TX8 15).2.1 (TX8 15).2.2.1 ∈ wsX8_readsWord := List.mem_of_getElem? (i := 5) rfl
theorem lk_X8_readsWord_168 : Cond.fieldLink RX8 168 (TX8 12).1 (TX8 12).2.1 (TX8 12).2.2.1 ∈ wsX8_readsWord := List.mem_of_getElem? (i := 3) rfl
theorem lk_X8_readsWord_32 : Cond.fieldLink RX8 32 (TX8 14).1 (TX8 14).2.1 (TX8 14).2.2.1 ∈ wsX8_readsWord := List.mem_of_getElem? (i := 4) rfl
theorem lk_X8_readsWord_20 : Cond.fieldLink RX8 20 (TX8 6).1 (TX8 6).2.1 (TX8 6).2.2.1 ∈ wsX8_readsWord := List.mem_of_getElem? (i := 2) rfl
set_option maxHeartbeats 400000 in
set_option maxRecDepth 100000 in
theorem c_X8_readsWord (K : KT) (l : Launch) (am : Nat → Nat) (st : Int → Int) (bk : Int → Int) (un : Int) (ck : Int) (ty : Int → Int) (tm : Int) (tx : Int → Int) (ln : Int) (rf : Int → Int) (dg : Int) (dn : Int → Int) (rk : Int → Int) (pl : Int) (iw : Int) (wd : Int → Int) (wm : Int) (od : Int → Int) (oc : Int) (hln : 0 ≤ ln ∧ ln ≤ 120) (htx : ∀ k, 0 ≤ k → k < ln → 0 ≤ tx k ∧ tx k ≤ 127) (hpl : 0 ≤ pl ∧ pl ≤ ln) (hiw : iw = 0) : Mt K l yX8_readsWord wsX8_readsWord ({ frames := 2, cells := 0, slots := 0, locals := 45 }) [vP (am 0)] [mdW am (st, bk, un, ck, ty, tm, tx, ln, rf, dg, dn, rk, pl, iw, wd, wm, od, oc)] 0 0 (fun v w => ∃ wd3 : Int → Int, ∃ wm3 : Int, v = none ∧ w = [mdW am (st, bk, un, ck, ty, tm, tx, ln, rf, dg, dn, rk, (pW (rg tx ln) pl).2.1, (pW (rg tx ln) pl).1, wd3, wm3, od, oc)] ∧ (((pW (rg tx ln) pl).1 = 0 ∧ rg wd3 wm3 = (pW (rg tx ln) pl).2.2 ∧ 1 ≤ wm3 ∧ wm3 ≤ 8) ∨ ((pW (rg tx ln) pl).1 = 1 ∧ wm3 = wm))) := by
  refine Mt.of (own := RX8) (cc := cX8_readsWord) (maxL := 3) (ret := none) (lv0 := [(0, vP (am 0))]) (by decide) rfl rfl (Nat.le_of_ble_eq_true rfl) rfl (fun X C hR hNm => ?_)
  have hTl : (((rg tx ln).length : Nat) : Int) = ln := by rw [rg_len]; omega
  have hnbb := nb_b (rg tx ln) (p := pl) hpl.1 (by omega)
  rw [hTl] at hnbb
  refine i_aload_n (j := 0) (q := 1) C rfl rfl dX8_readsWord_0 rfl ?_
  refine i_get (i := 0) (j := 0) (f := 13) (q := 4) C rfl rfl rfl hi_X8_readsWord_X8 (by decide) lk_X8_readsWord_181 rfl dX8_readsWord_1 rfl ?_
  refine i_if_eq (tgt := 8) (q := 7) C (by omega) dX8_readsWord_4 (by decide) rfl (fun c_4 => ?_) (fun c_4 => ?_)
  · skip
    refine i_aload_n (j := 0) (q := 9) C rfl rfl dX8_readsWord_8 rfl ?_
    refine i_bipush (q := 11) C (by decide) dX8_readsWord_9 rfl ?_
    refine i_bipush (q := 13) C (by decide) dX8_readsWord_11 rfl ?_
    refine i_callV (wr := []) (As := [vI 97, vI 122]) (st := []) (i := 0) (j := 0) (q := 16) C (c_X8_run K l (am) (st) (bk) (un) (ck) (ty) (tm) (tx) (ln) (rf) (dg) (dn) (rk) (pl) (iw) (wd) (wm) (od) (oc) (97) (122) (by first | assumption | omega) (by first | assumption | omega) (by first | assumption | omega) (by first | assumption | omega) (by first | assumption | omega)) gX8_readsWord_X8_run rfl hd_X8_run ⟨Nat.le_of_ble_eq_true rfl, Nat.le_of_ble_eq_true rfl⟩ ⟨rfl, rfl⟩ ⟨Nat.le_of_ble_eq_true rfl, Nat.le_of_ble_eq_true rfl⟩ (permBy [0] (by decide) rfl rfl) rfl rfl rfl rfl (Nat.le_of_ble_eq_true rfl) dX8_readsWord_13 rfl (fun v w hq => ?_)
    obtain ⟨rfl, rfl⟩ := hq
    show V X 0 0 16 [(0, vP (am 0))] [vI (rn 97 122 (rg tx ln) (nb (rg tx ln) pl))] [mdW am (st, bk, un, ck, ty, tm, tx, ln, rf, dg, dn, rk, nb (rg tx ln) pl, iw, wd, wm, od, oc)]
    have hrnb := twl_b (fun c => decide (97 ≤ c) && decide (c ≤ 122)) (rg tx ln) (p := nb (rg tx ln) pl) (by omega) (by omega)
    rw [hTl] at hrnb
    have hr2 : 0 ≤ rn 97 122 (rg tx ln) (nb (rg tx ln) pl) ∧ nb (rg tx ln) pl + rn 97 122 (rg tx ln) (nb (rg tx ln) pl) ≤ ln := hrnb
    have hall := allB_iff (tx := tx) (ln := ln) (pl := nb (rg tx ln) pl) (n := rn 97 122 (rg tx ln) (nb (rg tx ln) pl)) (by omega) hr2.1 hr2.2
    refine i_istore_n (q := 17) (lv' := [(1, vI (rn 97 122 (rg tx ln) (nb (rg tx ln) pl))), (0, vP (am 0))]) C rfl (by decide) rfl dX8_readsWord_16 rfl ?_
    refine i_aload_n (j := 1) (q := 18) C rfl rfl dX8_readsWord_17 rfl ?_
    have join_33 : ∀ (bb : Int), ((bb = 0 ∧ (1 ≤ rn 97 122 (rg tx ln) (nb (rg tx ln) pl) ∧ rn 97 122 (rg tx ln) (nb (rg tx ln) pl) ≤ 8)) ∨ (bb = 1 ∧ ¬ (1 ≤ rn 97 122 (rg tx ln) (nb (rg tx ln) pl) ∧ rn 97 122 (rg tx ln) (nb (rg tx ln) pl) ≤ 8))) → V X 0 0 33 [(0, vP (am 0)), (1, vI (rn 97 122 (rg tx ln) (nb (rg tx ln) pl)))] [vI bb, vP (am 0)] [mdW am (st, bk, un, ck, ty, tm, tx, ln, rf, dg, dn, rk, nb (rg tx ln) pl, iw, wd, wm, od, oc)] := by
      intro bb hb1
      refine i_putZ (i := 0) (j := 0) (f := 13) (q := 36) (cs' := [mdW am (st, bk, un, ck, ty, tm, tx, ln, rf, dg, dn, rk, nb (rg tx ln) pl, bb, wd, wm, od, oc)]) C rfl rfl rfl hi_X8_readsWord_X8 tyX8 tyX8_ok nmX8 (by decide) (Nat.le_of_ble_eq_true rfl) lk_X8_readsWord_181 rfl rfl (by omega) dX8_readsWord_33 rfl rfl ?_
      refine i_iconst (q := 37) C dX8_readsWord_36 rfl ?_
      refine i_istore_n (q := 38) (lv' := [(2, vI 0), (0, vP (am 0)), (1, vI (rn 97 122 (rg tx ln) (nb (rg tx ln) pl)))]) C rfl (by decide) rfl dX8_readsWord_37 rfl ?_
      have join_86 : ∀ (bb : Int), ((bb = 0 ∧ (1 ≤ rn 97 122 (rg tx ln) (nb (rg tx ln) pl) ∧ rn 97 122 (rg tx ln) (nb (rg tx ln) pl) ≤ 8) ∧ allB 97 104 (sli (rg tx ln) (nb (rg tx ln) pl) (rn 97 122 (rg tx ln) (nb (rg tx ln) pl))) = true) ∨ (bb = 1 ∧ ¬ ((1 ≤ rn 97 122 (rg tx ln) (nb (rg tx ln) pl) ∧ rn 97 122 (rg tx ln) (nb (rg tx ln) pl) ≤ 8) ∧ allB 97 104 (sli (rg tx ln) (nb (rg tx ln) pl) (rn 97 122 (rg tx ln) (nb (rg tx ln) pl))) = true))) → V X 0 0 86 [(0, vP (am 0)), (1, vI (rn 97 122 (rg tx ln) (nb (rg tx ln) pl)))] [] [mdW am (st, bk, un, ck, ty, tm, tx, ln, rf, dg, dn, rk, nb (rg tx ln) pl, bb, wd, wm, od, oc)] := by
        intro bb hg
        refine i_aload_n (j := 0) (q := 87) C rfl rfl dX8_readsWord_86 rfl ?_
        refine i_get (i := 0) (j := 0) (f := 13) (q := 90) C rfl rfl rfl hi_X8_readsWord_X8 (by decide) lk_X8_readsWord_181 rfl dX8_readsWord_87 rfl ?_
        refine i_if_ne (tgt := 141) (q := 93) C (by omega) dX8_readsWord_90 (by decide) rfl (fun c_90 => ?_) (fun c_90 => ?_)
        · skip
          have hbad : ¬ ((1 ≤ rn 97 122 (rg tx ln) (nb (rg tx ln) pl) ∧ rn 97 122 (rg tx ln) (nb (rg tx ln) pl) ≤ 8) ∧ allB 97 104 (sli (rg tx ln) (nb (rg tx ln) pl) (rn 97 122 (rg tx ln) (nb (rg tx ln) pl))) = true) := by
            rcases hg with h | h
            · omega
            · exact h.2
          refine i_vret C hR dX8_readsWord_141 ?_
          have hpw : pW (rg tx ln) pl = (1, nb (rg tx ln) pl, []) := by unfold pW; rw [if_neg hbad]
          have hbb : bb = 1 := by
            rcases hg with h | h
            · exact absurd h.2 hbad
            · exact h.1
          exact ⟨wd, wm, rfl, by rw [hpw, hbb], Or.inr ⟨by rw [hpw], rfl⟩⟩
        · skip
          have hgood : (1 ≤ rn 97 122 (rg tx ln) (nb (rg tx ln) pl) ∧ rn 97 122 (rg tx ln) (nb (rg tx ln) pl) ≤ 8) ∧ allB 97 104 (sli (rg tx ln) (nb (rg tx ln) pl) (rn 97 122 (rg tx ln) (nb (rg tx ln) pl))) = true := by
            rcases hg with h | h
            · exact h.2
            · omega
          refine i_iconst (q := 94) C dX8_readsWord_93 rfl ?_
          refine i_istore_n (q := 95) (lv' := [(2, vI 0), (0, vP (am 0)), (1, vI (rn 97 122 (rg tx ln) (nb (rg tx ln) pl)))]) C rfl (by decide) rfl dX8_readsWord_94 rfl ?_
          have loop_95 : ∀ (fuel : Nat) (k : Int) (wd4 : Int → Int), ((rn 97 122 (rg tx ln) (nb (rg tx ln) pl) - k).toNat) < fuel → (0 ≤ k ∧ k ≤ rn 97 122 (rg tx ln) (nb (rg tx ln) pl)) → (∀ j, 0 ≤ j → j < k → wd4 j = tx (nb (rg tx ln) pl + j) - 97) → V X 0 0 95 [(0, vP (am 0)), (1, vI (rn 97 122 (rg tx ln) (nb (rg tx ln) pl))), (2, vI k)] [] [mdW am (st, bk, un, ck, ty, tm, tx, ln, rf, dg, dn, rk, nb (rg tx ln) pl, bb, wd4, wm, od, oc)] := by
            intro fuel
            induction fuel with
            | zero => intro k wd4 hz; exact absurd hz (Nat.not_lt_zero _)
            | succ fuel ih_95 =>
              intro k wd4 hfu_95 hk hw4
              refine i_iload_n (j := 2) (q := 96) C rfl rfl dX8_readsWord_95 rfl ?_
              refine i_iload_n (j := 1) (q := 97) C rfl rfl dX8_readsWord_96 rfl ?_
              refine i_icmp_ge (tgt := 126) (q := 100) C (by omega) (by omega) dX8_readsWord_97 (by decide) rfl (fun c_97 => ?_) (fun c_97 => ?_)
              · skip
                refine i_aload_n (j := 0) (q := 127) C rfl rfl dX8_readsWord_126 rfl ?_
                refine i_iload_n (j := 1) (q := 128) C rfl rfl dX8_readsWord_127 rfl ?_
                refine i_putI (i := 0) (j := 0) (f := 15) (q := 131) (cs' := [mdW am (st, bk, un, ck, ty, tm, tx, ln, rf, dg, dn, rk, nb (rg tx ln) pl, bb, wd4, rn 97 122 (rg tx ln) (nb (rg tx ln) pl), od, oc)]) C rfl rfl rfl hi_X8_readsWord_X8 tyX8 tyX8_ok nmX8 (by decide) (Nat.le_of_ble_eq_true rfl) lk_X8_readsWord_185 rfl rfl dX8_readsWord_128 rfl rfl ?_
                refine i_aload_n (j := 0) (q := 132) C rfl rfl dX8_readsWord_131 rfl ?_
                refine i_dup (q := 133) C rfl dX8_readsWord_132 rfl ?_
                refine i_get (i := 0) (j := 0) (f := 12) (q := 136) C rfl rfl rfl hi_X8_readsWord_X8 (by decide) lk_X8_readsWord_168 rfl dX8_readsWord_133 rfl ?_
                refine i_iload_n (j := 1) (q := 137) C rfl rfl dX8_readsWord_136 rfl ?_
                refine i_iadd (q := 138) C dX8_readsWord_137 rfl ?_
                refine i_putI (i := 0) (j := 0) (f := 12) (q := 141) (cs' := [mdW am (st, bk, un, ck, ty, tm, tx, ln, rf, dg, dn, rk, (nb (rg tx ln) pl) + (rn 97 122 (rg tx ln) (nb (rg tx ln) pl)), bb, wd4, rn 97 122 (rg tx ln) (nb (rg tx ln) pl), od, oc)]) C rfl rfl rfl hi_X8_readsWord_X8 tyX8 tyX8_ok nmX8 (by decide) (Nat.le_of_ble_eq_true rfl) lk_X8_readsWord_168 rfl rfl dX8_readsWord_138 rfl rfl ?_
                refine i_vret C hR dX8_readsWord_141 ?_
                have hpw : pW (rg tx ln) pl = (0, nb (rg tx ln) pl + rn 97 122 (rg tx ln) (nb (rg tx ln) pl), (sli (rg tx ln) (nb (rg tx ln) pl) (rn 97 122 (rg tx ln) (nb (rg tx ln) pl))).map (fun c => c - 97)) := by unfold pW; rw [if_pos hgood]
                have hbb : bb = 0 := by
                  rcases hg with h | h
                  · exact h.1
                  · exact absurd hgood h.2
                exact ⟨wd4, rn 97 122 (rg tx ln) (nb (rg tx ln) pl), rfl, by rw [hpw, hbb], Or.inl ⟨by rw [hpw], by
                  rw [hpw]
                  simp only
                  rw [sli_rg (by omega) hr2.1 hr2.2, rg_map]
                  exact rg_ext (fun j g0 g1 => hw4 j g0 (by omega)), hgood.1⟩⟩
              · skip
                refine i_aload_n (j := 0) (q := 101) C rfl rfl dX8_readsWord_100 rfl ?_
                refine i_get (i := 0) (j := 0) (f := 14) (q := 104) C rfl rfl rfl hi_X8_readsWord_X8 (by decide) lk_X8_readsWord_32 rfl dX8_readsWord_101 rfl ?_
                refine i_iload_n (j := 2) (q := 105) C rfl rfl dX8_readsWord_104 rfl ?_
                refine i_aload_n (j := 0) (q := 106) C rfl rfl dX8_readsWord_105 rfl ?_
                refine i_get (i := 0) (j := 0) (f := 6) (q := 109) C rfl rfl rfl hi_X8_readsWord_X8 (by decide) lk_X8_readsWord_20 rfl dX8_readsWord_106 rfl ?_
                refine i_aload_n (j := 0) (q := 110) C rfl rfl dX8_readsWord_109 rfl ?_
                refine i_get (i := 0) (j := 0) (f := 12) (q := 113) C rfl rfl rfl hi_X8_readsWord_X8 (by decide) lk_X8_readsWord_168 rfl dX8_readsWord_110 rfl ?_
                refine i_iload_n (j := 2) (q := 114) C rfl rfl dX8_readsWord_113 rfl ?_
                refine i_iadd (q := 115) C dX8_readsWord_114 rfl ?_
                refine i_iald (i := 0) (j := 4) (q := 116) C rfl rfl (by omega) dX8_readsWord_115 rfl ?_
                have ld_115 := htx (nb (rg tx ln) pl + k) (by omega) (by omega)
                refine i_bipush (q := 118) C (by decide) dX8_readsWord_116 rfl ?_
                refine i_isub (q := 119) C dX8_readsWord_118 rfl ?_
                refine i_iast (i := 0) (j := 8) (q := 120) (cs' := [mdW am (st, bk, un, ck, ty, tm, tx, ln, rf, dg, dn, rk, nb (rg tx ln) pl, bb, up wd4 k ((tx ((nb (rg tx ln) pl) + k)) - 97), wm, od, oc)]) C rfl rfl (by omega) dX8_readsWord_119 rfl rfl ?_
                refine i_iinc (j := 2) (q := 123) (lv' := [(2, vI (k + 1)), (0, vP (am 0)), (1, vI (rn 97 122 (rg tx ln) (nb (rg tx ln) pl)))]) C rfl (by decide) rfl dX8_readsWord_120 rfl ?_
                refine i_goto (q := 95) C dX8_readsWord_123 (by decide) ?_
                refine V.lv [1, 2, 0] rfl ?_
                exact ih_95 (k + 1) (up wd4 k ((tx ((nb (rg tx ln) pl) + k)) - 97)) (by omega) (by omega) (fun j g0 g1 => by
                  by_cases e : j = k
                  · subst e; rw [up_s]
                  · rw [up_n _ _ e]; exact hw4 j g0 (by omega))
          refine V.lv [1, 2, 0] rfl ?_
          exact loop_95 _ (0) (wd) (Nat.lt_succ_self _) (by omega) (fun j _ _ => by omega)
      have loop_38 : ∀ (fuel : Nat) (k : Int) (bb : Int), ((rn 97 122 (rg tx ln) (nb (rg tx ln) pl) - k).toNat) < fuel → (0 ≤ k ∧ k ≤ rn 97 122 (rg tx ln) (nb (rg tx ln) pl)) → ((bb = 0 ∧ (1 ≤ rn 97 122 (rg tx ln) (nb (rg tx ln) pl) ∧ rn 97 122 (rg tx ln) (nb (rg tx ln) pl) ≤ 8) ∧ ∀ j, 0 ≤ j → j < k → 97 ≤ tx (nb (rg tx ln) pl + j) ∧ tx (nb (rg tx ln) pl + j) ≤ 104) ∨ (bb = 1 ∧ ¬ ((1 ≤ rn 97 122 (rg tx ln) (nb (rg tx ln) pl) ∧ rn 97 122 (rg tx ln) (nb (rg tx ln) pl) ≤ 8) ∧ ∀ j, 0 ≤ j → j < rn 97 122 (rg tx ln) (nb (rg tx ln) pl) → 97 ≤ tx (nb (rg tx ln) pl + j) ∧ tx (nb (rg tx ln) pl + j) ≤ 104))) → V X 0 0 38 [(0, vP (am 0)), (1, vI (rn 97 122 (rg tx ln) (nb (rg tx ln) pl))), (2, vI k)] [] [mdW am (st, bk, un, ck, ty, tm, tx, ln, rf, dg, dn, rk, nb (rg tx ln) pl, bb, wd, wm, od, oc)] := by
        intro fuel
        induction fuel with
        | zero => intro k bb hz; exact absurd hz (Nat.not_lt_zero _)
        | succ fuel ih_38 =>
          intro k bb hfu_38 hk hb2
          refine i_iload_n (j := 2) (q := 39) C rfl rfl dX8_readsWord_38 rfl ?_
          refine i_iload_n (j := 1) (q := 40) C rfl rfl dX8_readsWord_39 rfl ?_
          refine i_icmp_ge (tgt := 86) (q := 43) C (by omega) (by omega) dX8_readsWord_40 (by decide) rfl (fun c_40 => ?_) (fun c_40 => ?_)
          · skip
            refine V.lv [0, 1] rfl ?_
            exact join_86 (bb) (by
              rcases hb2 with h | h
              · first
                  | exact Or.inl ⟨h.1, h.2.1, hall.mpr (fun j g0 g1 => h.2.2 j g0 (by omega))⟩
                  | omega
              · exact Or.inr ⟨h.1, fun z => h.2 ⟨z.1, hall.mp z.2⟩⟩)
          · skip
            refine i_aload_n (j := 0) (q := 44) C rfl rfl dX8_readsWord_43 rfl ?_
            refine i_get (i := 0) (j := 0) (f := 13) (q := 47) C rfl rfl rfl hi_X8_readsWord_X8 (by decide) lk_X8_readsWord_181 rfl dX8_readsWord_44 rfl ?_
            refine i_if_ne (tgt := 86) (q := 50) C (by omega) dX8_readsWord_47 (by decide) rfl (fun c_47 => ?_) (fun c_47 => ?_)
            · skip
              refine V.lv [0, 1] rfl ?_
              exact join_86 (bb) (by
                rcases hb2 with h | h
                · first
                    | exact Or.inl ⟨h.1, h.2.1, hall.mpr (fun j g0 g1 => h.2.2 j g0 (by omega))⟩
                    | omega
                · exact Or.inr ⟨h.1, fun z => h.2 ⟨z.1, hall.mp z.2⟩⟩)
            · skip
              have hyes : (1 ≤ rn 97 122 (rg tx ln) (nb (rg tx ln) pl) ∧ rn 97 122 (rg tx ln) (nb (rg tx ln) pl) ≤ 8) ∧ ∀ j, 0 ≤ j → j < k → 97 ≤ tx (nb (rg tx ln) pl + j) ∧ tx (nb (rg tx ln) pl + j) ≤ 104 := by
                rcases hb2 with h | h
                · exact h.2
                · omega
              refine i_aload_n (j := 0) (q := 51) C rfl rfl dX8_readsWord_50 rfl ?_
              refine i_aload_n (j := 0) (q := 52) C rfl rfl dX8_readsWord_51 rfl ?_
              refine i_get (i := 0) (j := 0) (f := 6) (q := 55) C rfl rfl rfl hi_X8_readsWord_X8 (by decide) lk_X8_readsWord_20 rfl dX8_readsWord_52 rfl ?_
              refine i_aload_n (j := 0) (q := 56) C rfl rfl dX8_readsWord_55 rfl ?_
              refine i_get (i := 0) (j := 0) (f := 12) (q := 59) C rfl rfl rfl hi_X8_readsWord_X8 (by decide) lk_X8_readsWord_168 rfl dX8_readsWord_56 rfl ?_
              refine i_iload_n (j := 2) (q := 60) C rfl rfl dX8_readsWord_59 rfl ?_
              refine i_iadd (q := 61) C dX8_readsWord_60 rfl ?_
              refine i_iald (i := 0) (j := 4) (q := 62) C rfl rfl (by omega) dX8_readsWord_61 rfl ?_
              have ld_61 := htx (nb (rg tx ln) pl + k) (by omega) (by omega)
              refine i_bipush (q := 64) C (by decide) dX8_readsWord_62 rfl ?_
              refine i_bipush (q := 66) C (by decide) dX8_readsWord_64 rfl ?_
              refine i_callS (wr := [mdW am (st, bk, un, ck, ty, tm, tx, ln, rf, dg, dn, rk, nb (rg tx ln) pl, bb, wd, wm, od, oc)]) (As := [vI (tx ((nb (rg tx ln) pl) + k)), vI 97, vI 104]) (st := [vP (am 0)]) (q := 69) C (c_X8_in K l (tx ((nb (rg tx ln) pl) + k)) (97) (104) (by omega) (by omega) (by omega)) gX8_readsWord_X8_in rfl hd_X8_in ⟨Nat.le_of_ble_eq_true rfl, Nat.le_of_ble_eq_true rfl⟩ ⟨rfl, rfl⟩ ⟨Nat.le_of_ble_eq_true rfl, Nat.le_of_ble_eq_true rfl⟩ (permBy [0] (by decide) rfl rfl) rfl (Nat.le_of_ble_eq_true rfl) dX8_readsWord_66 rfl (fun v w hq => ?_)
              obtain ⟨rfl, rfl⟩ := hq
              show V X 0 0 69 [(0, vP (am 0)), (1, vI (rn 97 122 (rg tx ln) (nb (rg tx ln) pl))), (2, vI k)] [vI (if 97 ≤ (tx ((nb (rg tx ln) pl) + k)) ∧ (tx ((nb (rg tx ln) pl) + k)) ≤ 104 then 1 else 0), vP (am 0)] [mdW am (st, bk, un, ck, ty, tm, tx, ln, rf, dg, dn, rk, nb (rg tx ln) pl, bb, wd, wm, od, oc)]
              refine i_if_ne (tgt := 76) (q := 72) C (if01) dX8_readsWord_69 (by decide) rfl (fun c_69 => ?_) (fun c_69 => ?_)
              · skip
                have h_69 := ifn0 c_69
                refine i_iconst (q := 77) C dX8_readsWord_76 rfl ?_
                refine i_putZ (i := 0) (j := 0) (f := 13) (q := 80) (cs' := [mdW am (st, bk, un, ck, ty, tm, tx, ln, rf, dg, dn, rk, nb (rg tx ln) pl, 0, wd, wm, od, oc)]) C rfl rfl rfl hi_X8_readsWord_X8 tyX8 tyX8_ok nmX8 (by decide) (Nat.le_of_ble_eq_true rfl) lk_X8_readsWord_181 rfl rfl (by omega) dX8_readsWord_77 rfl rfl ?_
                refine i_iinc (j := 2) (q := 83) (lv' := [(2, vI (k + 1)), (0, vP (am 0)), (1, vI (rn 97 122 (rg tx ln) (nb (rg tx ln) pl)))]) C rfl (by decide) rfl dX8_readsWord_80 rfl ?_
                refine i_goto (q := 38) C dX8_readsWord_83 (by decide) ?_
                refine V.lv [1, 2, 0] rfl ?_
                exact ih_38 (k + 1) (0) (by omega) (by omega) (by
                  first
                    | exact Or.inr ⟨rfl, fun z => h_69 (z.2 k (by omega) (by omega))⟩
                    | exact Or.inl ⟨rfl, hyes.1, fun j g0 g1 => by
                        by_cases e : j = k
                        · subst e; exact h_69
                        · exact hyes.2 j g0 (by omega)⟩)
              · skip
                have h_69 := if0 c_69
                refine i_iconst (q := 73) C dX8_readsWord_72 rfl ?_
                refine i_goto (q := 77) C dX8_readsWord_73 (by decide) ?_
                refine i_putZ (i := 0) (j := 0) (f := 13) (q := 80) (cs' := [mdW am (st, bk, un, ck, ty, tm, tx, ln, rf, dg, dn, rk, nb (rg tx ln) pl, 1, wd, wm, od, oc)]) C rfl rfl rfl hi_X8_readsWord_X8 tyX8 tyX8_ok nmX8 (by decide) (Nat.le_of_ble_eq_true rfl) lk_X8_readsWord_181 rfl rfl (by omega) dX8_readsWord_77 rfl rfl ?_
                refine i_iinc (j := 2) (q := 83) (lv' := [(2, vI (k + 1)), (0, vP (am 0)), (1, vI (rn 97 122 (rg tx ln) (nb (rg tx ln) pl)))]) C rfl (by decide) rfl dX8_readsWord_80 rfl ?_
                refine i_goto (q := 38) C dX8_readsWord_83 (by decide) ?_
                refine V.lv [1, 2, 0] rfl ?_
                exact ih_38 (k + 1) (1) (by omega) (by omega) (by
                  first
                    | exact Or.inr ⟨rfl, fun z => h_69 (z.2 k (by omega) (by omega))⟩
                    | exact Or.inl ⟨rfl, hyes.1, fun j g0 g1 => by
                        by_cases e : j = k
                        · subst e; exact h_69
                        · exact hyes.2 j g0 (by omega)⟩)
      refine V.lv [1, 2, 0] rfl ?_
      exact loop_38 _ (0) (bb) (Nat.lt_succ_self _) (by omega) (by
        rcases hb1 with h | h
        · exact Or.inl ⟨h.1, h.2, fun j _ _ => by omega⟩
        · exact Or.inr ⟨h.1, fun z => h.2 z.1⟩)
    refine i_iload_n (j := 0) (q := 19) C rfl rfl dX8_readsWord_18 rfl ?_
    refine i_iconst (q := 20) C dX8_readsWord_19 rfl ?_
    refine i_bipush (q := 22) C (by decide) dX8_readsWord_20 rfl ?_
    refine i_callS (wr := [mdW am (st, bk, un, ck, ty, tm, tx, ln, rf, dg, dn, rk, nb (rg tx ln) pl, iw, wd, wm, od, oc)]) (As := [vI (rn 97 122 (rg tx ln) (nb (rg tx ln) pl)), vI 1, vI 8]) (st := [vP (am 0)]) (q := 25) C (c_X8_in K l (rn 97 122 (rg tx ln) (nb (rg tx ln) pl)) (1) (8) (by omega) (by omega) (by omega)) gX8_readsWord_X8_in rfl hd_X8_in ⟨Nat.le_of_ble_eq_true rfl, Nat.le_of_ble_eq_true rfl⟩ ⟨rfl, rfl⟩ ⟨Nat.le_of_ble_eq_true rfl, Nat.le_of_ble_eq_true rfl⟩ (permBy [0] (by decide) rfl rfl) rfl (Nat.le_of_ble_eq_true rfl) dX8_readsWord_22 rfl (fun v w hq => ?_)
    obtain ⟨rfl, rfl⟩ := hq
    show V X 0 0 25 [(1, vI (rn 97 122 (rg tx ln) (nb (rg tx ln) pl))), (0, vP (am 0))] [vI (if 1 ≤ (rn 97 122 (rg tx ln) (nb (rg tx ln) pl)) ∧ (rn 97 122 (rg tx ln) (nb (rg tx ln) pl)) ≤ 8 then 1 else 0), vP (am 0)] [mdW am (st, bk, un, ck, ty, tm, tx, ln, rf, dg, dn, rk, nb (rg tx ln) pl, iw, wd, wm, od, oc)]
    refine i_if_ne (tgt := 32) (q := 28) C (if01) dX8_readsWord_25 (by decide) rfl (fun c_25 => ?_) (fun c_25 => ?_)
    · skip
      have h_25 := ifn0 c_25
      refine i_iconst (q := 33) C dX8_readsWord_32 rfl ?_
      refine V.lv [1, 0] rfl ?_
      exact join_33 (0) (by first | exact Or.inl ⟨rfl, h_25⟩ | exact Or.inr ⟨rfl, h_25⟩)
    · skip
      have h_25 := if0 c_25
      refine i_iconst (q := 29) C dX8_readsWord_28 rfl ?_
      refine i_goto (q := 33) C dX8_readsWord_29 (by decide) ?_
      refine V.lv [1, 0] rfl ?_
      exact join_33 (1) (by first | exact Or.inl ⟨rfl, h_25⟩ | exact Or.inr ⟨rfl, h_25⟩)
  · skip
    exact absurd hiw c_4

theorem lk_X8_readsNumber_181 : Cond.fieldLink RX8 181 (TX8 13).1 (TX8 13).2.1 (TX8 13).2.2.1 ∈ wsX8_readsNumber := List.mem_of_getElem? (i := 1) rfl
theorem hi_X8_readsNumber_X8 : ∀ w ∈ u_ws RX8 TX8 18, w ∈ wsX8_readsNumber := by decide +kernel
theorem lk_X8_readsNumber_168 : Cond.fieldLink RX8 168 (TX8 12).1 (TX8 12).2.1 (TX8 12).2.2.1 ∈ wsX8_readsNumber := List.mem_of_getElem? (i := 3) rfl
theorem lk_X8_readsNumber_20 : Cond.fieldLink RX8 20 (TX8 6).1 (TX8 6).2.1 (TX8 6).2.2.1 ∈ wsX8_readsNumber := List.mem_of_getElem? (i := 2) rfl
set_option maxHeartbeats 400000 in
set_option maxRecDepth 100000 in
theorem c_X8_readsNumber (K : KT) (l : Launch) (am : Nat → Nat) (st : Int → Int) (bk : Int → Int) (un : Int) (ck : Int) (ty : Int → Int) (tm : Int) (tx : Int → Int) (ln : Int) (rf : Int → Int) (dg : Int) (dn : Int → Int) (rk : Int → Int) (pl : Int) (iw : Int) (wd : Int → Int) (wm : Int) (od : Int → Int) (oc : Int) (x : Int) (hln : 0 ≤ ln ∧ ln ≤ 120) (htx : ∀ k, 0 ≤ k → k < ln → 0 ≤ tx k ∧ tx k ≤ 127) (hpl : 0 ≤ pl ∧ pl ≤ ln) (hiw : iw = 0 ∨ iw = 1) (hx : rI x) : Mt K l yX8_readsNumber wsX8_readsNumber ({ frames := 2, cells := 0, slots := 0, locals := 45 }) [vP (am 0), vI x] [mdW am (st, bk, un, ck, ty, tm, tx, ln, rf, dg, dn, rk, pl, iw, wd, wm, od, oc)] 0 0 (fun v w => ∃ r : Int, v = some (vI r) ∧ w = [mdW am (st, bk, un, ck, ty, tm, tx, ln, rf, dg, dn, rk, if iw = 0 then (pN x (rg tx ln) pl).2.1 else pl, if iw = 0 then (pN x (rg tx ln) pl).1 else iw, wd, wm, od, oc)] ∧ (iw = 0 → (pN x (rg tx ln) pl).1 = 0 → r = (pN x (rg tx ln) pl).2.2)) := by
  refine Mt.of (own := RX8) (cc := cX8_readsNumber) (maxL := 5) (ret := (some .int)) (lv0 := [(0, vP (am 0)), (1, vI x)]) (by decide) rfl rfl (Nat.le_of_ble_eq_true rfl) rfl (fun X C hR hNm => ?_)
  have hTl : (((rg tx ln).length : Nat) : Int) = ln := by rw [rg_len]; omega
  have hnbb := nb_b (rg tx ln) (p := pl) hpl.1 (by omega)
  rw [hTl] at hnbb
  refine i_aload_n (j := 0) (q := 1) C rfl rfl dX8_readsNumber_0 rfl ?_
  refine i_get (i := 0) (j := 0) (f := 13) (q := 4) C rfl rfl rfl hi_X8_readsNumber_X8 (by decide) lk_X8_readsNumber_181 rfl dX8_readsNumber_1 rfl ?_
  refine i_if_eq (tgt := 9) (q := 7) C (by omega) dX8_readsNumber_4 (by decide) rfl (fun c_4 => ?_) (fun c_4 => ?_)
  · skip
    refine i_aload_n (j := 0) (q := 10) C rfl rfl dX8_readsNumber_9 rfl ?_
    refine i_bipush (q := 12) C (by decide) dX8_readsNumber_10 rfl ?_
    refine i_bipush (q := 14) C (by decide) dX8_readsNumber_12 rfl ?_
    refine i_callV (wr := []) (As := [vI 48, vI 57]) (st := []) (i := 0) (j := 0) (q := 17) C (c_X8_run K l (am) (st) (bk) (un) (ck) (ty) (tm) (tx) (ln) (rf) (dg) (dn) (rk) (pl) (iw) (wd) (wm) (od) (oc) (48) (57) (by first | assumption | omega) (by first | assumption | omega) (by first | assumption | omega) (by first | assumption | omega) (by first | assumption | omega)) gX8_readsNumber_X8_run rfl hd_X8_run ⟨Nat.le_of_ble_eq_true rfl, Nat.le_of_ble_eq_true rfl⟩ ⟨rfl, rfl⟩ ⟨Nat.le_of_ble_eq_true rfl, Nat.le_of_ble_eq_true rfl⟩ (permBy [0] (by decide) rfl rfl) rfl rfl rfl rfl (Nat.le_of_ble_eq_true rfl) dX8_readsNumber_14 rfl (fun v w hq => ?_)
    obtain ⟨rfl, rfl⟩ := hq
    show V X 0 0 17 [(0, vP (am 0)), (1, vI x)] [vI (rn 48 57 (rg tx ln) (nb (rg tx ln) pl))] [mdW am (st, bk, un, ck, ty, tm, tx, ln, rf, dg, dn, rk, nb (rg tx ln) pl, iw, wd, wm, od, oc)]
    have hrnb := twl_b (fun c => decide (48 ≤ c) && decide (c ≤ 57)) (rg tx ln) (p := nb (rg tx ln) pl) (by omega) (by omega)
    rw [hTl] at hrnb
    have hr2 : 0 ≤ rn 48 57 (rg tx ln) (nb (rg tx ln) pl) ∧ nb (rg tx ln) pl + rn 48 57 (rg tx ln) (nb (rg tx ln) pl) ≤ ln := hrnb
    have hsl := sli_rg (f := tx) (n := ln) (p := nb (rg tx ln) pl) (k := rn 48 57 (rg tx ln) (nb (rg tx ln) pl)) (by omega) hr2.1 hr2.2
    refine i_istore_n (q := 18) (lv' := [(2, vI (rn 48 57 (rg tx ln) (nb (rg tx ln) pl))), (0, vP (am 0)), (1, vI x)]) C rfl (by decide) rfl dX8_readsNumber_17 rfl ?_
    refine i_iconst (q := 19) C dX8_readsNumber_18 rfl ?_
    refine i_istore_n (q := 20) (lv' := [(3, vI 0), (2, vI (rn 48 57 (rg tx ln) (nb (rg tx ln) pl))), (0, vP (am 0)), (1, vI x)]) C rfl (by decide) rfl dX8_readsNumber_19 rfl ?_
    refine i_iconst (q := 21) C dX8_readsNumber_20 rfl ?_
    refine i_istore (q := 23) (lv' := [(4, vI 0), (3, vI 0), (2, vI (rn 48 57 (rg tx ln) (nb (rg tx ln) pl))), (0, vP (am 0)), (1, vI x)]) C (by decide) rfl dX8_readsNumber_21 rfl ?_
    have loop_23 : ∀ (fuel : Nat) (k : Int) (vv : Int), ((rn 48 57 (rg tx ln) (nb (rg tx ln) pl) - k).toNat) < fuel → (0 ≤ k ∧ k ≤ rn 48 57 (rg tx ln) (nb (rg tx ln) pl)) → (vv = numv (rg (fun j => tx (nb (rg tx ln) pl + j)) k)) → (0 ≤ vv ∧ vv < 10 ^ k.toNat) → (k = 0 ∨ rn 48 57 (rg tx ln) (nb (rg tx ln) pl) < 5) → V X 0 0 23 [(0, vP (am 0)), (1, vI x), (2, vI (rn 48 57 (rg tx ln) (nb (rg tx ln) pl))), (3, vI vv), (4, vI k)] [] [mdW am (st, bk, un, ck, ty, tm, tx, ln, rf, dg, dn, rk, nb (rg tx ln) pl, iw, wd, wm, od, oc)] := by
      intro fuel
      induction fuel with
      | zero => intro k vv hz; exact absurd hz (Nat.not_lt_zero _)
      | succ fuel ih_23 =>
        intro k vv hfu_23 hk hv hvb hst
        refine i_iload (j := 4) (q := 25) C rfl dX8_readsNumber_23 rfl ?_
        refine i_iload_n (j := 2) (q := 26) C rfl rfl dX8_readsNumber_25 rfl ?_
        refine i_icmp_ge (tgt := 61) (q := 29) C (by omega) (by omega) dX8_readsNumber_26 (by decide) rfl (fun c_26 => ?_) (fun c_26 => ?_)
        · skip
          skip
          refine i_aload_n (j := 0) (q := 62) C rfl rfl dX8_readsNumber_61 rfl ?_
          refine i_iload_n (j := 2) (q := 63) C rfl rfl dX8_readsNumber_62 rfl ?_
          refine i_iconst (q := 64) C dX8_readsNumber_63 rfl ?_
          refine i_iconst (q := 65) C dX8_readsNumber_64 rfl ?_
          refine i_callS (wr := [mdW am (st, bk, un, ck, ty, tm, tx, ln, rf, dg, dn, rk, nb (rg tx ln) pl, iw, wd, wm, od, oc)]) (As := [vI (rn 48 57 (rg tx ln) (nb (rg tx ln) pl)), vI 1, vI 4]) (st := [vP (am 0)]) (q := 68) C (c_X8_in K l (rn 48 57 (rg tx ln) (nb (rg tx ln) pl)) (1) (4) (by omega) (by omega) (by omega)) gX8_readsNumber_X8_in rfl hd_X8_in ⟨Nat.le_of_ble_eq_true rfl, Nat.le_of_ble_eq_true rfl⟩ ⟨rfl, rfl⟩ ⟨Nat.le_of_ble_eq_true rfl, Nat.le_of_ble_eq_true rfl⟩ (permBy [0] (by decide) rfl rfl) rfl (Nat.le_of_ble_eq_true rfl) dX8_readsNumber_65 rfl (fun v w hq => ?_)
          obtain ⟨rfl, rfl⟩ := hq
          show V X 0 0 68 [(0, vP (am 0)), (1, vI x), (2, vI (rn 48 57 (rg tx ln) (nb (rg tx ln) pl))), (3, vI vv), (4, vI k)] [vI (if 1 ≤ (rn 48 57 (rg tx ln) (nb (rg tx ln) pl)) ∧ (rn 48 57 (rg tx ln) (nb (rg tx ln) pl)) ≤ 4 then 1 else 0), vP (am 0)] [mdW am (st, bk, un, ck, ty, tm, tx, ln, rf, dg, dn, rk, nb (rg tx ln) pl, iw, wd, wm, od, oc)]
          refine i_if_eq (tgt := 76) (q := 71) C (if01) dX8_readsNumber_68 (by decide) rfl (fun c_68 => ?_) (fun c_68 => ?_)
          · skip
            have h_68 := if0 c_68
            refine i_iconst (q := 77) C dX8_readsNumber_76 rfl ?_
            refine i_goto (q := 81) C dX8_readsNumber_77 (by decide) ?_
            refine i_putZ (i := 0) (j := 0) (f := 13) (q := 84) (cs' := [mdW am (st, bk, un, ck, ty, tm, tx, ln, rf, dg, dn, rk, nb (rg tx ln) pl, 1, wd, wm, od, oc)]) C rfl rfl rfl hi_X8_readsNumber_X8 tyX8 tyX8_ok nmX8 (by decide) (Nat.le_of_ble_eq_true rfl) lk_X8_readsNumber_181 rfl rfl (by omega) dX8_readsNumber_81 rfl rfl ?_
            refine i_aload_n (j := 0) (q := 85) C rfl rfl dX8_readsNumber_84 rfl ?_
            refine i_dup (q := 86) C rfl dX8_readsNumber_85 rfl ?_
            refine i_get (i := 0) (j := 0) (f := 12) (q := 89) C rfl rfl rfl hi_X8_readsNumber_X8 (by decide) lk_X8_readsNumber_168 rfl dX8_readsNumber_86 rfl ?_
            refine i_aload_n (j := 0) (q := 90) C rfl rfl dX8_readsNumber_89 rfl ?_
            refine i_get (i := 0) (j := 0) (f := 13) (q := 93) C rfl rfl rfl hi_X8_readsNumber_X8 (by decide) lk_X8_readsNumber_181 rfl dX8_readsNumber_90 rfl ?_
            refine i_if_eq (tgt := 100) (q := 96) C (by omega) dX8_readsNumber_93 (by decide) rfl (fun c_93 => ?_) (fun c_93 => ?_)
            · skip
              exact absurd c_93 (by omega)
            · skip
              refine i_iconst (q := 97) C dX8_readsNumber_96 rfl ?_
              refine i_goto (q := 101) C dX8_readsNumber_97 (by decide) ?_
              refine i_iadd (q := 102) C dX8_readsNumber_101 rfl ?_
              refine i_putI (i := 0) (j := 0) (f := 12) (q := 105) (cs' := [mdW am (st, bk, un, ck, ty, tm, tx, ln, rf, dg, dn, rk, (nb (rg tx ln) pl) + 0, 1, wd, wm, od, oc)]) C rfl rfl rfl hi_X8_readsNumber_X8 tyX8 tyX8_ok nmX8 (by decide) (Nat.le_of_ble_eq_true rfl) lk_X8_readsNumber_168 rfl rfl dX8_readsNumber_102 rfl rfl ?_
              refine i_iload_n (j := 3) (q := 106) C rfl rfl dX8_readsNumber_105 rfl ?_
              refine i_iret C hR dX8_readsNumber_106 ?_
              have e0 : iw = 0 := c_4
              have hbad : ¬ ((1 ≤ rn 48 57 (rg tx ln) (nb (rg tx ln) pl) ∧ rn 48 57 (rg tx ln) (nb (rg tx ln) pl) ≤ 4) ∧ numv (sli (rg tx ln) (nb (rg tx ln) pl) (rn 48 57 (rg tx ln) (nb (rg tx ln) pl))) ≤ x) := by first | exact fun z => h_68 z.1 | exact fun z => absurd z.2 (by rw [← hvv]; omega)
              have hpn : pN x (rg tx ln) pl = (1, nb (rg tx ln) pl, 0) := by unfold pN; rw [if_neg hbad]
              exact ⟨vv, rfl, by rw [if_pos e0, if_pos e0, hpn, Int.add_zero], fun _ z => by rw [hpn] at z; exact absurd z (show ¬ (1 : Int) = 0 by decide)⟩
          · skip
            have h_68 := ifn0 c_68
            have hkn : k = rn 48 57 (rg tx ln) (nb (rg tx ln) pl) := by omega
            have hvv : vv = numv (sli (rg tx ln) (nb (rg tx ln) pl) (rn 48 57 (rg tx ln) (nb (rg tx ln) pl))) := by
              rw [hsl, ← hkn]; exact hv
            refine i_iload_n (j := 3) (q := 72) C rfl rfl dX8_readsNumber_71 rfl ?_
            refine i_iload_n (j := 1) (q := 73) C rfl rfl dX8_readsNumber_72 rfl ?_
            refine i_icmp_le (tgt := 80) (q := 76) C (by have := numb4 hvb (show k ≤ 4 by omega); omega) (by omega) dX8_readsNumber_73 (by decide) rfl (fun c_73 => ?_) (fun c_73 => ?_)
            · skip
              refine i_iconst (q := 81) C dX8_readsNumber_80 rfl ?_
              refine i_putZ (i := 0) (j := 0) (f := 13) (q := 84) (cs' := [mdW am (st, bk, un, ck, ty, tm, tx, ln, rf, dg, dn, rk, nb (rg tx ln) pl, 0, wd, wm, od, oc)]) C rfl rfl rfl hi_X8_readsNumber_X8 tyX8 tyX8_ok nmX8 (by decide) (Nat.le_of_ble_eq_true rfl) lk_X8_readsNumber_181 rfl rfl (by omega) dX8_readsNumber_81 rfl rfl ?_
              refine i_aload_n (j := 0) (q := 85) C rfl rfl dX8_readsNumber_84 rfl ?_
              refine i_dup (q := 86) C rfl dX8_readsNumber_85 rfl ?_
              refine i_get (i := 0) (j := 0) (f := 12) (q := 89) C rfl rfl rfl hi_X8_readsNumber_X8 (by decide) lk_X8_readsNumber_168 rfl dX8_readsNumber_86 rfl ?_
              refine i_aload_n (j := 0) (q := 90) C rfl rfl dX8_readsNumber_89 rfl ?_
              refine i_get (i := 0) (j := 0) (f := 13) (q := 93) C rfl rfl rfl hi_X8_readsNumber_X8 (by decide) lk_X8_readsNumber_181 rfl dX8_readsNumber_90 rfl ?_
              refine i_if_eq (tgt := 100) (q := 96) C (by omega) dX8_readsNumber_93 (by decide) rfl (fun c_93 => ?_) (fun c_93 => ?_)
              · skip
                refine i_iload_n (j := 2) (q := 101) C rfl rfl dX8_readsNumber_100 rfl ?_
                refine i_iadd (q := 102) C dX8_readsNumber_101 rfl ?_
                refine i_putI (i := 0) (j := 0) (f := 12) (q := 105) (cs' := [mdW am (st, bk, un, ck, ty, tm, tx, ln, rf, dg, dn, rk, (nb (rg tx ln) pl) + (rn 48 57 (rg tx ln) (nb (rg tx ln) pl)), 0, wd, wm, od, oc)]) C rfl rfl rfl hi_X8_readsNumber_X8 tyX8 tyX8_ok nmX8 (by decide) (Nat.le_of_ble_eq_true rfl) lk_X8_readsNumber_168 rfl rfl dX8_readsNumber_102 rfl rfl ?_
                refine i_iload_n (j := 3) (q := 106) C rfl rfl dX8_readsNumber_105 rfl ?_
                refine i_iret C hR dX8_readsNumber_106 ?_
                have e0 : iw = 0 := c_4
                have hgood : (1 ≤ rn 48 57 (rg tx ln) (nb (rg tx ln) pl) ∧ rn 48 57 (rg tx ln) (nb (rg tx ln) pl) ≤ 4) ∧ numv (sli (rg tx ln) (nb (rg tx ln) pl) (rn 48 57 (rg tx ln) (nb (rg tx ln) pl))) ≤ x := ⟨h_68, by rw [← hvv]; omega⟩
                have hpn : pN x (rg tx ln) pl = (0, nb (rg tx ln) pl + rn 48 57 (rg tx ln) (nb (rg tx ln) pl), numv (sli (rg tx ln) (nb (rg tx ln) pl) (rn 48 57 (rg tx ln) (nb (rg tx ln) pl)))) := by unfold pN; rw [if_pos hgood]
                exact ⟨vv, rfl, by rw [if_pos e0, if_pos e0, hpn], fun _ _ => by rw [hpn]; exact hvv⟩
              · skip
                exact absurd rfl c_93
            · skip
              refine i_iconst (q := 77) C dX8_readsNumber_76 rfl ?_
              refine i_goto (q := 81) C dX8_readsNumber_77 (by decide) ?_
              refine i_putZ (i := 0) (j := 0) (f := 13) (q := 84) (cs' := [mdW am (st, bk, un, ck, ty, tm, tx, ln, rf, dg, dn, rk, nb (rg tx ln) pl, 1, wd, wm, od, oc)]) C rfl rfl rfl hi_X8_readsNumber_X8 tyX8 tyX8_ok nmX8 (by decide) (Nat.le_of_ble_eq_true rfl) lk_X8_readsNumber_181 rfl rfl (by omega) dX8_readsNumber_81 rfl rfl ?_
              refine i_aload_n (j := 0) (q := 85) C rfl rfl dX8_readsNumber_84 rfl ?_
              refine i_dup (q := 86) C rfl dX8_readsNumber_85 rfl ?_
              refine i_get (i := 0) (j := 0) (f := 12) (q := 89) C rfl rfl rfl hi_X8_readsNumber_X8 (by decide) lk_X8_readsNumber_168 rfl dX8_readsNumber_86 rfl ?_
              refine i_aload_n (j := 0) (q := 90) C rfl rfl dX8_readsNumber_89 rfl ?_
              refine i_get (i := 0) (j := 0) (f := 13) (q := 93) C rfl rfl rfl hi_X8_readsNumber_X8 (by decide) lk_X8_readsNumber_181 rfl dX8_readsNumber_90 rfl ?_
              refine i_if_eq (tgt := 100) (q := 96) C (by omega) dX8_readsNumber_93 (by decide) rfl (fun c_93 => ?_) (fun c_93 => ?_)
              · skip
                exact absurd c_93 (by omega)
              · skip
                refine i_iconst (q := 97) C dX8_readsNumber_96 rfl ?_
                refine i_goto (q := 101) C dX8_readsNumber_97 (by decide) ?_
                refine i_iadd (q := 102) C dX8_readsNumber_101 rfl ?_
                refine i_putI (i := 0) (j := 0) (f := 12) (q := 105) (cs' := [mdW am (st, bk, un, ck, ty, tm, tx, ln, rf, dg, dn, rk, (nb (rg tx ln) pl) + 0, 1, wd, wm, od, oc)]) C rfl rfl rfl hi_X8_readsNumber_X8 tyX8 tyX8_ok nmX8 (by decide) (Nat.le_of_ble_eq_true rfl) lk_X8_readsNumber_168 rfl rfl dX8_readsNumber_102 rfl rfl ?_
                refine i_iload_n (j := 3) (q := 106) C rfl rfl dX8_readsNumber_105 rfl ?_
                refine i_iret C hR dX8_readsNumber_106 ?_
                have e0 : iw = 0 := c_4
                have hbad : ¬ ((1 ≤ rn 48 57 (rg tx ln) (nb (rg tx ln) pl) ∧ rn 48 57 (rg tx ln) (nb (rg tx ln) pl) ≤ 4) ∧ numv (sli (rg tx ln) (nb (rg tx ln) pl) (rn 48 57 (rg tx ln) (nb (rg tx ln) pl))) ≤ x) := by first | exact fun z => h_68 z.1 | exact fun z => absurd z.2 (by rw [← hvv]; omega)
                have hpn : pN x (rg tx ln) pl = (1, nb (rg tx ln) pl, 0) := by unfold pN; rw [if_neg hbad]
                exact ⟨vv, rfl, by rw [if_pos e0, if_pos e0, hpn, Int.add_zero], fun _ z => by rw [hpn] at z; exact absurd z (show ¬ (1 : Int) = 0 by decide)⟩
        · skip
          refine i_iload_n (j := 2) (q := 30) C rfl rfl dX8_readsNumber_29 rfl ?_
          refine i_iconst (q := 31) C dX8_readsNumber_30 rfl ?_
          refine i_icmp_ge (tgt := 61) (q := 34) C (by omega) (by omega) dX8_readsNumber_31 (by decide) rfl (fun c_31 => ?_) (fun c_31 => ?_)
          · skip
            skip
            refine i_aload_n (j := 0) (q := 62) C rfl rfl dX8_readsNumber_61 rfl ?_
            refine i_iload_n (j := 2) (q := 63) C rfl rfl dX8_readsNumber_62 rfl ?_
            refine i_iconst (q := 64) C dX8_readsNumber_63 rfl ?_
            refine i_iconst (q := 65) C dX8_readsNumber_64 rfl ?_
            refine i_callS (wr := [mdW am (st, bk, un, ck, ty, tm, tx, ln, rf, dg, dn, rk, nb (rg tx ln) pl, iw, wd, wm, od, oc)]) (As := [vI (rn 48 57 (rg tx ln) (nb (rg tx ln) pl)), vI 1, vI 4]) (st := [vP (am 0)]) (q := 68) C (c_X8_in K l (rn 48 57 (rg tx ln) (nb (rg tx ln) pl)) (1) (4) (by omega) (by omega) (by omega)) gX8_readsNumber_X8_in rfl hd_X8_in ⟨Nat.le_of_ble_eq_true rfl, Nat.le_of_ble_eq_true rfl⟩ ⟨rfl, rfl⟩ ⟨Nat.le_of_ble_eq_true rfl, Nat.le_of_ble_eq_true rfl⟩ (permBy [0] (by decide) rfl rfl) rfl (Nat.le_of_ble_eq_true rfl) dX8_readsNumber_65 rfl (fun v w hq => ?_)
            obtain ⟨rfl, rfl⟩ := hq
            show V X 0 0 68 [(0, vP (am 0)), (1, vI x), (2, vI (rn 48 57 (rg tx ln) (nb (rg tx ln) pl))), (3, vI vv), (4, vI k)] [vI (if 1 ≤ (rn 48 57 (rg tx ln) (nb (rg tx ln) pl)) ∧ (rn 48 57 (rg tx ln) (nb (rg tx ln) pl)) ≤ 4 then 1 else 0), vP (am 0)] [mdW am (st, bk, un, ck, ty, tm, tx, ln, rf, dg, dn, rk, nb (rg tx ln) pl, iw, wd, wm, od, oc)]
            refine i_if_eq (tgt := 76) (q := 71) C (if01) dX8_readsNumber_68 (by decide) rfl (fun c_68 => ?_) (fun c_68 => ?_)
            · skip
              have h_68 := if0 c_68
              refine i_iconst (q := 77) C dX8_readsNumber_76 rfl ?_
              refine i_goto (q := 81) C dX8_readsNumber_77 (by decide) ?_
              refine i_putZ (i := 0) (j := 0) (f := 13) (q := 84) (cs' := [mdW am (st, bk, un, ck, ty, tm, tx, ln, rf, dg, dn, rk, nb (rg tx ln) pl, 1, wd, wm, od, oc)]) C rfl rfl rfl hi_X8_readsNumber_X8 tyX8 tyX8_ok nmX8 (by decide) (Nat.le_of_ble_eq_true rfl) lk_X8_readsNumber_181 rfl rfl (by omega) dX8_readsNumber_81 rfl rfl ?_
              refine i_aload_n (j := 0) (q := 85) C rfl rfl dX8_readsNumber_84 rfl ?_
              refine i_dup (q := 86) C rfl dX8_readsNumber_85 rfl ?_
              refine i_get (i := 0) (j := 0) (f := 12) (q := 89) C rfl rfl rfl hi_X8_readsNumber_X8 (by decide) lk_X8_readsNumber_168 rfl dX8_readsNumber_86 rfl ?_
              refine i_aload_n (j := 0) (q := 90) C rfl rfl dX8_readsNumber_89 rfl ?_
              refine i_get (i := 0) (j := 0) (f := 13) (q := 93) C rfl rfl rfl hi_X8_readsNumber_X8 (by decide) lk_X8_readsNumber_181 rfl dX8_readsNumber_90 rfl ?_
              refine i_if_eq (tgt := 100) (q := 96) C (by omega) dX8_readsNumber_93 (by decide) rfl (fun c_93 => ?_) (fun c_93 => ?_)
              · skip
                exact absurd c_93 (by omega)
              · skip
                refine i_iconst (q := 97) C dX8_readsNumber_96 rfl ?_
                refine i_goto (q := 101) C dX8_readsNumber_97 (by decide) ?_
                refine i_iadd (q := 102) C dX8_readsNumber_101 rfl ?_
                refine i_putI (i := 0) (j := 0) (f := 12) (q := 105) (cs' := [mdW am (st, bk, un, ck, ty, tm, tx, ln, rf, dg, dn, rk, (nb (rg tx ln) pl) + 0, 1, wd, wm, od, oc)]) C rfl rfl rfl hi_X8_readsNumber_X8 tyX8 tyX8_ok nmX8 (by decide) (Nat.le_of_ble_eq_true rfl) lk_X8_readsNumber_168 rfl rfl dX8_readsNumber_102 rfl rfl ?_
                refine i_iload_n (j := 3) (q := 106) C rfl rfl dX8_readsNumber_105 rfl ?_
                refine i_iret C hR dX8_readsNumber_106 ?_
                have e0 : iw = 0 := c_4
                have hbad : ¬ ((1 ≤ rn 48 57 (rg tx ln) (nb (rg tx ln) pl) ∧ rn 48 57 (rg tx ln) (nb (rg tx ln) pl) ≤ 4) ∧ numv (sli (rg tx ln) (nb (rg tx ln) pl) (rn 48 57 (rg tx ln) (nb (rg tx ln) pl))) ≤ x) := by first | exact fun z => h_68 z.1 | exact fun z => absurd z.2 (by rw [← hvv]; omega)
                have hpn : pN x (rg tx ln) pl = (1, nb (rg tx ln) pl, 0) := by unfold pN; rw [if_neg hbad]
                exact ⟨vv, rfl, by rw [if_pos e0, if_pos e0, hpn, Int.add_zero], fun _ z => by rw [hpn] at z; exact absurd z (show ¬ (1 : Int) = 0 by decide)⟩
            · skip
              have h_68 := ifn0 c_68
              have hkn : k = rn 48 57 (rg tx ln) (nb (rg tx ln) pl) := by omega
              have hvv : vv = numv (sli (rg tx ln) (nb (rg tx ln) pl) (rn 48 57 (rg tx ln) (nb (rg tx ln) pl))) := by
                rw [hsl, ← hkn]; exact hv
              refine i_iload_n (j := 3) (q := 72) C rfl rfl dX8_readsNumber_71 rfl ?_
              refine i_iload_n (j := 1) (q := 73) C rfl rfl dX8_readsNumber_72 rfl ?_
              refine i_icmp_le (tgt := 80) (q := 76) C (by have := numb4 hvb (show k ≤ 4 by omega); omega) (by omega) dX8_readsNumber_73 (by decide) rfl (fun c_73 => ?_) (fun c_73 => ?_)
              · skip
                refine i_iconst (q := 81) C dX8_readsNumber_80 rfl ?_
                refine i_putZ (i := 0) (j := 0) (f := 13) (q := 84) (cs' := [mdW am (st, bk, un, ck, ty, tm, tx, ln, rf, dg, dn, rk, nb (rg tx ln) pl, 0, wd, wm, od, oc)]) C rfl rfl rfl hi_X8_readsNumber_X8 tyX8 tyX8_ok nmX8 (by decide) (Nat.le_of_ble_eq_true rfl) lk_X8_readsNumber_181 rfl rfl (by omega) dX8_readsNumber_81 rfl rfl ?_
                refine i_aload_n (j := 0) (q := 85) C rfl rfl dX8_readsNumber_84 rfl ?_
                refine i_dup (q := 86) C rfl dX8_readsNumber_85 rfl ?_
                refine i_get (i := 0) (j := 0) (f := 12) (q := 89) C rfl rfl rfl hi_X8_readsNumber_X8 (by decide) lk_X8_readsNumber_168 rfl dX8_readsNumber_86 rfl ?_
                refine i_aload_n (j := 0) (q := 90) C rfl rfl dX8_readsNumber_89 rfl ?_
                refine i_get (i := 0) (j := 0) (f := 13) (q := 93) C rfl rfl rfl hi_X8_readsNumber_X8 (by decide) lk_X8_readsNumber_181 rfl dX8_readsNumber_90 rfl ?_
                refine i_if_eq (tgt := 100) (q := 96) C (by omega) dX8_readsNumber_93 (by decide) rfl (fun c_93 => ?_) (fun c_93 => ?_)
                · skip
                  refine i_iload_n (j := 2) (q := 101) C rfl rfl dX8_readsNumber_100 rfl ?_
                  refine i_iadd (q := 102) C dX8_readsNumber_101 rfl ?_
                  refine i_putI (i := 0) (j := 0) (f := 12) (q := 105) (cs' := [mdW am (st, bk, un, ck, ty, tm, tx, ln, rf, dg, dn, rk, (nb (rg tx ln) pl) + (rn 48 57 (rg tx ln) (nb (rg tx ln) pl)), 0, wd, wm, od, oc)]) C rfl rfl rfl hi_X8_readsNumber_X8 tyX8 tyX8_ok nmX8 (by decide) (Nat.le_of_ble_eq_true rfl) lk_X8_readsNumber_168 rfl rfl dX8_readsNumber_102 rfl rfl ?_
                  refine i_iload_n (j := 3) (q := 106) C rfl rfl dX8_readsNumber_105 rfl ?_
                  refine i_iret C hR dX8_readsNumber_106 ?_
                  have e0 : iw = 0 := c_4
                  have hgood : (1 ≤ rn 48 57 (rg tx ln) (nb (rg tx ln) pl) ∧ rn 48 57 (rg tx ln) (nb (rg tx ln) pl) ≤ 4) ∧ numv (sli (rg tx ln) (nb (rg tx ln) pl) (rn 48 57 (rg tx ln) (nb (rg tx ln) pl))) ≤ x := ⟨h_68, by rw [← hvv]; omega⟩
                  have hpn : pN x (rg tx ln) pl = (0, nb (rg tx ln) pl + rn 48 57 (rg tx ln) (nb (rg tx ln) pl), numv (sli (rg tx ln) (nb (rg tx ln) pl) (rn 48 57 (rg tx ln) (nb (rg tx ln) pl)))) := by unfold pN; rw [if_pos hgood]
                  exact ⟨vv, rfl, by rw [if_pos e0, if_pos e0, hpn], fun _ _ => by rw [hpn]; exact hvv⟩
                · skip
                  exact absurd rfl c_93
              · skip
                refine i_iconst (q := 77) C dX8_readsNumber_76 rfl ?_
                refine i_goto (q := 81) C dX8_readsNumber_77 (by decide) ?_
                refine i_putZ (i := 0) (j := 0) (f := 13) (q := 84) (cs' := [mdW am (st, bk, un, ck, ty, tm, tx, ln, rf, dg, dn, rk, nb (rg tx ln) pl, 1, wd, wm, od, oc)]) C rfl rfl rfl hi_X8_readsNumber_X8 tyX8 tyX8_ok nmX8 (by decide) (Nat.le_of_ble_eq_true rfl) lk_X8_readsNumber_181 rfl rfl (by omega) dX8_readsNumber_81 rfl rfl ?_
                refine i_aload_n (j := 0) (q := 85) C rfl rfl dX8_readsNumber_84 rfl ?_
                refine i_dup (q := 86) C rfl dX8_readsNumber_85 rfl ?_
                refine i_get (i := 0) (j := 0) (f := 12) (q := 89) C rfl rfl rfl hi_X8_readsNumber_X8 (by decide) lk_X8_readsNumber_168 rfl dX8_readsNumber_86 rfl ?_
                refine i_aload_n (j := 0) (q := 90) C rfl rfl dX8_readsNumber_89 rfl ?_
                refine i_get (i := 0) (j := 0) (f := 13) (q := 93) C rfl rfl rfl hi_X8_readsNumber_X8 (by decide) lk_X8_readsNumber_181 rfl dX8_readsNumber_90 rfl ?_
                refine i_if_eq (tgt := 100) (q := 96) C (by omega) dX8_readsNumber_93 (by decide) rfl (fun c_93 => ?_) (fun c_93 => ?_)
                · skip
                  exact absurd c_93 (by omega)
                · skip
                  refine i_iconst (q := 97) C dX8_readsNumber_96 rfl ?_
                  refine i_goto (q := 101) C dX8_readsNumber_97 (by decide) ?_
                  refine i_iadd (q := 102) C dX8_readsNumber_101 rfl ?_
                  refine i_putI (i := 0) (j := 0) (f := 12) (q := 105) (cs' := [mdW am (st, bk, un, ck, ty, tm, tx, ln, rf, dg, dn, rk, (nb (rg tx ln) pl) + 0, 1, wd, wm, od, oc)]) C rfl rfl rfl hi_X8_readsNumber_X8 tyX8 tyX8_ok nmX8 (by decide) (Nat.le_of_ble_eq_true rfl) lk_X8_readsNumber_168 rfl rfl dX8_readsNumber_102 rfl rfl ?_
                  refine i_iload_n (j := 3) (q := 106) C rfl rfl dX8_readsNumber_105 rfl ?_
                  refine i_iret C hR dX8_readsNumber_106 ?_
                  have e0 : iw = 0 := c_4
                  have hbad : ¬ ((1 ≤ rn 48 57 (rg tx ln) (nb (rg tx ln) pl) ∧ rn 48 57 (rg tx ln) (nb (rg tx ln) pl) ≤ 4) ∧ numv (sli (rg tx ln) (nb (rg tx ln) pl) (rn 48 57 (rg tx ln) (nb (rg tx ln) pl))) ≤ x) := by first | exact fun z => h_68 z.1 | exact fun z => absurd z.2 (by rw [← hvv]; omega)
                  have hpn : pN x (rg tx ln) pl = (1, nb (rg tx ln) pl, 0) := by unfold pN; rw [if_neg hbad]
                  exact ⟨vv, rfl, by rw [if_pos e0, if_pos e0, hpn, Int.add_zero], fun _ z => by rw [hpn] at z; exact absurd z (show ¬ (1 : Int) = 0 by decide)⟩
          · skip
            refine i_bipush (q := 36) C (by decide) dX8_readsNumber_34 rfl ?_
            refine i_iload_n (j := 3) (q := 37) C rfl rfl dX8_readsNumber_36 rfl ?_
            refine i_imul (q := 38) C dX8_readsNumber_37 rfl ?_
            refine i_aload_n (j := 0) (q := 39) C rfl rfl dX8_readsNumber_38 rfl ?_
            refine i_get (i := 0) (j := 0) (f := 6) (q := 42) C rfl rfl rfl hi_X8_readsNumber_X8 (by decide) lk_X8_readsNumber_20 rfl dX8_readsNumber_39 rfl ?_
            refine i_aload_n (j := 0) (q := 43) C rfl rfl dX8_readsNumber_42 rfl ?_
            refine i_get (i := 0) (j := 0) (f := 12) (q := 46) C rfl rfl rfl hi_X8_readsNumber_X8 (by decide) lk_X8_readsNumber_168 rfl dX8_readsNumber_43 rfl ?_
            refine i_iload (j := 4) (q := 48) C rfl dX8_readsNumber_46 rfl ?_
            refine i_iadd (q := 49) C dX8_readsNumber_48 rfl ?_
            refine i_iald (i := 0) (j := 4) (q := 50) C rfl rfl (by omega) dX8_readsNumber_49 rfl ?_
            have ld_49 := htx (nb (rg tx ln) pl + k) (by omega) (by omega)
            have hdg := sli_rn (T := (rg tx ln)) (a := 48) (b := 57) (p := nb (rg tx ln) pl) (tx (nb (rg tx ln) pl + k)) (by rw [hsl]; exact List.mem_of_getElem? (i := k.toNat) (by rw [rg_at _ (by omega), Int.toNat_of_nonneg (by omega)]))
            refine i_iadd (q := 51) C dX8_readsNumber_50 rfl ?_
            refine i_bipush (q := 53) C (by decide) dX8_readsNumber_51 rfl ?_
            refine i_isub (q := 54) C dX8_readsNumber_53 rfl ?_
            refine i_istore_n (q := 55) (lv' := [(3, vI (((10 * vv) + (tx ((nb (rg tx ln) pl) + k))) - 48)), (0, vP (am 0)), (1, vI x), (2, vI (rn 48 57 (rg tx ln) (nb (rg tx ln) pl))), (4, vI k)]) C rfl (by decide) rfl dX8_readsNumber_54 rfl ?_
            refine i_iinc (j := 4) (q := 58) (lv' := [(4, vI (k + 1)), (3, vI (((10 * vv) + (tx ((nb (rg tx ln) pl) + k))) - 48)), (0, vP (am 0)), (1, vI x), (2, vI (rn 48 57 (rg tx ln) (nb (rg tx ln) pl)))]) C rfl (by decide) rfl dX8_readsNumber_55 rfl ?_
            refine i_goto (q := 23) C dX8_readsNumber_58 (by decide) ?_
            refine V.lv [2, 3, 4, 1, 0] rfl ?_
            exact ih_23 (k + 1) (((10 * vv) + (tx ((nb (rg tx ln) pl) + k))) - 48) (by omega) (by omega) (by rw [numv_s _ hk.1, ← hv]) (by
              rw [show (k + 1).toNat = k.toNat + 1 by omega, Int.pow_succ]
              omega) (by omega)
    refine V.lv [3, 4, 2, 1, 0] rfl ?_
    exact loop_23 _ (0) (0) (Nat.lt_succ_self _) (by omega) (rfl) (by decide) (by omega)
  · skip
    refine i_iconst (q := 8) C dX8_readsNumber_7 rfl ?_
    refine i_iret C hR dX8_readsNumber_8 ?_
    exact ⟨0, rfl, by rw [if_neg c_4, if_neg c_4], fun z => absurd z c_4⟩
