theorem lk_X8_does_35 : Cond.fieldLink RX8 35 (TX8 16).1 (TX8 16).2.1 (TX8 16).2.2.1 ∈ wsX8_does := List.mem_of_getElem? (i := 1) rfl
theorem hi_X8_does_X8 : ∀ w ∈ u_ws RX8 TX8 18, w ∈ wsX8_does := by decide +kernel
theorem lk_X8_does_32 : Cond.fieldLink RX8 32 (TX8 14).1 (TX8 14).2.1 (TX8 14).2.2.1 ∈ wsX8_does := List.mem_of_getElem? (i := 2) rfl
theorem lk_X8_does_7 : Cond.fieldLink RX8 7 (TX8 0).1 (TX8 0).2.1 (TX8 0).2.2.1 ∈ wsX8_does := List.mem_of_getElem? (i := 3) rfl
set_option maxHeartbeats 400000 in
set_option maxRecDepth 100000 in
theorem c_X8_does (K : KT) (l : Launch) (am : Nat → Nat) (st : Int → Int) (bk : Int → Int) (un : Int) (ck : Int) (ty : Int → Int) (tm : Int) (tx : Int → Int) (ln : Int) (rf : Int → Int) (dg : Int) (dn : Int → Int) (rk : Int → Int) (pl : Int) (iw : Int) (wd : Int → Int) (wm : Int) (od : Int → Int) (oc : Int) (U : Int) (i : Int) (hs : okS U st) (hi : 0 ≤ i ∧ i < 24) (hr : okOr (orA od i)) (h8 : 0 ≤ od (12 * i + 3) ∧ od (12 * i + 3) ≤ 8) (hoo : okO U (bo st)) (hU : 0 ≤ U ∧ U < 1000000) (hck : 0 ≤ ck ∧ ck ≤ 9999) : Mt K l yX8_does wsX8_does ({ frames := 3, cells := 0, slots := 0, locals := 69 }) [vP (am 0), vI (12 * i)] [mdW am (st, bk, un, ck, ty, tm, tx, ln, rf, dg, dn, rk, pl, iw, wd, wm, od, oc)] 0 0 (fun v w => ∃ st3 : Int → Int, ∃ ck3 : Int, ∃ wd3 : Int → Int, v = some (vI ((dO (bo st, ck, 0) (orA od i)).2.2)) ∧ w = [mdW am (st3, bk, un, ck3, ty, tm, tx, ln, rf, dg, dn, rk, pl, iw, wd3, wm, od, oc)] ∧ (bo st3 = (dO (bo st, ck, 0) (orA od i)).1) ∧ (ck3 = (dO (bo st, ck, 0) (orA od i)).2.1) ∧ (okS (U + 1) st3) ∧ (okO (U + 1) (bo st3)) ∧ (0 ≤ ck3 ∧ ck3 ≤ 9999)) := by
  refine Mt.of (own := RX8) (cc := cX8_does) (maxL := 5) (ret := (some .boolean)) (lv0 := [(0, vP (am 0)), (1, vI (12 * i))]) (by decide) rfl rfl (Nat.le_of_ble_eq_true rfl) rfl (fun X C hR hNm => ?_)
  have hgv := hs.gv
  have hnm : 1 ≤ od (12 * i) ∧ od (12 * i) ≤ 7 := hr.1
  have hwk : okL (rg (fun k => od (12 * i + 4 + k)) (od (12 * i + 3))) := hr.2.1
  have hwl : od (12 * i) ≤ 4 → 1 ≤ (rg (fun k => od (12 * i + 4 + k)) (od (12 * i + 3))).length ∧ (rg (fun k => od (12 * i + 4 + k)) (od (12 * i + 3))).length ≤ 8 := hr.2.2.1
  have hon : 0 ≤ od (12 * i + 1) ∧ od (12 * i + 1) ≤ 1000 := hr.2.2.2.1
  have hrk : od (12 * i) = 5 → od (12 * i + 1) ≤ 4 := hr.2.2.2.2.1
  have htw : 0 ≤ od (12 * i + 2) ∧ od (12 * i + 2) ≤ 9 := hr.2.2.2.2.2
  rw [rg_len] at hwl
  have hwe : rg (cpy od (12 * i + 4) wd 0 (od (12 * i + 3))) (od (12 * i + 3)) = (rg (fun k => od (12 * i + 4 + k)) (od (12 * i + 3))) := rg_ext (fun k g0 g1 => by rw [cpy_in _ _ _ _ _ _ (by omega)]; congr 1; omega)
  have hwr : ∀ k, 0 ≤ k → k < od (12 * i + 3) → 0 ≤ (cpy od (12 * i + 4) wd 0 (od (12 * i + 3))) k ∧ (cpy od (12 * i + 4) wd 0 (od (12 * i + 3))) k ≤ 7 := fun k g0 g1 => by
    rw [← hwe] at hwk
    exact hwk _ (List.mem_of_getElem? (i := k.toNat) (by rw [rg_at _ (by omega), Int.toNat_of_nonneg g0]))
  refine i_aload_n (j := 0) (q := 1) C rfl rfl dX8_does_0 rfl ?_
  refine i_get (i := 0) (j := 0) (f := 16) (q := 4) C rfl rfl rfl hi_X8_does_X8 (by decide) lk_X8_does_35 rfl dX8_does_1 rfl ?_
  refine i_iload_n (j := 1) (q := 5) C rfl rfl dX8_does_4 rfl ?_
  refine i_iald (i := 0) (j := 9) (q := 6) C rfl rfl (by omega) dX8_does_5 rfl ?_
  refine i_istore_n (q := 7) (lv' := [(2, vI (od (12 * i))), (0, vP (am 0)), (1, vI (12 * i))]) C rfl (by decide) rfl dX8_does_6 rfl ?_
  refine i_aload_n (j := 1) (q := 8) C rfl rfl dX8_does_7 rfl ?_
  refine i_get (i := 0) (j := 0) (f := 16) (q := 11) C rfl rfl rfl hi_X8_does_X8 (by decide) lk_X8_does_35 rfl dX8_does_8 rfl ?_
  refine i_iload_n (j := 2) (q := 12) C rfl rfl dX8_does_11 rfl ?_
  refine i_iconst (q := 13) C dX8_does_12 rfl ?_
  refine i_iadd (q := 14) C dX8_does_13 rfl ?_
  refine i_iald (i := 0) (j := 9) (q := 15) C rfl rfl (by omega) dX8_does_14 rfl ?_
  refine i_istore_n (q := 16) (lv' := [(3, vI (od ((12 * i) + 1))), (2, vI (od (12 * i))), (0, vP (am 0)), (1, vI (12 * i))]) C rfl (by decide) rfl dX8_does_15 rfl ?_
  refine i_aload_n (j := 2) (q := 17) C rfl rfl dX8_does_16 rfl ?_
  refine i_get (i := 0) (j := 0) (f := 16) (q := 20) C rfl rfl rfl hi_X8_does_X8 (by decide) lk_X8_does_35 rfl dX8_does_17 rfl ?_
  refine i_iload_n (j := 3) (q := 21) C rfl rfl dX8_does_20 rfl ?_
  refine i_iconst (q := 22) C dX8_does_21 rfl ?_
  refine i_iadd (q := 23) C dX8_does_22 rfl ?_
  refine i_aload_n (j := 2) (q := 24) C rfl rfl dX8_does_23 rfl ?_
  refine i_get (i := 0) (j := 0) (f := 14) (q := 27) C rfl rfl rfl hi_X8_does_X8 (by decide) lk_X8_does_32 rfl dX8_does_24 rfl ?_
  refine i_iconst (q := 28) C dX8_does_27 rfl ?_
  refine i_aload_n (j := 2) (q := 29) C rfl rfl dX8_does_28 rfl ?_
  refine i_get (i := 0) (j := 0) (f := 16) (q := 32) C rfl rfl rfl hi_X8_does_X8 (by decide) lk_X8_does_35 rfl dX8_does_29 rfl ?_
  refine i_iload_n (j := 3) (q := 33) C rfl rfl dX8_does_32 rfl ?_
  refine i_iconst (q := 34) C dX8_does_33 rfl ?_
  refine i_iadd (q := 35) C dX8_does_34 rfl ?_
  refine i_iald (i := 0) (j := 9) (q := 36) C rfl rfl (by omega) dX8_does_35 rfl ?_
  refine i_callS (wr := []) (As := [vP (am 9), vI ((12 * i) + 4), vP (am 8), vI 0, vI (od ((12 * i) + 3))]) (st := []) (q := 39) C (c_X8_bring_od_wd K l (am) (st) (bk) (un) (ck) (ty) (tm) (tx) (ln) (rf) (dg) (dn) (rk) (pl) (iw) (wd) (wm) (od) (oc) ((12 * i) + 4) (0) (od ((12 * i) + 3)) (by omega) (by omega) (by omega)) gX8_does_X8_bring rfl hd_X8_bring ⟨Nat.le_of_ble_eq_true rfl, Nat.le_of_ble_eq_true rfl⟩ ⟨rfl, rfl⟩ ⟨Nat.le_of_ble_eq_true rfl, Nat.le_of_ble_eq_true rfl⟩ (permBy [0] (by decide) rfl rfl) rfl (Nat.le_of_ble_eq_true rfl) dX8_does_36 rfl (fun v w hq => ?_)
  obtain ⟨rfl, rfl⟩ := hq
  show V X 0 0 39 [(3, vI (od ((12 * i) + 1))), (2, vI (od (12 * i))), (0, vP (am 0)), (1, vI (12 * i))] [] [mdW am (st, bk, un, ck, ty, tm, tx, ln, rf, dg, dn, rk, pl, iw, cpy od ((12 * i) + 4) wd 0 (od ((12 * i) + 3)), wm, od, oc)]
  have join_64 : ∀ (p : Int), ((od (12 * i) ≤ 4 ∧ ((p = -1 ∧ fw (bo st) (rg (fun k => od (12 * i + 4 + k)) (od (12 * i + 3))) = none) ∨ (0 ≤ p ∧ p < st 2800 ∧ st (14 * p) = 1 ∧ fw (bo st) (rg (fun k => od (12 * i + 4 + k)) (od (12 * i + 3))) = some (mp st p)))) ∨ (4 < od (12 * i) ∧ p = -1)) → V X 0 0 64 [(0, vP (am 0)), (1, vI (12 * i)), (2, vI (od (12 * i))), (3, vI (od ((12 * i) + 1)))] [vI p] [mdW am (st, bk, un, ck, ty, tm, tx, ln, rf, dg, dn, rk, pl, iw, cpy od ((12 * i) + 4) wd 0 (od ((12 * i) + 3)), wm, od, oc)] := by
    intro p hq
    refine i_istore (q := 66) (lv' := [(4, vI p), (0, vP (am 0)), (1, vI (12 * i)), (2, vI (od (12 * i))), (3, vI (od ((12 * i) + 1)))]) C (by decide) rfl dX8_does_64 rfl ?_
    refine i_iload_n (j := 3) (q := 67) C rfl rfl dX8_does_66 rfl ?_
    by_cases e_67_1 : od (12 * i) = 1
    · skip
      refine i_tsIn (q := 104) 1 C e_67_1 dX8_does_67 (by decide) rfl (by decide) ?_
      refine i_iload (j := 0) (q := 106) C rfl dX8_does_104 rfl ?_
      refine i_iconst (q := 107) C dX8_does_106 rfl ?_
      refine i_icmp_ne (tgt := 117) (q := 110) C (by rcases hq with ⟨_, h | h⟩ | h <;> omega) (by omega) dX8_does_107 (by decide) rfl (fun c_107 => ?_) (fun c_107 => ?_)
      · skip
        refine i_iconst (q := 118) C dX8_does_117 rfl ?_
        refine i_zret C hR (by omega) dX8_does_118 ?_
        have hsm : 0 ≤ p ∧ p < st 2800 ∧ st (14 * p) = 1 ∧ fw (bo st) (rg (fun k => od (12 * i + 4 + k)) (od (12 * i + 3))) = some (mp st p) := by
          rcases hq with ⟨_, h | h⟩ | h
          · omega
          · exact h
          · omega
        have hD : (dO (bo st, ck, 0) (orA od i)) = (bo st, ck, 0) := by
          unfold dO
          simp only
          rw [if_pos (show (orA od i).1 = 1 from e_67_1), if_neg (fun z => by rw [show (orA od i).2.1 = (rg (fun k => od (12 * i + 4 + k)) (od (12 * i + 3))) from rfl, fw_has hsm.2.2.2] at z; exact absurd z.1 (by decide))] <;> rfl
        have hO := okO_dO (c := ck) (n := 0) hoo hr hck (by omega)
        rw [hD] at hO
        have hb3 : bo (st) = bo st := rfl
        exact ⟨st, ck, cpy od ((12 * i) + 4) wd 0 (od ((12 * i) + 3)), by rw [hD], rfl, by rw [hD] <;> exact hb3, by rw [hD], hs.up (by omega) (by omega), by rw [hb3]; exact hO, hck⟩
      · skip
        have hnn : fw (bo st) (rg (fun k => od (12 * i + 4 + k)) (od (12 * i + 3))) = none := by
          rcases hq with ⟨_, h | h⟩ | h
          · exact h.2
          · omega
          · omega
        refine i_aload_n (j := 1) (q := 111) C rfl rfl dX8_does_110 rfl ?_
        refine i_callV (wr := []) (As := []) (st := []) (i := 0) (j := 0) (q := 114) C (c_X8_mayCome K l (am) (st) (bk) (un) (ck) (ty) (tm) (tx) (ln) (rf) (dg) (dn) (rk) (pl) (iw) (cpy od ((12 * i) + 4) wd 0 (od ((12 * i) + 3))) (wm) (od) (oc) (U) (by first | assumption | omega)) gX8_does_X8_mayCome rfl hd_X8_mayCome ⟨Nat.le_of_ble_eq_true rfl, Nat.le_of_ble_eq_true rfl⟩ ⟨rfl, rfl⟩ ⟨Nat.le_of_ble_eq_true rfl, Nat.le_of_ble_eq_true rfl⟩ (permBy [0] (by decide) rfl rfl) rfl rfl rfl rfl (Nat.le_of_ble_eq_true rfl) dX8_does_111 rfl (fun v w hq => ?_)
        obtain ⟨rfl, rfl⟩ := hq
        show V X 0 0 114 [(4, vI p), (0, vP (am 0)), (1, vI (12 * i)), (2, vI (od (12 * i))), (3, vI (od ((12 * i) + 1)))] [vI (if roomB (bo st) = true then 1 else 0)] [mdW am (st, bk, un, ck, ty, tm, tx, ln, rf, dg, dn, rk, pl, iw, cpy od ((12 * i) + 4) wd 0 (od ((12 * i) + 3)), wm, od, oc)]
        refine i_if_ne (tgt := 119) (q := 117) C (if01) dX8_does_114 (by decide) rfl (fun c_114 => ?_) (fun c_114 => ?_)
        · skip
          have h_114 := ifn0 c_114
          have hg2 : st 2800 < 200 := by
            have h9 := h_114
            unfold roomB bo at h9
            simp only [Bool.and_eq_true, decide_eq_true_eq] at h9
            exact h9.2
          refine i_aload_n (j := 1) (q := 120) C rfl rfl dX8_does_119 rfl ?_
          refine i_aload_n (j := 1) (q := 121) C rfl rfl dX8_does_120 rfl ?_
          refine i_get (i := 0) (j := 0) (f := 14) (q := 124) C rfl rfl rfl hi_X8_does_X8 (by decide) lk_X8_does_32 rfl dX8_does_121 rfl ?_
          refine i_aload_n (j := 1) (q := 125) C rfl rfl dX8_does_124 rfl ?_
          refine i_get (i := 0) (j := 0) (f := 16) (q := 128) C rfl rfl rfl hi_X8_does_X8 (by decide) lk_X8_does_35 rfl dX8_does_125 rfl ?_
          refine i_iload_n (j := 2) (q := 129) C rfl rfl dX8_does_128 rfl ?_
          refine i_iconst (q := 130) C dX8_does_129 rfl ?_
          refine i_iadd (q := 131) C dX8_does_130 rfl ?_
          refine i_iald (i := 0) (j := 9) (q := 132) C rfl rfl (by omega) dX8_does_131 rfl ?_
          refine i_iload_n (j := 4) (q := 133) C rfl rfl dX8_does_132 rfl ?_
          refine i_aload_n (j := 1) (q := 134) C rfl rfl dX8_does_133 rfl ?_
          refine i_get (i := 0) (j := 0) (f := 16) (q := 137) C rfl rfl rfl hi_X8_does_X8 (by decide) lk_X8_does_35 rfl dX8_does_134 rfl ?_
          refine i_iload_n (j := 2) (q := 138) C rfl rfl dX8_does_137 rfl ?_
          refine i_iconst (q := 139) C dX8_does_138 rfl ?_
          refine i_iadd (q := 140) C dX8_does_139 rfl ?_
          refine i_iald (i := 0) (j := 9) (q := 141) C rfl rfl (by omega) dX8_does_140 rfl ?_
          refine i_callV (wr := []) (As := [vP (am 8), vI (od ((12 * i) + 3)), vI (od ((12 * i) + 1)), vI (od ((12 * i) + 2))]) (st := []) (i := 0) (j := 0) (q := 144) C (c_X8_comes_wd K l (am) (st) (bk) (un) (ck) (ty) (tm) (tx) (ln) (rf) (dg) (dn) (rk) (pl) (iw) (cpy od ((12 * i) + 4) wd 0 (od ((12 * i) + 3))) (wm) (od) (oc) (U) (od ((12 * i) + 3)) (od ((12 * i) + 1)) (od ((12 * i) + 2)) (by first | assumption | omega) (hg2) (by omega)) gX8_does_X8_comes rfl hd_X8_comes ⟨Nat.le_of_ble_eq_true rfl, Nat.le_of_ble_eq_true rfl⟩ ⟨rfl, rfl⟩ ⟨Nat.le_of_ble_eq_true rfl, Nat.le_of_ble_eq_true rfl⟩ (permBy [0] (by decide) rfl rfl) rfl rfl rfl rfl (Nat.le_of_ble_eq_true rfl) dX8_does_141 rfl (fun v w hq => ?_)
          obtain ⟨rfl, rfl⟩ := hq
          show V X 0 0 144 [(4, vI p), (0, vP (am 0)), (1, vI (12 * i)), (2, vI (od (12 * i))), (3, vI (od ((12 * i) + 1)))] [vI (st 2800)] [mdW am (cmS st (cpy od ((12 * i) + 4) wd 0 (od ((12 * i) + 3))) (od ((12 * i) + 3)) (od ((12 * i) + 1)) (od ((12 * i) + 2)), bk, un, ck, ty, tm, tx, ln, rf, dg, dn, rk, pl, iw, cpy od ((12 * i) + 4) wd 0 (od ((12 * i) + 3)), wm, od, oc)]
          refine i_pop (q := 145) C rfl dX8_does_144 rfl ?_
          refine i_iconst (q := 146) C dX8_does_145 rfl ?_
          refine i_zret C hR (by omega) dX8_does_146 ?_
          have hnn : fw (bo st) (rg (fun k => od (12 * i + 4 + k)) (od (12 * i + 3))) = none := by
            rcases hq with ⟨_, h | h⟩ | h
            · exact h.2
            · omega
            · omega
          have hD : (dO (bo st, ck, 0) (orA od i)) = (addB (bo st) (rg (fun k => od (12 * i + 4 + k)) (od (12 * i + 3))) (od (12 * i + 1)) (od (12 * i + 2)), ck, 1) := by
            unfold dO
            simp only
            rw [if_pos (show (orA od i).1 = 1 from e_67_1), if_pos (show hasB (bo st) (orA od i).2.1 = false ∧ roomB (bo st) = true from ⟨fw_n.mp hnn, h_114⟩)] <;> rfl
          have hO := okO_dO (c := ck) (n := 0) hoo hr hck (by omega)
          rw [hD] at hO
          have hb3 : bo (cmS st (cpy od (12 * i + 4) wd 0 (od (12 * i + 3))) (od (12 * i + 3)) (od (12 * i + 1)) (od (12 * i + 2))) = addB (bo st) (rg (fun k => od (12 * i + 4 + k)) (od (12 * i + 3))) (od (12 * i + 1)) (od (12 * i + 2)) := by rw [← hwe]; exact (cmS_ok hs hg2 (n := od (12 * i + 3)) (row := (cpy od (12 * i + 4) wd 0 (od (12 * i + 3)))) (by omega) (sc := od (12 * i + 1)) (me := od (12 * i + 2)) hon htw hwr).1
          exact ⟨cmS st (cpy od (12 * i + 4) wd 0 (od (12 * i + 3))) (od (12 * i + 3)) (od (12 * i + 1)) (od (12 * i + 2)), ck, cpy od ((12 * i) + 4) wd 0 (od ((12 * i) + 3)), by rw [hD], rfl, by rw [hD] <;> exact hb3, by rw [hD], (cmS_ok hs hg2 (n := od (12 * i + 3)) (row := (cpy od (12 * i + 4) wd 0 (od (12 * i + 3)))) (by omega) (sc := od (12 * i + 1)) (me := od (12 * i + 2)) hon htw hwr).2.up (by omega) (by omega), by rw [hb3]; exact hO, hck⟩
        · skip
          have h_114 := if0 c_114
          refine i_iconst (q := 118) C dX8_does_117 rfl ?_
          refine i_zret C hR (by omega) dX8_does_118 ?_
          have hD : (dO (bo st, ck, 0) (orA od i)) = (bo st, ck, 0) := by
            unfold dO
            simp only
            rw [if_pos (show (orA od i).1 = 1 from e_67_1), if_neg (fun z => h_114 z.2)] <;> rfl
          have hO := okO_dO (c := ck) (n := 0) hoo hr hck (by omega)
          rw [hD] at hO
          have hb3 : bo (st) = bo st := rfl
          exact ⟨st, ck, cpy od ((12 * i) + 4) wd 0 (od ((12 * i) + 3)), by rw [hD], rfl, by rw [hD] <;> exact hb3, by rw [hD], hs.up (by omega) (by omega), by rw [hb3]; exact hO, hck⟩
    by_cases e_67_2 : od (12 * i) = 2
    · skip
      refine i_tsIn (q := 147) 2 C e_67_2 dX8_does_67 (by decide) rfl (by decide) ?_
      refine i_iload (j := 0) (q := 149) C rfl dX8_does_147 rfl ?_
      refine i_iconst (q := 150) C dX8_does_149 rfl ?_
      refine i_icmp_eq (tgt := 160) (q := 153) C (by rcases hq with ⟨_, h | h⟩ | h <;> omega) (by omega) dX8_does_150 (by decide) rfl (fun c_150 => ?_) (fun c_150 => ?_)
      · skip
        refine i_iload (j := 0) (q := 162) C rfl dX8_does_160 rfl ?_
        refine i_iconst (q := 163) C dX8_does_162 rfl ?_
        refine i_icmp_eq (tgt := 170) (q := 166) C (by rcases hq with ⟨_, h | h⟩ | h <;> omega) (by omega) dX8_does_163 (by decide) rfl (fun c_163 => ?_) (fun c_163 => ?_)
        · skip
          refine i_iconst (q := 171) C dX8_does_170 rfl ?_
          refine i_zret C hR (by omega) dX8_does_171 ?_
          have hnn : fw (bo st) (rg (fun k => od (12 * i + 4 + k)) (od (12 * i + 3))) = none := by
            rcases hq with ⟨_, h | h⟩ | h
            · exact h.2
            · omega
            · omega
          have hD : (dO (bo st, ck, 0) (orA od i)) = (bo st, ck, 0) := by
            unfold dO
            simp only
            rw [if_neg (show ¬ (orA od i).1 = 1 from fun z => by have z2 : od (12 * i) = 1 := z; omega), if_neg (show ¬ (orA od i).1 = 5 from fun z => by have z2 : od (12 * i) = 5 := z; omega), if_neg (show ¬ (orA od i).1 = 6 from fun z => by have z2 : od (12 * i) = 6 := z; omega), if_neg (show ¬ (orA od i).1 = 7 from fun z => by have z2 : od (12 * i) = 7 := z; omega), show fw (bo st) (orA od i).2.1 = none from hnn] <;> rfl
          have hO := okO_dO (c := ck) (n := 0) hoo hr hck (by omega)
          rw [hD] at hO
          have hb3 : bo (st) = bo st := rfl
          exact ⟨st, ck, cpy od ((12 * i) + 4) wd 0 (od ((12 * i) + 3)), by rw [hD], rfl, by rw [hD] <;> exact hb3, by rw [hD], hs.up (by omega) (by omega), by rw [hb3]; exact hO, hck⟩
        · skip
          refine i_iconst (q := 167) C dX8_does_166 rfl ?_
          refine i_goto (q := 171) C dX8_does_167 (by decide) ?_
          refine i_zret C hR (by omega) dX8_does_171 ?_
          exact absurd c_150 c_163
      · skip
        have hsm : 0 ≤ p ∧ p < st 2800 ∧ st (14 * p) = 1 ∧ fw (bo st) (rg (fun k => od (12 * i + 4 + k)) (od (12 * i + 3))) = some (mp st p) := by
          rcases hq with ⟨_, h | h⟩ | h
          · omega
          · exact h
          · omega
        refine i_aload_n (j := 1) (q := 154) C rfl rfl dX8_does_153 rfl ?_
        refine i_iload (j := 0) (q := 156) C rfl dX8_does_154 rfl ?_
        refine i_callV (wr := []) (As := [vI p]) (st := []) (i := 0) (j := 0) (q := 159) C (c_X8_chosen K l (am) (st) (bk) (un) (ck) (ty) (tm) (tx) (ln) (rf) (dg) (dn) (rk) (pl) (iw) (cpy od ((12 * i) + 4) wd 0 (od ((12 * i) + 3))) (wm) (od) (oc) (U) (p) (by first | assumption | omega) (by omega) (hsm.2.2.1) (hck) (by omega)) gX8_does_X8_chosen rfl hd_X8_chosen ⟨Nat.le_of_ble_eq_true rfl, Nat.le_of_ble_eq_true rfl⟩ ⟨rfl, rfl⟩ ⟨Nat.le_of_ble_eq_true rfl, Nat.le_of_ble_eq_true rfl⟩ (permBy [0] (by decide) rfl rfl) rfl rfl rfl rfl (Nat.le_of_ble_eq_true rfl) dX8_does_156 rfl (fun v w hq => ?_)
        obtain ⟨st3_156, rfl, rfl, he_156, hk_156⟩ := hq
        show V X 0 0 159 [(4, vI p), (0, vP (am 0)), (1, vI (12 * i)), (2, vI (od (12 * i))), (3, vI (od ((12 * i) + 1)))] [vI (nsc (st 2801) (st (14 * p + 1)) (st (14 * p + 4)) (st (14 * p + 5)) (tick ck))] [mdW am (st3_156, bk, un, tick ck, ty, tm, tx, ln, rf, dg, dn, rk, pl, iw, cpy od ((12 * i) + 4) wd 0 (od ((12 * i) + 3)), wm, od, oc)]
        refine i_pop (q := 160) C rfl dX8_does_159 rfl ?_
        refine i_iload (j := 0) (q := 162) C rfl dX8_does_160 rfl ?_
        refine i_iconst (q := 163) C dX8_does_162 rfl ?_
        refine i_icmp_eq (tgt := 170) (q := 166) C (by rcases hq with ⟨_, h | h⟩ | h <;> omega) (by omega) dX8_does_163 (by decide) rfl (fun c_163 => ?_) (fun c_163 => ?_)
        · skip
          refine i_iconst (q := 171) C dX8_does_170 rfl ?_
          refine i_zret C hR (by omega) dX8_does_171 ?_
          exact absurd c_163 c_150
        · skip
          refine i_iconst (q := 167) C dX8_does_166 rfl ?_
          refine i_goto (q := 171) C dX8_does_167 (by decide) ?_
          refine i_zret C hR (by omega) dX8_does_171 ?_
          have hD : (dO (bo st, ck, 0) (orA od i)) = (useB (bo st) (mp st p).1 (tick ck), tick ck, 1) := by
            unfold dO
            simp only
            rw [if_neg (show ¬ (orA od i).1 = 1 from fun z => by have z2 : od (12 * i) = 1 := z; omega), if_neg (show ¬ (orA od i).1 = 5 from fun z => by have z2 : od (12 * i) = 5 := z; omega), if_neg (show ¬ (orA od i).1 = 6 from fun z => by have z2 : od (12 * i) = 6 := z; omega), if_neg (show ¬ (orA od i).1 = 7 from fun z => by have z2 : od (12 * i) = 7 := z; omega), show fw (bo st) (orA od i).2.1 = some (mp st p) from hsm.2.2.2]
            simp only
            rw [if_pos (show (orA od i).1 = 2 from e_67_2)] <;> rfl
          have hO := okO_dO (c := ck) (n := 0) hoo hr hck (by omega)
          rw [hD] at hO
          have hb3 : bo (st3_156) = useB (bo st) (mp st p).1 (tick ck) := he_156
          exact ⟨st3_156, tick ck, cpy od ((12 * i) + 4) wd 0 (od ((12 * i) + 3)), by rw [hD], rfl, by rw [hD] <;> exact hb3, by rw [hD], hk_156, by rw [hb3]; exact hO, by unfold tick; omega⟩
    by_cases e_67_3 : od (12 * i) = 3
    · skip
      refine i_tsIn (q := 172) 3 C e_67_3 dX8_does_67 (by decide) rfl (by decide) ?_
      refine i_iload (j := 0) (q := 174) C rfl dX8_does_172 rfl ?_
      refine i_iconst (q := 175) C dX8_does_174 rfl ?_
      refine i_icmp_eq (tgt := 191) (q := 178) C (by rcases hq with ⟨_, h | h⟩ | h <;> omega) (by omega) dX8_does_175 (by decide) rfl (fun c_175 => ?_) (fun c_175 => ?_)
      · skip
        refine i_iload (j := 0) (q := 193) C rfl dX8_does_191 rfl ?_
        refine i_iconst (q := 194) C dX8_does_193 rfl ?_
        refine i_icmp_eq (tgt := 201) (q := 197) C (by rcases hq with ⟨_, h | h⟩ | h <;> omega) (by omega) dX8_does_194 (by decide) rfl (fun c_194 => ?_) (fun c_194 => ?_)
        · skip
          refine i_iconst (q := 202) C dX8_does_201 rfl ?_
          refine i_zret C hR (by omega) dX8_does_202 ?_
          have hnn : fw (bo st) (rg (fun k => od (12 * i + 4 + k)) (od (12 * i + 3))) = none := by
            rcases hq with ⟨_, h | h⟩ | h
            · exact h.2
            · omega
            · omega
          have hD : (dO (bo st, ck, 0) (orA od i)) = (bo st, ck, 0) := by
            unfold dO
            simp only
            rw [if_neg (show ¬ (orA od i).1 = 1 from fun z => by have z2 : od (12 * i) = 1 := z; omega), if_neg (show ¬ (orA od i).1 = 5 from fun z => by have z2 : od (12 * i) = 5 := z; omega), if_neg (show ¬ (orA od i).1 = 6 from fun z => by have z2 : od (12 * i) = 6 := z; omega), if_neg (show ¬ (orA od i).1 = 7 from fun z => by have z2 : od (12 * i) = 7 := z; omega), show fw (bo st) (orA od i).2.1 = none from hnn] <;> rfl
          have hO := okO_dO (c := ck) (n := 0) hoo hr hck (by omega)
          rw [hD] at hO
          have hb3 : bo (st) = bo st := rfl
          exact ⟨st, ck, cpy od ((12 * i) + 4) wd 0 (od ((12 * i) + 3)), by rw [hD], rfl, by rw [hD] <;> exact hb3, by rw [hD], hs.up (by omega) (by omega), by rw [hb3]; exact hO, hck⟩
        · skip
          refine i_iconst (q := 198) C dX8_does_197 rfl ?_
          refine i_goto (q := 202) C dX8_does_198 (by decide) ?_
          refine i_zret C hR (by omega) dX8_does_202 ?_
          exact absurd c_175 c_194
      · skip
        have hsm : 0 ≤ p ∧ p < st 2800 ∧ st (14 * p) = 1 ∧ fw (bo st) (rg (fun k => od (12 * i + 4 + k)) (od (12 * i + 3))) = some (mp st p) := by
          rcases hq with ⟨_, h | h⟩ | h
          · omega
          · exact h
          · omega
        refine i_aload_n (j := 1) (q := 179) C rfl rfl dX8_does_178 rfl ?_
        refine i_get (i := 0) (j := 0) (f := 0) (q := 182) C rfl rfl rfl hi_X8_does_X8 (by decide) lk_X8_does_7 rfl dX8_does_179 rfl ?_
        refine i_bipush (q := 184) C (by decide) dX8_does_182 rfl ?_
        refine i_iload (j := 0) (q := 186) C rfl dX8_does_184 rfl ?_
        refine i_imul (q := 187) C dX8_does_186 rfl ?_
        refine i_iconst (q := 188) C dX8_does_187 rfl ?_
        refine i_iadd (q := 189) C dX8_does_188 rfl ?_
        refine i_iload_n (j := 4) (q := 190) C rfl rfl dX8_does_189 rfl ?_
        refine i_iast (i := 0) (j := 1) (q := 191) (cs' := [mdW am (up st ((14 * p) + 1) (od ((12 * i) + 1)), bk, un, ck, ty, tm, tx, ln, rf, dg, dn, rk, pl, iw, cpy od ((12 * i) + 4) wd 0 (od ((12 * i) + 3)), wm, od, oc)]) C rfl rfl (by omega) dX8_does_190 rfl rfl ?_
        refine i_iload (j := 0) (q := 193) C rfl dX8_does_191 rfl ?_
        refine i_iconst (q := 194) C dX8_does_193 rfl ?_
        refine i_icmp_eq (tgt := 201) (q := 197) C (by rcases hq with ⟨_, h | h⟩ | h <;> omega) (by omega) dX8_does_194 (by decide) rfl (fun c_194 => ?_) (fun c_194 => ?_)
        · skip
          refine i_iconst (q := 202) C dX8_does_201 rfl ?_
          refine i_zret C hR (by omega) dX8_does_202 ?_
          exact absurd c_194 c_175
        · skip
          refine i_iconst (q := 198) C dX8_does_197 rfl ?_
          refine i_goto (q := 202) C dX8_does_198 (by decide) ?_
          refine i_zret C hR (by omega) dX8_does_202 ?_
          have hD : (dO (bo st, ck, 0) (orA od i)) = (scoB (bo st) (mp st p).1 (od (12 * i + 1)), ck, 1) := by
            unfold dO
            simp only
            rw [if_neg (show ¬ (orA od i).1 = 1 from fun z => by have z2 : od (12 * i) = 1 := z; omega), if_neg (show ¬ (orA od i).1 = 5 from fun z => by have z2 : od (12 * i) = 5 := z; omega), if_neg (show ¬ (orA od i).1 = 6 from fun z => by have z2 : od (12 * i) = 6 := z; omega), if_neg (show ¬ (orA od i).1 = 7 from fun z => by have z2 : od (12 * i) = 7 := z; omega), show fw (bo st) (orA od i).2.1 = some (mp st p) from hsm.2.2.2]
            simp only
            rw [if_neg (show ¬ (orA od i).1 = 2 from fun z => by have z2 : od (12 * i) = 2 := z; omega), if_pos (show (orA od i).1 = 3 from e_67_3)] <;> rfl
          have hO := okO_dO (c := ck) (n := 0) hoo hr hck (by omega)
          rw [hD] at hO
          have hb3 : bo (up st (14 * p + 1) (od (12 * i + 1))) = scoB (bo st) (mp st p).1 (od (12 * i + 1)) := (set_ok (U2 := U + 1) (s2 := up st (14 * p + 1) (od (12 * i + 1))) hs (by omega) (by omega) (by omega) (fun z => (z.1, z.2.1, (od (12 * i + 1)), z.2.2.2.1, z.2.2.2.2.1, z.2.2.2.2.2)) (fun k _ _ a _ _ => up_n _ _ a) (by rw [up_s]; omega) (by rw [up_n _ _ (by omega)]; have := hs.k4 p (by omega) (by omega); omega) (by rw [up_n _ _ (by omega)]; exact hs.k5 p (by omega) (by omega)) (fun _ => by rw [up_s, up_n _ _ (by omega), up_n _ _ (by omega)]; rfl)).1
          exact ⟨up st (14 * p + 1) (od (12 * i + 1)), ck, cpy od ((12 * i) + 4) wd 0 (od ((12 * i) + 3)), by rw [hD], rfl, by rw [hD] <;> exact hb3, by rw [hD], (set_ok (U2 := U + 1) (s2 := up st (14 * p + 1) (od (12 * i + 1))) hs (by omega) (by omega) (by omega) (fun z => (z.1, z.2.1, (od (12 * i + 1)), z.2.2.2.1, z.2.2.2.2.1, z.2.2.2.2.2)) (fun k _ _ a _ _ => up_n _ _ a) (by rw [up_s]; omega) (by rw [up_n _ _ (by omega)]; have := hs.k4 p (by omega) (by omega); omega) (by rw [up_n _ _ (by omega)]; exact hs.k5 p (by omega) (by omega)) (fun _ => by rw [up_s, up_n _ _ (by omega), up_n _ _ (by omega)]; rfl)).2, by rw [hb3]; exact hO, hck⟩
    by_cases e_67_4 : od (12 * i) = 4
    · skip
      refine i_tsIn (q := 203) 4 C e_67_4 dX8_does_67 (by decide) rfl (by decide) ?_
      refine i_iload (j := 0) (q := 205) C rfl dX8_does_203 rfl ?_
      refine i_iconst (q := 206) C dX8_does_205 rfl ?_
      refine i_icmp_eq (tgt := 220) (q := 209) C (by rcases hq with ⟨_, h | h⟩ | h <;> omega) (by omega) dX8_does_206 (by decide) rfl (fun c_206 => ?_) (fun c_206 => ?_)
      · skip
        refine i_iload (j := 0) (q := 222) C rfl dX8_does_220 rfl ?_
        refine i_iconst (q := 223) C dX8_does_222 rfl ?_
        refine i_icmp_eq (tgt := 230) (q := 226) C (by rcases hq with ⟨_, h | h⟩ | h <;> omega) (by omega) dX8_does_223 (by decide) rfl (fun c_223 => ?_) (fun c_223 => ?_)
        · skip
          refine i_iconst (q := 231) C dX8_does_230 rfl ?_
          refine i_zret C hR (by omega) dX8_does_231 ?_
          have hnn : fw (bo st) (rg (fun k => od (12 * i + 4 + k)) (od (12 * i + 3))) = none := by
            rcases hq with ⟨_, h | h⟩ | h
            · exact h.2
            · omega
            · omega
          have hD : (dO (bo st, ck, 0) (orA od i)) = (bo st, ck, 0) := by
            unfold dO
            simp only
            rw [if_neg (show ¬ (orA od i).1 = 1 from fun z => by have z2 : od (12 * i) = 1 := z; omega), if_neg (show ¬ (orA od i).1 = 5 from fun z => by have z2 : od (12 * i) = 5 := z; omega), if_neg (show ¬ (orA od i).1 = 6 from fun z => by have z2 : od (12 * i) = 6 := z; omega), if_neg (show ¬ (orA od i).1 = 7 from fun z => by have z2 : od (12 * i) = 7 := z; omega), show fw (bo st) (orA od i).2.1 = none from hnn] <;> rfl
          have hO := okO_dO (c := ck) (n := 0) hoo hr hck (by omega)
          rw [hD] at hO
          have hb3 : bo (st) = bo st := rfl
          exact ⟨st, ck, cpy od ((12 * i) + 4) wd 0 (od ((12 * i) + 3)), by rw [hD], rfl, by rw [hD] <;> exact hb3, by rw [hD], hs.up (by omega) (by omega), by rw [hb3]; exact hO, hck⟩
        · skip
          refine i_iconst (q := 227) C dX8_does_226 rfl ?_
          refine i_goto (q := 231) C dX8_does_227 (by decide) ?_
          refine i_zret C hR (by omega) dX8_does_231 ?_
          exact absurd c_206 c_223
      · skip
        have hsm : 0 ≤ p ∧ p < st 2800 ∧ st (14 * p) = 1 ∧ fw (bo st) (rg (fun k => od (12 * i + 4 + k)) (od (12 * i + 3))) = some (mp st p) := by
          rcases hq with ⟨_, h | h⟩ | h
          · omega
          · exact h
          · omega
        refine i_aload_n (j := 1) (q := 210) C rfl rfl dX8_does_209 rfl ?_
        refine i_get (i := 0) (j := 0) (f := 0) (q := 213) C rfl rfl rfl hi_X8_does_X8 (by decide) lk_X8_does_7 rfl dX8_does_210 rfl ?_
        refine i_bipush (q := 215) C (by decide) dX8_does_213 rfl ?_
        refine i_iload (j := 0) (q := 217) C rfl dX8_does_215 rfl ?_
        refine i_imul (q := 218) C dX8_does_217 rfl ?_
        refine i_iconst (q := 219) C dX8_does_218 rfl ?_
        refine i_iast (i := 0) (j := 1) (q := 220) (cs' := [mdW am (up st (14 * p) 0, bk, un, ck, ty, tm, tx, ln, rf, dg, dn, rk, pl, iw, cpy od ((12 * i) + 4) wd 0 (od ((12 * i) + 3)), wm, od, oc)]) C rfl rfl (by omega) dX8_does_219 rfl rfl ?_
        refine i_iload (j := 0) (q := 222) C rfl dX8_does_220 rfl ?_
        refine i_iconst (q := 223) C dX8_does_222 rfl ?_
        refine i_icmp_eq (tgt := 230) (q := 226) C (by rcases hq with ⟨_, h | h⟩ | h <;> omega) (by omega) dX8_does_223 (by decide) rfl (fun c_223 => ?_) (fun c_223 => ?_)
        · skip
          refine i_iconst (q := 231) C dX8_does_230 rfl ?_
          refine i_zret C hR (by omega) dX8_does_231 ?_
          exact absurd c_223 c_206
        · skip
          refine i_iconst (q := 227) C dX8_does_226 rfl ?_
          refine i_goto (q := 231) C dX8_does_227 (by decide) ?_
          refine i_zret C hR (by omega) dX8_does_231 ?_
          have hD : (dO (bo st, ck, 0) (orA od i)) = (outB (bo st) (mp st p).1, ck, 1) := by
            unfold dO
            simp only
            rw [if_neg (show ¬ (orA od i).1 = 1 from fun z => by have z2 : od (12 * i) = 1 := z; omega), if_neg (show ¬ (orA od i).1 = 5 from fun z => by have z2 : od (12 * i) = 5 := z; omega), if_neg (show ¬ (orA od i).1 = 6 from fun z => by have z2 : od (12 * i) = 6 := z; omega), if_neg (show ¬ (orA od i).1 = 7 from fun z => by have z2 : od (12 * i) = 7 := z; omega), show fw (bo st) (orA od i).2.1 = some (mp st p) from hsm.2.2.2]
            simp only
            rw [if_neg (show ¬ (orA od i).1 = 2 from fun z => by have z2 : od (12 * i) = 2 := z; omega), if_neg (show ¬ (orA od i).1 = 3 from fun z => by have z2 : od (12 * i) = 3 := z; omega)] <;> rfl
          have hO := okO_dO (c := ck) (n := 0) hoo hr hck (by omega)
          rw [hD] at hO
          have hb3 : bo (up st (14 * p) 0) = outB (bo st) (mp st p).1 := (out_ok hs (q := p) (by omega)).1
          exact ⟨up st (14 * p) 0, ck, cpy od ((12 * i) + 4) wd 0 (od ((12 * i) + 3)), by rw [hD], rfl, by rw [hD] <;> exact hb3, by rw [hD], (out_ok hs (q := p) (by omega)).2.up (by omega) (by omega), by rw [hb3]; exact hO, hck⟩
    by_cases e_67_5 : od (12 * i) = 5
    · skip
      refine i_tsIn (q := 232) 5 C e_67_5 dX8_does_67 (by decide) rfl (by decide) ?_
      refine i_aload_n (j := 1) (q := 233) C rfl rfl dX8_does_232 rfl ?_
      refine i_get (i := 0) (j := 0) (f := 0) (q := 236) C rfl rfl rfl hi_X8_does_X8 (by decide) lk_X8_does_7 rfl dX8_does_233 rfl ?_
      refine i_sipush (q := 239) C (by decide) dX8_does_236 rfl ?_
      refine i_iload_n (j := 4) (q := 240) C rfl rfl dX8_does_239 rfl ?_
      refine i_iast (i := 0) (j := 1) (q := 241) (cs' := [mdW am (up st 2801 (od ((12 * i) + 1)), bk, un, ck, ty, tm, tx, ln, rf, dg, dn, rk, pl, iw, cpy od ((12 * i) + 4) wd 0 (od ((12 * i) + 3)), wm, od, oc)]) C rfl rfl (by omega) dX8_does_240 rfl rfl ?_
      refine i_iconst (q := 242) C dX8_does_241 rfl ?_
      refine i_zret C hR (by omega) dX8_does_242 ?_
      have hD : (dO (bo st, ck, 0) (orA od i)) = (((bo st).1, (bo st).2.1, od (12 * i + 1), (bo st).2.2.2), ck, 1) := by
        unfold dO
        simp only
        rw [if_neg (show ¬ (orA od i).1 = 1 from fun z => by have z2 : od (12 * i) = 1 := z; omega), if_pos (show (orA od i).1 = 5 from e_67_5)] <;> rfl
      have hO := okO_dO (c := ck) (n := 0) hoo hr hck (by omega)
      rw [hD] at hO
      have hb3 : bo (up st 2801 (od (12 * i + 1))) = ((bo st).1, (bo st).2.1, od (12 * i + 1), (bo st).2.2.2) := (rank_ok hs (by omega)).1
      exact ⟨up st 2801 (od (12 * i + 1)), ck, cpy od ((12 * i) + 4) wd 0 (od ((12 * i) + 3)), by rw [hD], rfl, by rw [hD] <;> exact hb3, by rw [hD], (rank_ok hs (by omega)).2.up (by omega) (by omega), by rw [hb3]; exact hO, hck⟩
    by_cases e_67_6 : od (12 * i) = 6
    · skip
      refine i_tsIn (q := 243) 6 C e_67_6 dX8_does_67 (by decide) rfl (by decide) ?_
      refine i_aload_n (j := 1) (q := 244) C rfl rfl dX8_does_243 rfl ?_
      refine i_get (i := 0) (j := 0) (f := 0) (q := 247) C rfl rfl rfl hi_X8_does_X8 (by decide) lk_X8_does_7 rfl dX8_does_244 rfl ?_
      refine i_sipush (q := 250) C (by decide) dX8_does_247 rfl ?_
      refine i_iload_n (j := 4) (q := 251) C rfl rfl dX8_does_250 rfl ?_
      refine i_iast (i := 0) (j := 1) (q := 252) (cs' := [mdW am (up st 2802 (od ((12 * i) + 1)), bk, un, ck, ty, tm, tx, ln, rf, dg, dn, rk, pl, iw, cpy od ((12 * i) + 4) wd 0 (od ((12 * i) + 3)), wm, od, oc)]) C rfl rfl (by omega) dX8_does_251 rfl rfl ?_
      refine i_iconst (q := 253) C dX8_does_252 rfl ?_
      refine i_zret C hR (by omega) dX8_does_253 ?_
      have hD : (dO (bo st, ck, 0) (orA od i)) = (((bo st).1, (bo st).2.1, (bo st).2.2.1, od (12 * i + 1)), ck, 1) := by
        unfold dO
        simp only
        rw [if_neg (show ¬ (orA od i).1 = 1 from fun z => by have z2 : od (12 * i) = 1 := z; omega), if_neg (show ¬ (orA od i).1 = 5 from fun z => by have z2 : od (12 * i) = 5 := z; omega), if_pos (show (orA od i).1 = 6 from e_67_6)] <;> rfl
      have hO := okO_dO (c := ck) (n := 0) hoo hr hck (by omega)
      rw [hD] at hO
      have hb3 : bo (up st 2802 (od (12 * i + 1))) = ((bo st).1, (bo st).2.1, (bo st).2.2.1, od (12 * i + 1)) := (slip_ok hs (by omega)).1
      exact ⟨up st 2802 (od (12 * i + 1)), ck, cpy od ((12 * i) + 4) wd 0 (od ((12 * i) + 3)), by rw [hD], rfl, by rw [hD] <;> exact hb3, by rw [hD], (slip_ok hs (by omega)).2.up (by omega) (by omega), by rw [hb3]; exact hO, hck⟩
    refine i_tsOut (q := 254) C (by omega) (by omega) dX8_does_67 (by decide) ?_
    refine i_aload_n (j := 1) (q := 255) C rfl rfl dX8_does_254 rfl ?_
    refine i_callV (wr := []) (As := []) (st := []) (i := 0) (j := 0) (q := 258) C (c_X8_halves K l (am) (st) (bk) (un) (ck) (ty) (tm) (tx) (ln) (rf) (dg) (dn) (rk) (pl) (iw) (cpy od ((12 * i) + 4) wd 0 (od ((12 * i) + 3))) (wm) (od) (oc) (U) (by first | assumption | omega)) gX8_does_X8_halves rfl hd_X8_halves ⟨Nat.le_of_ble_eq_true rfl, Nat.le_of_ble_eq_true rfl⟩ ⟨rfl, rfl⟩ ⟨Nat.le_of_ble_eq_true rfl, Nat.le_of_ble_eq_true rfl⟩ (permBy [0] (by decide) rfl rfl) rfl rfl rfl rfl (Nat.le_of_ble_eq_true rfl) dX8_does_255 rfl (fun v w hq => ?_)
    obtain ⟨st3_255, rfl, rfl, he_255, hk_255⟩ := hq
    show V X 0 0 258 [(4, vI p), (0, vP (am 0)), (1, vI (12 * i)), (2, vI (od (12 * i))), (3, vI (od ((12 * i) + 1)))] [] [mdW am (st3_255, bk, un, ck, ty, tm, tx, ln, rf, dg, dn, rk, pl, iw, cpy od ((12 * i) + 4) wd 0 (od ((12 * i) + 3)), wm, od, oc)]
    refine i_iconst (q := 259) C dX8_does_258 rfl ?_
    refine i_zret C hR (by omega) dX8_does_259 ?_
    have hD : (dO (bo st, ck, 0) (orA od i)) = (halfB (bo st), ck, 1) := by
      unfold dO
      simp only
      rw [if_neg (show ¬ (orA od i).1 = 1 from fun z => by have z2 : od (12 * i) = 1 := z; omega), if_neg (show ¬ (orA od i).1 = 5 from fun z => by have z2 : od (12 * i) = 5 := z; omega), if_neg (show ¬ (orA od i).1 = 6 from fun z => by have z2 : od (12 * i) = 6 := z; omega), if_pos (show (orA od i).1 = 7 from (by omega : od (12 * i) = 7))] <;> rfl
    have hO := okO_dO (c := ck) (n := 0) hoo hr hck (by omega)
    rw [hD] at hO
    have hb3 : bo (st3_255) = halfB (bo st) := he_255
    exact ⟨st3_255, ck, cpy od ((12 * i) + 4) wd 0 (od ((12 * i) + 3)), by rw [hD], rfl, by rw [hD] <;> exact hb3, by rw [hD], hk_255.up (by omega) (by omega), by rw [hb3]; exact hO, hck⟩
  refine i_iload_n (j := 1) (q := 40) C rfl rfl dX8_does_39 rfl ?_
  refine i_iconst (q := 41) C dX8_does_40 rfl ?_
  refine i_icmp_gt (tgt := 63) (q := 44) C (by omega) (by omega) dX8_does_41 (by decide) rfl (fun c_41 => ?_) (fun c_41 => ?_)
  · skip
    refine i_iconst (q := 64) C dX8_does_63 rfl ?_
    refine V.lv [2, 3, 1, 0] rfl ?_
    exact join_64 ((-1)) (by
      first
        | exact Or.inr ⟨by omega, rfl⟩
        | exact Or.inl ⟨by omega, by
            rcases hr_57 with h | h
            · refine Or.inl ⟨h.1, fw_n.mpr ?_⟩
              rw [Bool.eq_false_iff]
              intro z
              obtain ⟨x, hx, e⟩ := (has_bo _).mp z
              exact h.2 x hx (by rw [e, hwe])
            · exact Or.inr ⟨h.1, h.2.1, h.2.2.1, fw_y hoo (mem_ml h.1 (by omega) h.2.2.1) (by rw [show (mp st r_57).2.1 = lt st r_57 from rfl, h.2.2.2, hwe])⟩⟩)
  · skip
    refine i_aload_n (j := 2) (q := 45) C rfl rfl dX8_does_44 rfl ?_
    refine i_aload_n (j := 2) (q := 46) C rfl rfl dX8_does_45 rfl ?_
    refine i_get (i := 0) (j := 0) (f := 14) (q := 49) C rfl rfl rfl hi_X8_does_X8 (by decide) lk_X8_does_32 rfl dX8_does_46 rfl ?_
    refine i_aload_n (j := 2) (q := 50) C rfl rfl dX8_does_49 rfl ?_
    refine i_get (i := 0) (j := 0) (f := 16) (q := 53) C rfl rfl rfl hi_X8_does_X8 (by decide) lk_X8_does_35 rfl dX8_does_50 rfl ?_
    refine i_iload_n (j := 3) (q := 54) C rfl rfl dX8_does_53 rfl ?_
    refine i_iconst (q := 55) C dX8_does_54 rfl ?_
    refine i_iadd (q := 56) C dX8_does_55 rfl ?_
    refine i_iald (i := 0) (j := 9) (q := 57) C rfl rfl (by omega) dX8_does_56 rfl ?_
    refine i_callV (wr := []) (As := [vP (am 8), vI (od ((12 * i) + 3))]) (st := []) (i := 0) (j := 0) (q := 60) C (c_X8_foundBy_wd K l (am) (st) (bk) (un) (ck) (ty) (tm) (tx) (ln) (rf) (dg) (dn) (rk) (pl) (iw) (cpy od ((12 * i) + 4) wd 0 (od ((12 * i) + 3))) (wm) (od) (oc) (U) (od ((12 * i) + 3)) (by first | assumption | omega) (by omega) (fun k g0 g1 => by have := hwr k g0 g1; omega)) gX8_does_X8_foundBy rfl hd_X8_foundBy ⟨Nat.le_of_ble_eq_true rfl, Nat.le_of_ble_eq_true rfl⟩ ⟨rfl, rfl⟩ ⟨Nat.le_of_ble_eq_true rfl, Nat.le_of_ble_eq_true rfl⟩ (permBy [0] (by decide) rfl rfl) rfl rfl rfl rfl (Nat.le_of_ble_eq_true rfl) dX8_does_57 rfl (fun v w hq => ?_)
    obtain ⟨r_57, rfl, rfl, hr_57⟩ := hq
    show V X 0 0 60 [(3, vI (od ((12 * i) + 1))), (2, vI (od (12 * i))), (0, vP (am 0)), (1, vI (12 * i))] [vI r_57] [mdW am (st, bk, un, ck, ty, tm, tx, ln, rf, dg, dn, rk, pl, iw, cpy od ((12 * i) + 4) wd 0 (od ((12 * i) + 3)), wm, od, oc)]
    refine i_goto (q := 64) C dX8_does_60 (by decide) ?_
    refine V.lv [2, 3, 1, 0] rfl ?_
    exact join_64 (r_57) (by
      first
        | exact Or.inr ⟨by omega, rfl⟩
        | exact Or.inl ⟨by omega, by
            rcases hr_57 with h | h
            · refine Or.inl ⟨h.1, fw_n.mpr ?_⟩
              rw [Bool.eq_false_iff]
              intro z
              obtain ⟨x, hx, e⟩ := (has_bo _).mp z
              exact h.2 x hx (by rw [e, hwe])
            · exact Or.inr ⟨h.1, h.2.1, h.2.2.1, fw_y hoo (mem_ml h.1 (by omega) h.2.2.1) (by rw [show (mp st r_57).2.1 = lt st r_57 from rfl, h.2.2.2, hwe])⟩⟩)

theorem hd_X8_reads : yX8_reads.cls = RX8 ∧ yX8_reads.cls ≠ "java/lang/invoke/MethodHandle" ∧ yX8_reads.cls ≠ "java/lang/invoke/VarHandle" ∧ (parseMethodDescriptor yX8_reads.desc).map (fun d => d.parameters.length) = some 0 := by decide +kernel
theorem lk_X8_runs_188 : Cond.fieldLink RX8 188 (TX8 17).1 (TX8 17).2.1 (TX8 17).2.2.1 ∈ wsX8_runs := List.mem_of_getElem? (i := 2) rfl
theorem hi_X8_runs_X8 : ∀ w ∈ u_ws RX8 TX8 18, w ∈ wsX8_runs := by decide +kernel
theorem hd_X8_does : yX8_does.cls = RX8 ∧ yX8_does.cls ≠ "java/lang/invoke/MethodHandle" ∧ yX8_does.cls ≠ "java/lang/invoke/VarHandle" ∧ (parseMethodDescriptor yX8_does.desc).map (fun d => d.parameters.length) = some 1 := by decide +kernel
theorem lk_X8_runs_168 : Cond.fieldLink RX8 168 (TX8 12).1 (TX8 12).2.1 (TX8 12).2.2.1 ∈ wsX8_runs := List.mem_of_getElem? (i := 1) rfl
set_option maxHeartbeats 400000 in
set_option maxRecDepth 100000 in
theorem c_X8_runs (K : KT) (l : Launch) (am : Nat → Nat) (st : Int → Int) (bk : Int → Int) (un : Int) (ck : Int) (ty : Int → Int) (tm : Int) (tx : Int → Int) (ln : Int) (rf : Int → Int) (dg : Int) (dn : Int → Int) (rk : Int → Int) (pl : Int) (iw : Int) (wd : Int → Int) (wm : Int) (od : Int → Int) (oc : Int) (N : Int) (hm : okM N st bk un ck ty tm tx ln rf) (hN : N < 512) (hoo : okO (24 * N) (bo st)) : Mt K l yX8_runs wsX8_runs ({ frames := 5, cells := 0, slots := 0, locals := 114 }) [vP (am 0)] [mdW am (st, bk, un, ck, ty, tm, tx, ln, rf, dg, dn, rk, pl, iw, wd, wm, od, oc)] 0 0 (fun v w => ∃ st3 : Int → Int, ∃ bk3 : Int → Int, ∃ un3 : Int, ∃ ck3 : Int, ∃ pl3 : Int, ∃ iw3 : Int, ∃ wd3 : Int → Int, ∃ wm3 : Int, ∃ od3 : Int → Int, ∃ oc3 : Int, v = some (vI ((sp_runs (absM st bk un ck ty tm tx ln rf)).1)) ∧ w = [mdW am (st3, bk3, un3, ck3, ty, tm, tx, ln, rf, dg, dn, rk, pl3, iw3, wd3, wm3, od3, oc3)] ∧ (absM st3 bk3 un3 ck3 ty tm tx ln rf = (sp_runs (absM st bk un ck ty tm tx ln rf)).2) ∧ (okM (N + 1) st3 bk3 un3 ck3 ty tm tx ln rf)) := by
  refine Mt.of (own := RX8) (cc := cX8_runs) (maxL := 3) (ret := (some .int)) (lv0 := [(0, vP (am 0))]) (by decide) rfl rfl (Nat.le_of_ble_eq_true rfl) rfl (fun X C hR hNm => ?_)
  have hs := hm.hs
  have hgv := hs.gv
  have hN0 := hm.hN
  have hH := hm.hH
  have hck := hm.hck
  have htm := hm.htm
  have hln := hm.hln
  have hun := hH.1
  have htx := hm.htx
  refine i_aload_n (j := 0) (q := 1) C rfl rfl dX8_runs_0 rfl ?_
  refine i_callV (wr := []) (As := []) (st := []) (i := 0) (j := 0) (q := 4) C (c_X8_reads K l (am) (st) (bk) (un) (ck) (ty) (tm) (tx) (ln) (rf) (dg) (dn) (rk) (pl) (iw) (wd) (wm) (od) (oc) (hln) (htx)) gX8_runs_X8_reads rfl hd_X8_reads ⟨Nat.le_of_ble_eq_true rfl, Nat.le_of_ble_eq_true rfl⟩ ⟨rfl, rfl⟩ ⟨Nat.le_of_ble_eq_true rfl, Nat.le_of_ble_eq_true rfl⟩ (permBy [0] (by decide) rfl rfl) rfl rfl rfl rfl (Nat.le_of_ble_eq_true rfl) dX8_runs_1 rfl (fun v w hq => ?_)
  obtain ⟨r_1, wd3_1, wm3_1, od3_1, pl3_1, iw3_1, oc3_1, rfl, rfl, hr_1⟩ := hq
  show V X 0 0 4 [(0, vP (am 0))] [vI r_1] [mdW am (st, bk, un, ck, ty, tm, tx, ln, rf, dg, dn, rk, pl3_1, iw3_1, wd3_1, wm3_1, od3_1, oc3_1)]
  refine i_if_ne (tgt := 15) (q := 7) C (by rcases hr_1 with h | h <;> omega) dX8_runs_4 (by decide) rfl (fun c_4 => ?_) (fun c_4 => ?_)
  · skip
    have hok : (0 ≤ oc3_1 ∧ oc3_1 ≤ 24) ∧ pA (rg tx ln) 24 0 [] = (-1, orL od3_1 oc3_1) ∧ (∀ q ∈ orL od3_1 oc3_1, okOr q) ∧ (∀ i, 0 ≤ i → i < oc3_1 → 0 ≤ od3_1 (12 * i + 3) ∧ od3_1 (12 * i + 3) ≤ 8) := by
      rcases hr_1 with h | h
      · exact h.2
      · omega
    refine i_aload_n (j := 0) (q := 16) C rfl rfl dX8_runs_15 rfl ?_
    refine i_callV (wr := []) (As := []) (st := []) (i := 0) (j := 0) (q := 19) C (c_X8_notes K l (am) (st) (bk) (un) (ck) (ty) (tm) (tx) (ln) (rf) (dg) (dn) (rk) (pl3_1) (iw3_1) (wd3_1) (wm3_1) (od3_1) (oc3_1) (24 * N) (by first | assumption | omega) (by first | assumption | omega)) gX8_runs_X8_notes rfl hd_X8_notes ⟨Nat.le_of_ble_eq_true rfl, Nat.le_of_ble_eq_true rfl⟩ ⟨rfl, rfl⟩ ⟨Nat.le_of_ble_eq_true rfl, Nat.le_of_ble_eq_true rfl⟩ (permBy [0] (by decide) rfl rfl) rfl rfl rfl rfl (Nat.le_of_ble_eq_true rfl) dX8_runs_16 rfl (fun v w hq => ?_)
    obtain ⟨bk3_16, un3_16, rfl, rfl, he_16, hk_16⟩ := hq
    show V X 0 0 19 [(0, vP (am 0))] [] [mdW am (st, bk3_16, un3_16, ck, ty, tm, tx, ln, rf, dg, dn, rk, pl3_1, iw3_1, wd3_1, wm3_1, od3_1, oc3_1)]
    refine i_iconst (q := 20) C dX8_runs_19 rfl ?_
    refine i_istore_n (q := 21) (lv' := [(1, vI 0), (0, vP (am 0))]) C rfl (by decide) rfl dX8_runs_20 rfl ?_
    refine i_iconst (q := 22) C dX8_runs_21 rfl ?_
    refine i_istore_n (q := 23) (lv' := [(2, vI 0), (1, vI 0), (0, vP (am 0))]) C rfl (by decide) rfl dX8_runs_22 rfl ?_
    have loop_23 : ∀ (fuel : Nat) (k : Int) (n : Int) (st4 : Int → Int) (ck4 : Int) (wd4 : Int → Int), ((oc3_1 - k).toNat) < fuel → (0 ≤ k ∧ k ≤ oc3_1) → (okS (24 * N + k) st4) → (okO (24 * N + k) (bo st4)) → ((orL od3_1 k).foldl dO (bo st, ck, 0) = (bo st4, ck4, n)) → (0 ≤ ck4 ∧ ck4 ≤ 9999) → V X 0 0 23 [(0, vP (am 0)), (1, vI n), (2, vI k)] [] [mdW am (st4, bk3_16, un3_16, ck4, ty, tm, tx, ln, rf, dg, dn, rk, pl3_1, iw3_1, wd4, wm3_1, od3_1, oc3_1)] := by
      intro fuel
      induction fuel with
      | zero => intro k n st4 ck4 wd4 hz; exact absurd hz (Nat.not_lt_zero _)
      | succ fuel ih_23 =>
        intro k n st4 ck4 wd4 hfu_23 hk0 hs4 ho4 hf4 hck4
        refine i_iload_n (j := 2) (q := 24) C rfl rfl dX8_runs_23 rfl ?_
        refine i_aload_n (j := 0) (q := 25) C rfl rfl dX8_runs_24 rfl ?_
        refine i_get (i := 0) (j := 0) (f := 17) (q := 28) C rfl rfl rfl hi_X8_runs_X8 (by decide) lk_X8_runs_188 rfl dX8_runs_25 rfl ?_
        refine i_icmp_ge (tgt := 56) (q := 31) C (by omega) (by omega) dX8_runs_28 (by decide) rfl (fun c_28 => ?_) (fun c_28 => ?_)
        · skip
          refine i_iload_n (j := 1) (q := 57) C rfl rfl dX8_runs_56 rfl ?_
          refine i_iret C hR dX8_runs_57 ?_
          have e9 : k = oc3_1 := by omega
          subst e9
          have hsp : (sp_runs (absM st bk un ck ty tm tx ln rf)) = (n, absM st4 bk3_16 un3_16 ck4 ty tm tx ln rf) := by
            unfold absM
            simp only [sp_runs]
            rw [hok.2.1]
            simp only [if_true]
            rw [hf4, ← he_16]
          exact ⟨st4, bk3_16, un3_16, ck4, pl3_1, iw3_1, wd4, wm3_1, od3_1, k, by rw [hsp], rfl, by rw [hsp], hm.upd hN (hs4.up (by omega) (by omega)) (hk_16.up (by omega) (by omega)) hck4⟩
        · skip
          refine i_iload_n (j := 1) (q := 32) C rfl rfl dX8_runs_31 rfl ?_
          refine i_aload_n (j := 0) (q := 33) C rfl rfl dX8_runs_32 rfl ?_
          refine i_bipush (q := 35) C (by decide) dX8_runs_33 rfl ?_
          refine i_iload_n (j := 2) (q := 36) C rfl rfl dX8_runs_35 rfl ?_
          refine i_imul (q := 37) C dX8_runs_36 rfl ?_
          refine i_callV (wr := []) (As := [vI (12 * k)]) (st := [vI n]) (i := 0) (j := 0) (q := 40) C (c_X8_does K l (am) (st4) (bk3_16) (un3_16) (ck4) (ty) (tm) (tx) (ln) (rf) (dg) (dn) (rk) (pl3_1) (iw3_1) (wd4) (wm3_1) (od3_1) (oc3_1) (24 * N + k) (k) (hs4) (by omega) (hok.2.2.1 _ (orL_mem hk0.1 (by omega))) (hok.2.2.2 k (by omega) (by omega)) (ho4) (by omega) (hck4)) gX8_runs_X8_does rfl hd_X8_does ⟨Nat.le_of_ble_eq_true rfl, Nat.le_of_ble_eq_true rfl⟩ ⟨rfl, rfl⟩ ⟨Nat.le_of_ble_eq_true rfl, Nat.le_of_ble_eq_true rfl⟩ (permBy [0] (by decide) rfl rfl) rfl rfl rfl rfl (Nat.le_of_ble_eq_true rfl) dX8_runs_37 rfl (fun v w hq => ?_)
          obtain ⟨st3_37, ck3_37, wd3_37, rfl, rfl, hd1_37, hd2_37, hk_37, hko_37, hck3_37⟩ := hq
          show V X 0 0 40 [(0, vP (am 0)), (1, vI n), (2, vI k)] [vI ((dO (bo st4, ck4, 0) (orA od3_1 k)).2.2), vI n] [mdW am (st3_37, bk3_16, un3_16, ck3_37, ty, tm, tx, ln, rf, dg, dn, rk, pl3_1, iw3_1, wd3_37, wm3_1, od3_1, oc3_1)]
          have join_48 : ∀ (bb : Int), (bb = (dO (bo st4, ck4, 0) (orA od3_1 k)).2.2) → V X 0 0 48 [(0, vP (am 0)), (1, vI n), (2, vI k)] [vI bb, vI n] [mdW am (st3_37, bk3_16, un3_16, ck3_37, ty, tm, tx, ln, rf, dg, dn, rk, pl3_1, iw3_1, wd3_37, wm3_1, od3_1, oc3_1)] := by
            intro bb hbb
            refine i_iadd (q := 49) C dX8_runs_48 rfl ?_
            refine i_istore_n (q := 50) (lv' := [(1, vI (n + bb)), (0, vP (am 0)), (2, vI k)]) C rfl (by decide) rfl dX8_runs_49 rfl ?_
            refine i_iinc (j := 2) (q := 53) (lv' := [(2, vI (k + 1)), (1, vI (n + bb)), (0, vP (am 0))]) C rfl (by decide) rfl dX8_runs_50 rfl ?_
            refine i_goto (q := 23) C dX8_runs_53 (by decide) ?_
            refine V.lv [2, 1, 0] rfl ?_
            exact ih_23 (k + 1) (n + bb) (st3_37) (ck3_37) (wd3_37) (by omega) (by omega) (by rw [show 24 * N + (k + 1) = 24 * N + k + 1 by omega]; exact hk_37) (by rw [show 24 * N + (k + 1) = 24 * N + k + 1 by omega]; exact hko_37) (by rw [orL_fold _ _ _ hk0.1, hf4, dO_n, ← hd1_37, ← hd2_37, ← hbb]) (hck3_37)
          refine i_if_eq (tgt := 47) (q := 43) C (by have := dO_01 (bo st4) ck4 (orA od3_1 k); omega) dX8_runs_40 (by decide) rfl (fun c_40 => ?_) (fun c_40 => ?_)
          · skip
            refine i_iconst (q := 48) C dX8_runs_47 rfl ?_
            exact join_48 (0) (by have := dO_01 (bo st4) ck4 (orA od3_1 k); omega)
          · skip
            refine i_iconst (q := 44) C dX8_runs_43 rfl ?_
            refine i_goto (q := 48) C dX8_runs_44 (by decide) ?_
            exact join_48 (1) (by have := dO_01 (bo st4) ck4 (orA od3_1 k); omega)
    refine V.lv [2, 1, 0] rfl ?_
    exact loop_23 _ (0) (0) (st) (ck) (wd3_1) (Nat.lt_succ_self _) (by omega) (by rw [Int.add_zero]; exact hs) (by rw [Int.add_zero]; exact hoo) (rfl) (hck)
  · skip
    have hpr : 0 ≤ pl3_1 ∧ (pA (rg tx ln) 24 0 []).1 = pl3_1 := by
      rcases hr_1 with h | h
      · omega
      · exact h.2
    refine i_bipush (q := 9) C (by decide) dX8_runs_7 rfl ?_
    refine i_aload_n (j := 0) (q := 10) C rfl rfl dX8_runs_9 rfl ?_
    refine i_get (i := 0) (j := 0) (f := 12) (q := 13) C rfl rfl rfl hi_X8_runs_X8 (by decide) lk_X8_runs_168 rfl dX8_runs_10 rfl ?_
    refine i_isub (q := 14) C dX8_runs_13 rfl ?_
    refine i_iret C hR dX8_runs_14 ?_
    have hsp : (sp_runs (absM st bk un ck ty tm tx ln rf)) = (-10 - pl3_1, absM st bk un ck ty tm tx ln rf) := by
      unfold absM
      simp only [sp_runs]
      rw [if_neg (by rw [hpr.2]; omega), hpr.2]
    exact ⟨st, bk, un, ck, pl3_1, iw3_1, wd3_1, wm3_1, od3_1, oc3_1, by rw [hsp], rfl, by rw [hsp], hm.s hN⟩
