theorem lk_X8_adds_53 : Cond.fieldLink RX8 53 (TX8 5).1 (TX8 5).2.1 (TX8 5).2.2.1 ∈ wsX8_adds := List.mem_of_getElem? (i := 1) rfl
theorem hi_X8_adds_X8 : ∀ w ∈ u_ws RX8 TX8 18, w ∈ wsX8_adds := by decide +kernel
theorem lk_X8_adds_17 : Cond.fieldLink RX8 17 (TX8 4).1 (TX8 4).2.1 (TX8 4).2.2.1 ∈ wsX8_adds := List.mem_of_getElem? (i := 2) rfl
theorem hd_X8_foundBy : yX8_foundBy.cls = RX8 ∧ yX8_foundBy.cls ≠ "java/lang/invoke/MethodHandle" ∧ yX8_foundBy.cls ≠ "java/lang/invoke/VarHandle" ∧ (parseMethodDescriptor yX8_foundBy.desc).map (fun d => d.parameters.length) = some 2 := by decide +kernel
theorem hd_X8_mayCome : yX8_mayCome.cls = RX8 ∧ yX8_mayCome.cls ≠ "java/lang/invoke/MethodHandle" ∧ yX8_mayCome.cls ≠ "java/lang/invoke/VarHandle" ∧ (parseMethodDescriptor yX8_mayCome.desc).map (fun d => d.parameters.length) = some 0 := by decide +kernel
theorem hd_X8_notes : yX8_notes.cls = RX8 ∧ yX8_notes.cls ≠ "java/lang/invoke/MethodHandle" ∧ yX8_notes.cls ≠ "java/lang/invoke/VarHandle" ∧ (parseMethodDescriptor yX8_notes.desc).map (fun d => d.parameters.length) = some 0 := by decide +kernel
theorem hd_X8_comes : yX8_comes.cls = RX8 ∧ yX8_comes.cls ≠ "java/lang/invoke/MethodHandle" ∧ yX8_comes.cls ≠ "java/lang/invoke/VarHandle" ∧ (parseMethodDescriptor yX8_comes.desc).map (fun d => d.parameters.length) = some 4 := by decide +kernel
set_option maxHeartbeats 400000 in
set_option maxRecDepth 100000 in
theorem c_X8_adds (K : KT) (l : Launch) (am : Nat → Nat) (st : Int → Int) (bk : Int → Int) (un : Int) (ck : Int) (ty : Int → Int) (tm : Int) (tx : Int → Int) (ln : Int) (rf : Int → Int) (dg : Int) (dn : Int → Int) (rk : Int → Int) (pl : Int) (iw : Int) (wd : Int → Int) (wm : Int) (od : Int → Int) (oc : Int) (N : Int) (x : Int) (y : Int) (hm : okM N st bk un ck ty tm tx ln rf) (hN : N < 512) (hx : rI x) (hy : rI y) : Mt K l yX8_adds wsX8_adds ({ frames := 2, cells := 0, slots := 0, locals := 51 }) [vP (am 0), vI x, vI y] [mdW am (st, bk, un, ck, ty, tm, tx, ln, rf, dg, dn, rk, pl, iw, wd, wm, od, oc)] 0 0 (fun v w => ∃ st3 : Int → Int, ∃ bk3 : Int → Int, ∃ un3 : Int, ∃ tm3 : Int, ∃ rf3 : Int → Int, v = some (vI ((sp_adds x y (absM st bk un ck ty tm tx ln rf)).1)) ∧ w = [mdW am (st3, bk3, un3, ck, ty, tm3, tx, ln, rf3, dg, dn, rk, pl, iw, wd, wm, od, oc)] ∧ (absM st3 bk3 un3 ck ty tm3 tx ln rf3 = (sp_adds x y (absM st bk un ck ty tm tx ln rf)).2) ∧ (okM (N + 1) st3 bk3 un3 ck ty tm3 tx ln rf3)) := by
  refine Mt.of (own := RX8) (cc := cX8_adds) (maxL := 4) (ret := (some .int)) (lv0 := [(0, vP (am 0)), (1, vI x), (2, vI y)]) (by decide) rfl rfl (Nat.le_of_ble_eq_true rfl) rfl (fun X C hR hNm => ?_)
  have hs := hm.hs
  have hgv := hs.gv
  have hN0 := hm.hN
  have hH := hm.hH
  have hck := hm.hck
  have htm := hm.htm
  have hln := hm.hln
  have hun := hH.1
  refine i_iload_n (j := 1) (q := 1) C rfl rfl dX8_adds_0 rfl ?_
  refine i_iconst (q := 2) C dX8_adds_1 rfl ?_
  refine i_sipush (q := 5) C (by decide) dX8_adds_2 rfl ?_
  refine i_callS (wr := [mdW am (st, bk, un, ck, ty, tm, tx, ln, rf, dg, dn, rk, pl, iw, wd, wm, od, oc)]) (As := [vI x, vI 0, vI 1000]) (st := []) (q := 8) C (c_X8_in K l (x) (0) (1000) (by first | assumption | omega) (by first | assumption | omega) (by first | assumption | omega)) gX8_adds_X8_in rfl hd_X8_in ⟨Nat.le_of_ble_eq_true rfl, Nat.le_of_ble_eq_true rfl⟩ ⟨rfl, rfl⟩ ⟨Nat.le_of_ble_eq_true rfl, Nat.le_of_ble_eq_true rfl⟩ (permBy [0] (by decide) rfl rfl) rfl (Nat.le_of_ble_eq_true rfl) dX8_adds_5 rfl (fun v w hq => ?_)
  obtain ⟨rfl, rfl⟩ := hq
  show V X 0 0 8 [(0, vP (am 0)), (1, vI x), (2, vI y)] [vI (if 0 ≤ x ∧ x ≤ 1000 then 1 else 0)] [mdW am (st, bk, un, ck, ty, tm, tx, ln, rf, dg, dn, rk, pl, iw, wd, wm, od, oc)]
  refine i_if_eq (tgt := 21) (q := 11) C (if01) dX8_adds_8 (by decide) rfl (fun c_8 => ?_) (fun c_8 => ?_)
  · skip
    have h_8 := if0 c_8
    refine i_aload_n (j := 0) (q := 22) C rfl rfl dX8_adds_21 rfl ?_
    refine i_callV (wr := []) (As := []) (st := []) (i := 0) (j := 0) (q := 25) C (c_X8_bad K l (am) (st) (bk) (un) (ck) (ty) (tm) (tx) (ln) (rf) (dg) (dn) (rk) (pl) (iw) (wd) (wm) (od) (oc) ) gX8_adds_X8_bad rfl hd_X8_bad ⟨Nat.le_of_ble_eq_true rfl, Nat.le_of_ble_eq_true rfl⟩ ⟨rfl, rfl⟩ ⟨Nat.le_of_ble_eq_true rfl, Nat.le_of_ble_eq_true rfl⟩ (permBy [0] (by decide) rfl rfl) rfl rfl rfl rfl (Nat.le_of_ble_eq_true rfl) dX8_adds_22 rfl (fun v w hq => ?_)
    obtain ⟨rfl, rfl⟩ := hq
    show V X 0 0 25 [(0, vP (am 0)), (1, vI x), (2, vI y)] [vI (-2)] [mdW am (st, bk, un, ck, ty, tm, tx, ln, up rf 0 (rf 0 + 1), dg, dn, rk, pl, iw, wd, wm, od, oc)]
    refine i_iret C hR dX8_adds_25 ?_
    have hsp : (sp_adds x y (absM st bk un ck ty tm tx ln rf)) = (-2, aBad (absM st bk un ck ty tm tx ln rf)) := by
      unfold absM
      simp only [sp_adds]
      rw [if_pos (by omega)]
    exact ⟨st, bk, un, tm, up rf 0 (rf 0 + 1), by rw [hsp], rfl, by rw [hsp] <;> exact absM_bad, okM_bad hm hN⟩
  · skip
    have h_8 := ifn0 c_8
    refine i_iload_n (j := 2) (q := 12) C rfl rfl dX8_adds_11 rfl ?_
    refine i_iconst (q := 13) C dX8_adds_12 rfl ?_
    refine i_bipush (q := 15) C (by decide) dX8_adds_13 rfl ?_
    refine i_callS (wr := [mdW am (st, bk, un, ck, ty, tm, tx, ln, rf, dg, dn, rk, pl, iw, wd, wm, od, oc)]) (As := [vI y, vI 0, vI 9]) (st := []) (q := 18) C (c_X8_in K l (y) (0) (9) (by first | assumption | omega) (by first | assumption | omega) (by first | assumption | omega)) gX8_adds_X8_in rfl hd_X8_in ⟨Nat.le_of_ble_eq_true rfl, Nat.le_of_ble_eq_true rfl⟩ ⟨rfl, rfl⟩ ⟨Nat.le_of_ble_eq_true rfl, Nat.le_of_ble_eq_true rfl⟩ (permBy [0] (by decide) rfl rfl) rfl (Nat.le_of_ble_eq_true rfl) dX8_adds_15 rfl (fun v w hq => ?_)
    obtain ⟨rfl, rfl⟩ := hq
    show V X 0 0 18 [(0, vP (am 0)), (1, vI x), (2, vI y)] [vI (if 0 ≤ y ∧ y ≤ 9 then 1 else 0)] [mdW am (st, bk, un, ck, ty, tm, tx, ln, rf, dg, dn, rk, pl, iw, wd, wm, od, oc)]
    refine i_if_ne (tgt := 26) (q := 21) C (if01) dX8_adds_18 (by decide) rfl (fun c_18 => ?_) (fun c_18 => ?_)
    · skip
      have h_18 := ifn0 c_18
      refine i_aload_n (j := 0) (q := 27) C rfl rfl dX8_adds_26 rfl ?_
      refine i_get (i := 0) (j := 0) (f := 5) (q := 30) C rfl rfl rfl hi_X8_adds_X8 (by decide) lk_X8_adds_53 rfl dX8_adds_27 rfl ?_
      refine i_iconst (q := 31) C dX8_adds_30 rfl ?_
      refine i_bipush (q := 33) C (by decide) dX8_adds_31 rfl ?_
      refine i_callS (wr := [mdW am (st, bk, un, ck, ty, tm, tx, ln, rf, dg, dn, rk, pl, iw, wd, wm, od, oc)]) (As := [vI tm, vI 1, vI 8]) (st := []) (q := 36) C (c_X8_in K l (tm) (1) (8) (by first | assumption | omega) (by first | assumption | omega) (by first | assumption | omega)) gX8_adds_X8_in rfl hd_X8_in ⟨Nat.le_of_ble_eq_true rfl, Nat.le_of_ble_eq_true rfl⟩ ⟨rfl, rfl⟩ ⟨Nat.le_of_ble_eq_true rfl, Nat.le_of_ble_eq_true rfl⟩ (permBy [0] (by decide) rfl rfl) rfl (Nat.le_of_ble_eq_true rfl) dX8_adds_33 rfl (fun v w hq => ?_)
      obtain ⟨rfl, rfl⟩ := hq
      show V X 0 0 36 [(0, vP (am 0)), (1, vI x), (2, vI y)] [vI (if 1 ≤ tm ∧ tm ≤ 8 then 1 else 0)] [mdW am (st, bk, un, ck, ty, tm, tx, ln, rf, dg, dn, rk, pl, iw, wd, wm, od, oc)]
      refine i_if_eq (tgt := 55) (q := 39) C (if01) dX8_adds_36 (by decide) rfl (fun c_36 => ?_) (fun c_36 => ?_)
      · skip
        have h_36 := if0 c_36
        refine i_aload_n (j := 0) (q := 56) C rfl rfl dX8_adds_55 rfl ?_
        refine i_callV (wr := []) (As := []) (st := []) (i := 0) (j := 0) (q := 59) C (c_X8_no K l (am) (st) (bk) (un) (ck) (ty) (tm) (tx) (ln) (rf) (dg) (dn) (rk) (pl) (iw) (wd) (wm) (od) (oc) ) gX8_adds_X8_no rfl hd_X8_no ⟨Nat.le_of_ble_eq_true rfl, Nat.le_of_ble_eq_true rfl⟩ ⟨rfl, rfl⟩ ⟨Nat.le_of_ble_eq_true rfl, Nat.le_of_ble_eq_true rfl⟩ (permBy [0] (by decide) rfl rfl) rfl rfl rfl rfl (Nat.le_of_ble_eq_true rfl) dX8_adds_56 rfl (fun v w hq => ?_)
        obtain ⟨rfl, rfl⟩ := hq
        show V X 0 0 59 [(0, vP (am 0)), (1, vI x), (2, vI y)] [vI (-3)] [mdW am (st, bk, un, ck, ty, tm, tx, ln, up rf 1 (rf 1 + 1), dg, dn, rk, pl, iw, wd, wm, od, oc)]
        refine i_iret C hR dX8_adds_59 ?_
        have hsp : (sp_adds x y (absM st bk un ck ty tm tx ln rf)) = (-3, aNo (absM st bk un ck ty tm tx ln rf)) := by
          unfold absM
          simp only [sp_adds]
          rw [if_neg (by omega), if_pos (Or.inl (by rw [rg_len]; omega))]
        exact ⟨st, bk, un, tm, up rf 1 (rf 1 + 1), by rw [hsp], rfl, by rw [hsp] <;> exact absM_no, okM_no hm hN⟩
      · skip
        have h_36 := ifn0 c_36
        refine i_aload_n (j := 0) (q := 40) C rfl rfl dX8_adds_39 rfl ?_
        refine i_aload_n (j := 0) (q := 41) C rfl rfl dX8_adds_40 rfl ?_
        refine i_get (i := 0) (j := 0) (f := 4) (q := 44) C rfl rfl rfl hi_X8_adds_X8 (by decide) lk_X8_adds_17 rfl dX8_adds_41 rfl ?_
        refine i_aload_n (j := 0) (q := 45) C rfl rfl dX8_adds_44 rfl ?_
        refine i_get (i := 0) (j := 0) (f := 5) (q := 48) C rfl rfl rfl hi_X8_adds_X8 (by decide) lk_X8_adds_53 rfl dX8_adds_45 rfl ?_
        refine i_callV (wr := []) (As := [vP (am 3), vI tm]) (st := []) (i := 0) (j := 0) (q := 51) C (c_X8_foundBy_ty K l (am) (st) (bk) (un) (ck) (ty) (tm) (tx) (ln) (rf) (dg) (dn) (rk) (pl) (iw) (wd) (wm) (od) (oc) (24 * N) (tm) (by first | assumption | omega) (by first | assumption | omega) (fun k g0 g1 => by have := hm.hty k g0 g1; omega)) gX8_adds_X8_foundBy rfl hd_X8_foundBy ⟨Nat.le_of_ble_eq_true rfl, Nat.le_of_ble_eq_true rfl⟩ ⟨rfl, rfl⟩ ⟨Nat.le_of_ble_eq_true rfl, Nat.le_of_ble_eq_true rfl⟩ (permBy [0] (by decide) rfl rfl) rfl rfl rfl rfl (Nat.le_of_ble_eq_true rfl) dX8_adds_48 rfl (fun v w hq => ?_)
        obtain ⟨r_48, rfl, rfl, hr_48⟩ := hq
        show V X 0 0 51 [(0, vP (am 0)), (1, vI x), (2, vI y)] [vI r_48] [mdW am (st, bk, un, ck, ty, tm, tx, ln, rf, dg, dn, rk, pl, iw, wd, wm, od, oc)]
        refine i_iconst (q := 52) C dX8_adds_51 rfl ?_
        refine i_icmp_eq (tgt := 60) (q := 55) C (by rcases hr_48 with h | h <;> omega) (by omega) dX8_adds_52 (by decide) rfl (fun c_52 => ?_) (fun c_52 => ?_)
        · skip
          refine i_aload_n (j := 0) (q := 61) C rfl rfl dX8_adds_60 rfl ?_
          refine i_callV (wr := []) (As := []) (st := []) (i := 0) (j := 0) (q := 64) C (c_X8_mayCome K l (am) (st) (bk) (un) (ck) (ty) (tm) (tx) (ln) (rf) (dg) (dn) (rk) (pl) (iw) (wd) (wm) (od) (oc) (24 * N) (by first | assumption | omega)) gX8_adds_X8_mayCome rfl hd_X8_mayCome ⟨Nat.le_of_ble_eq_true rfl, Nat.le_of_ble_eq_true rfl⟩ ⟨rfl, rfl⟩ ⟨Nat.le_of_ble_eq_true rfl, Nat.le_of_ble_eq_true rfl⟩ (permBy [0] (by decide) rfl rfl) rfl rfl rfl rfl (Nat.le_of_ble_eq_true rfl) dX8_adds_61 rfl (fun v w hq => ?_)
          obtain ⟨rfl, rfl⟩ := hq
          show V X 0 0 64 [(0, vP (am 0)), (1, vI x), (2, vI y)] [vI (if roomB (bo st) = true then 1 else 0)] [mdW am (st, bk, un, ck, ty, tm, tx, ln, rf, dg, dn, rk, pl, iw, wd, wm, od, oc)]
          refine i_if_ne (tgt := 72) (q := 67) C (if01) dX8_adds_64 (by decide) rfl (fun c_64 => ?_) (fun c_64 => ?_)
          · skip
            have h_64 := ifn0 c_64
            have hg2 : st 2800 < 200 := by
              have h9 := h_64
              unfold roomB bo at h9
              simp only [Bool.and_eq_true, decide_eq_true_eq] at h9
              exact h9.2
            refine i_aload_n (j := 0) (q := 73) C rfl rfl dX8_adds_72 rfl ?_
            refine i_callV (wr := []) (As := []) (st := []) (i := 0) (j := 0) (q := 76) C (c_X8_notes K l (am) (st) (bk) (un) (ck) (ty) (tm) (tx) (ln) (rf) (dg) (dn) (rk) (pl) (iw) (wd) (wm) (od) (oc) (24 * N) (by first | assumption | omega) (by first | assumption | omega)) gX8_adds_X8_notes rfl hd_X8_notes ⟨Nat.le_of_ble_eq_true rfl, Nat.le_of_ble_eq_true rfl⟩ ⟨rfl, rfl⟩ ⟨Nat.le_of_ble_eq_true rfl, Nat.le_of_ble_eq_true rfl⟩ (permBy [0] (by decide) rfl rfl) rfl rfl rfl rfl (Nat.le_of_ble_eq_true rfl) dX8_adds_73 rfl (fun v w hq => ?_)
            obtain ⟨bk3_73, un3_73, rfl, rfl, he_73, hk_73⟩ := hq
            show V X 0 0 76 [(0, vP (am 0)), (1, vI x), (2, vI y)] [] [mdW am (st, bk3_73, un3_73, ck, ty, tm, tx, ln, rf, dg, dn, rk, pl, iw, wd, wm, od, oc)]
            refine i_aload_n (j := 0) (q := 77) C rfl rfl dX8_adds_76 rfl ?_
            refine i_aload_n (j := 0) (q := 78) C rfl rfl dX8_adds_77 rfl ?_
            refine i_get (i := 0) (j := 0) (f := 4) (q := 81) C rfl rfl rfl hi_X8_adds_X8 (by decide) lk_X8_adds_17 rfl dX8_adds_78 rfl ?_
            refine i_aload_n (j := 0) (q := 82) C rfl rfl dX8_adds_81 rfl ?_
            refine i_get (i := 0) (j := 0) (f := 5) (q := 85) C rfl rfl rfl hi_X8_adds_X8 (by decide) lk_X8_adds_53 rfl dX8_adds_82 rfl ?_
            refine i_iload_n (j := 1) (q := 86) C rfl rfl dX8_adds_85 rfl ?_
            refine i_iload_n (j := 2) (q := 87) C rfl rfl dX8_adds_86 rfl ?_
            refine i_callV (wr := []) (As := [vP (am 3), vI tm, vI x, vI y]) (st := []) (i := 0) (j := 0) (q := 90) C (c_X8_comes_ty K l (am) (st) (bk3_73) (un3_73) (ck) (ty) (tm) (tx) (ln) (rf) (dg) (dn) (rk) (pl) (iw) (wd) (wm) (od) (oc) (24 * N) (tm) (x) (y) (by first | assumption | omega) (by first | assumption | omega) (by first | assumption | omega)) gX8_adds_X8_comes rfl hd_X8_comes ⟨Nat.le_of_ble_eq_true rfl, Nat.le_of_ble_eq_true rfl⟩ ⟨rfl, rfl⟩ ⟨Nat.le_of_ble_eq_true rfl, Nat.le_of_ble_eq_true rfl⟩ (permBy [0] (by decide) rfl rfl) rfl rfl rfl rfl (Nat.le_of_ble_eq_true rfl) dX8_adds_87 rfl (fun v w hq => ?_)
            obtain ⟨rfl, rfl⟩ := hq
            show V X 0 0 90 [(0, vP (am 0)), (1, vI x), (2, vI y)] [vI (st 2800)] [mdW am (cmS st ty tm x y, bk3_73, un3_73, ck, ty, tm, tx, ln, rf, dg, dn, rk, pl, iw, wd, wm, od, oc)]
            refine i_istore_n (q := 91) (lv' := [(3, vI (st 2800)), (0, vP (am 0)), (1, vI x), (2, vI y)]) C rfl (by decide) rfl dX8_adds_90 rfl ?_
            refine i_aload_n (j := 1) (q := 92) C rfl rfl dX8_adds_91 rfl ?_
            refine i_iconst (q := 93) C dX8_adds_92 rfl ?_
            refine i_putI (i := 0) (j := 0) (f := 5) (q := 96) (cs' := [mdW am (cmS st ty tm x y, bk3_73, un3_73, ck, ty, 0, tx, ln, rf, dg, dn, rk, pl, iw, wd, wm, od, oc)]) C rfl rfl rfl hi_X8_adds_X8 tyX8 tyX8_ok nmX8 (by decide) (Nat.le_of_ble_eq_true rfl) lk_X8_adds_53 rfl rfl dX8_adds_93 rfl rfl ?_
            refine i_iload_n (j := 0) (q := 97) C rfl rfl dX8_adds_96 rfl ?_
            refine i_iret C hR dX8_adds_97 ?_
            have hsp : (sp_adds x y (absM st bk un ck ty tm tx ln rf)) = (st 2800, absM (cmS st ty tm x y) bk3_73 un3_73 ck ty 0 tx ln rf) := by
              unfold absM
              simp only [sp_adds]
              have hh : ¬ hasB (bo st) (rg ty tm) = true := by
                rcases hr_48 with h | h
                · intro z
                  obtain ⟨w, h1, h2⟩ := (has_bo _).mp z
                  exact h.2 w h1 h2
                · omega
              rw [if_neg (by omega), if_neg (by rw [rg_len]; intro z; rcases z with z | z; (omega); (exact hh z)), if_neg (by rw [h_64]; simp), ← he_73, ← (cmS_ok hs hg2 (n := tm) (row := ty) (by omega) (sc := x) (me := y) (by omega) (by omega) (fun k g0 g1 => hm.hty k g0 g1)).1, ← rg_0 ty (n := 0) (by omega)]
              rfl
            exact ⟨cmS st ty tm x y, bk3_73, un3_73, 0, rf, by rw [hsp], rfl, by rw [hsp] <;> exact rfl, ((hm.upd hN ((cmS_ok hs hg2 (n := tm) (row := ty) (by omega) (sc := x) (me := y) (by omega) (by omega) (fun k g0 g1 => hm.hty k g0 g1)).2.up (by omega) (by omega)) (hk_73.up (by omega) (by omega)) hck).typ (by omega) (fun k g0 g1 => by omega))⟩
          · skip
            have h_64 := if0 c_64
            refine i_aload_n (j := 0) (q := 68) C rfl rfl dX8_adds_67 rfl ?_
            refine i_callV (wr := []) (As := []) (st := []) (i := 0) (j := 0) (q := 71) C (c_X8_full K l (am) (st) (bk) (un) (ck) (ty) (tm) (tx) (ln) (rf) (dg) (dn) (rk) (pl) (iw) (wd) (wm) (od) (oc) ) gX8_adds_X8_full rfl hd_X8_full ⟨Nat.le_of_ble_eq_true rfl, Nat.le_of_ble_eq_true rfl⟩ ⟨rfl, rfl⟩ ⟨Nat.le_of_ble_eq_true rfl, Nat.le_of_ble_eq_true rfl⟩ (permBy [0] (by decide) rfl rfl) rfl rfl rfl rfl (Nat.le_of_ble_eq_true rfl) dX8_adds_68 rfl (fun v w hq => ?_)
            obtain ⟨rfl, rfl⟩ := hq
            show V X 0 0 71 [(0, vP (am 0)), (1, vI x), (2, vI y)] [vI (-4)] [mdW am (st, bk, un, ck, ty, tm, tx, ln, up rf 2 (rf 2 + 1), dg, dn, rk, pl, iw, wd, wm, od, oc)]
            refine i_iret C hR dX8_adds_71 ?_
            have hsp : (sp_adds x y (absM st bk un ck ty tm tx ln rf)) = (-4, aFull (absM st bk un ck ty tm tx ln rf)) := by
              unfold absM
              simp only [sp_adds]
              have hh : ¬ hasB (bo st) (rg ty tm) = true := by
                rcases hr_48 with h | h
                · intro z
                  obtain ⟨w, h1, h2⟩ := (has_bo _).mp z
                  exact h.2 w h1 h2
                · omega
              rw [if_neg (by omega), if_neg (by rw [rg_len]; intro z; rcases z with z | z; (omega); (exact hh z)), if_pos (by simpa using h_64)]
            exact ⟨st, bk, un, tm, up rf 2 (rf 2 + 1), by rw [hsp], rfl, by rw [hsp] <;> exact absM_full, okM_full hm hN⟩
        · skip
          refine i_aload_n (j := 0) (q := 56) C rfl rfl dX8_adds_55 rfl ?_
          refine i_callV (wr := []) (As := []) (st := []) (i := 0) (j := 0) (q := 59) C (c_X8_no K l (am) (st) (bk) (un) (ck) (ty) (tm) (tx) (ln) (rf) (dg) (dn) (rk) (pl) (iw) (wd) (wm) (od) (oc) ) gX8_adds_X8_no rfl hd_X8_no ⟨Nat.le_of_ble_eq_true rfl, Nat.le_of_ble_eq_true rfl⟩ ⟨rfl, rfl⟩ ⟨Nat.le_of_ble_eq_true rfl, Nat.le_of_ble_eq_true rfl⟩ (permBy [0] (by decide) rfl rfl) rfl rfl rfl rfl (Nat.le_of_ble_eq_true rfl) dX8_adds_56 rfl (fun v w hq => ?_)
          obtain ⟨rfl, rfl⟩ := hq
          show V X 0 0 59 [(0, vP (am 0)), (1, vI x), (2, vI y)] [vI (-3)] [mdW am (st, bk, un, ck, ty, tm, tx, ln, up rf 1 (rf 1 + 1), dg, dn, rk, pl, iw, wd, wm, od, oc)]
          refine i_iret C hR dX8_adds_59 ?_
          have hsp : (sp_adds x y (absM st bk un ck ty tm tx ln rf)) = (-3, aNo (absM st bk un ck ty tm tx ln rf)) := by
            unfold absM
            simp only [sp_adds]
            have hh : hasB (bo st) (rg ty tm) = true := by
              rcases hr_48 with h | h
              · exact absurd h.1 c_52
              · exact (has_bo _).mpr ⟨mp st r_48, mem_ml h.1 (by omega) h.2.2.1, h.2.2.2⟩
            rw [if_neg (by omega), if_pos (Or.inr hh)]
          exact ⟨st, bk, un, tm, up rf 1 (rf 1 + 1), by rw [hsp], rfl, by rw [hsp] <;> exact absM_no, okM_no hm hN⟩
    · skip
      have h_18 := if0 c_18
      refine i_aload_n (j := 0) (q := 22) C rfl rfl dX8_adds_21 rfl ?_
      refine i_callV (wr := []) (As := []) (st := []) (i := 0) (j := 0) (q := 25) C (c_X8_bad K l (am) (st) (bk) (un) (ck) (ty) (tm) (tx) (ln) (rf) (dg) (dn) (rk) (pl) (iw) (wd) (wm) (od) (oc) ) gX8_adds_X8_bad rfl hd_X8_bad ⟨Nat.le_of_ble_eq_true rfl, Nat.le_of_ble_eq_true rfl⟩ ⟨rfl, rfl⟩ ⟨Nat.le_of_ble_eq_true rfl, Nat.le_of_ble_eq_true rfl⟩ (permBy [0] (by decide) rfl rfl) rfl rfl rfl rfl (Nat.le_of_ble_eq_true rfl) dX8_adds_22 rfl (fun v w hq => ?_)
      obtain ⟨rfl, rfl⟩ := hq
      show V X 0 0 25 [(0, vP (am 0)), (1, vI x), (2, vI y)] [vI (-2)] [mdW am (st, bk, un, ck, ty, tm, tx, ln, up rf 0 (rf 0 + 1), dg, dn, rk, pl, iw, wd, wm, od, oc)]
      refine i_iret C hR dX8_adds_25 ?_
      have hsp : (sp_adds x y (absM st bk un ck ty tm tx ln rf)) = (-2, aBad (absM st bk un ck ty tm tx ln rf)) := by
        unfold absM
        simp only [sp_adds]
        rw [if_pos (by omega)]
      exact ⟨st, bk, un, tm, up rf 0 (rf 0 + 1), by rw [hsp], rfl, by rw [hsp] <;> exact absM_bad, okM_bad hm hN⟩

theorem lk_X8_of_7 : Cond.fieldLink RX8 7 (TX8 0).1 (TX8 0).2.1 (TX8 0).2.2.1 ∈ wsX8_of := List.mem_of_getElem? (i := 1) rfl
theorem hi_X8_of_X8 : ∀ w ∈ u_ws RX8 TX8 18, w ∈ wsX8_of := by decide +kernel
set_option maxHeartbeats 400000 in
set_option maxRecDepth 100000 in
theorem c_X8_of (K : KT) (l : Launch) (am : Nat → Nat) (st : Int → Int) (bk : Int → Int) (un : Int) (ck : Int) (ty : Int → Int) (tm : Int) (tx : Int → Int) (ln : Int) (rf : Int → Int) (dg : Int) (dn : Int → Int) (rk : Int → Int) (pl : Int) (iw : Int) (wd : Int → Int) (wm : Int) (od : Int → Int) (oc : Int) (N : Int) (x : Int) (y : Int) (hm : okM N st bk un ck ty tm tx ln rf) (hN : N < 512) (hx : rI x) (hy : rI y) : Mt K l yX8_of wsX8_of ({ frames := 2, cells := 0, slots := 0, locals := 43 }) [vP (am 0), vI x, vI y] [mdW am (st, bk, un, ck, ty, tm, tx, ln, rf, dg, dn, rk, pl, iw, wd, wm, od, oc)] 0 0 (fun v w => ∃ rf3 : Int → Int, v = some (vI ((sp_of x y (absM st bk un ck ty tm tx ln rf)).1)) ∧ w = [mdW am (st, bk, un, ck, ty, tm, tx, ln, rf3, dg, dn, rk, pl, iw, wd, wm, od, oc)] ∧ (absM st bk un ck ty tm tx ln rf3 = (sp_of x y (absM st bk un ck ty tm tx ln rf)).2) ∧ (okM (N + 1) st bk un ck ty tm tx ln rf3)) := by
  refine Mt.of (own := RX8) (cc := cX8_of) (maxL := 3) (ret := (some .int)) (lv0 := [(0, vP (am 0)), (1, vI x), (2, vI y)]) (by decide) rfl rfl (Nat.le_of_ble_eq_true rfl) rfl (fun X C hR hNm => ?_)
  have hs := hm.hs
  have hgv := hs.gv
  have hN0 := hm.hN
  have hH := hm.hH
  have hck := hm.hck
  have htm := hm.htm
  have hln := hm.hln
  have hun := hH.1
  refine i_aload_n (j := 0) (q := 1) C rfl rfl dX8_of_0 rfl ?_
  refine i_iload_n (j := 1) (q := 2) C rfl rfl dX8_of_1 rfl ?_
  refine i_callV (wr := []) (As := [vI x]) (st := []) (i := 0) (j := 0) (q := 5) C (c_X8_isThere K l (am) (st) (bk) (un) (ck) (ty) (tm) (tx) (ln) (rf) (dg) (dn) (rk) (pl) (iw) (wd) (wm) (od) (oc) (24 * N) (x) (by first | assumption | omega) (by first | assumption | omega)) gX8_of_X8_isThere rfl hd_X8_isThere ⟨Nat.le_of_ble_eq_true rfl, Nat.le_of_ble_eq_true rfl⟩ ⟨rfl, rfl⟩ ⟨Nat.le_of_ble_eq_true rfl, Nat.le_of_ble_eq_true rfl⟩ (permBy [0] (by decide) rfl rfl) rfl rfl rfl rfl (Nat.le_of_ble_eq_true rfl) dX8_of_2 rfl (fun v w hq => ?_)
  obtain ⟨rfl, rfl⟩ := hq
  show V X 0 0 5 [(0, vP (am 0)), (1, vI x), (2, vI y)] [vI (if 0 ≤ x ∧ x < st 2800 ∧ st (14 * x) = 1 then 1 else 0)] [mdW am (st, bk, un, ck, ty, tm, tx, ln, rf, dg, dn, rk, pl, iw, wd, wm, od, oc)]
  refine i_if_eq (tgt := 33) (q := 8) C (if01) dX8_of_5 (by decide) rfl (fun c_5 => ?_) (fun c_5 => ?_)
  · skip
    have h_5 := if0 c_5
    refine i_aload_n (j := 0) (q := 34) C rfl rfl dX8_of_33 rfl ?_
    refine i_callV (wr := []) (As := []) (st := []) (i := 0) (j := 0) (q := 37) C (c_X8_bad K l (am) (st) (bk) (un) (ck) (ty) (tm) (tx) (ln) (rf) (dg) (dn) (rk) (pl) (iw) (wd) (wm) (od) (oc) ) gX8_of_X8_bad rfl hd_X8_bad ⟨Nat.le_of_ble_eq_true rfl, Nat.le_of_ble_eq_true rfl⟩ ⟨rfl, rfl⟩ ⟨Nat.le_of_ble_eq_true rfl, Nat.le_of_ble_eq_true rfl⟩ (permBy [0] (by decide) rfl rfl) rfl rfl rfl rfl (Nat.le_of_ble_eq_true rfl) dX8_of_34 rfl (fun v w hq => ?_)
    obtain ⟨rfl, rfl⟩ := hq
    show V X 0 0 37 [(0, vP (am 0)), (1, vI x), (2, vI y)] [vI (-2)] [mdW am (st, bk, un, ck, ty, tm, tx, ln, up rf 0 (rf 0 + 1), dg, dn, rk, pl, iw, wd, wm, od, oc)]
    refine i_iret C hR dX8_of_37 ?_
    have hsp : (sp_of x y (absM st bk un ck ty tm tx ln rf)) = (-2, aBad (absM st bk un ck ty tm tx ln rf)) := by
      unfold absM
      simp only [sp_of]
      rw [fnd_bo hs, if_neg h_5]
    exact ⟨up rf 0 (rf 0 + 1), by rw [hsp], rfl, by rw [hsp] <;> exact absM_bad, okM_bad hm hN⟩
  · skip
    have h_5 := ifn0 c_5
    refine i_iload_n (j := 2) (q := 9) C rfl rfl dX8_of_8 rfl ?_
    refine i_iconst (q := 10) C dX8_of_9 rfl ?_
    refine i_iconst (q := 11) C dX8_of_10 rfl ?_
    refine i_callS (wr := [mdW am (st, bk, un, ck, ty, tm, tx, ln, rf, dg, dn, rk, pl, iw, wd, wm, od, oc)]) (As := [vI y, vI 0, vI 4]) (st := []) (q := 14) C (c_X8_in K l (y) (0) (4) (by first | assumption | omega) (by first | assumption | omega) (by first | assumption | omega)) gX8_of_X8_in rfl hd_X8_in ⟨Nat.le_of_ble_eq_true rfl, Nat.le_of_ble_eq_true rfl⟩ ⟨rfl, rfl⟩ ⟨Nat.le_of_ble_eq_true rfl, Nat.le_of_ble_eq_true rfl⟩ (permBy [0] (by decide) rfl rfl) rfl (Nat.le_of_ble_eq_true rfl) dX8_of_11 rfl (fun v w hq => ?_)
    obtain ⟨rfl, rfl⟩ := hq
    show V X 0 0 14 [(0, vP (am 0)), (1, vI x), (2, vI y)] [vI (if 0 ≤ y ∧ y ≤ 4 then 1 else 0)] [mdW am (st, bk, un, ck, ty, tm, tx, ln, rf, dg, dn, rk, pl, iw, wd, wm, od, oc)]
    refine i_if_eq (tgt := 33) (q := 17) C (if01) dX8_of_14 (by decide) rfl (fun c_14 => ?_) (fun c_14 => ?_)
    · skip
      have h_14 := if0 c_14
      refine i_aload_n (j := 0) (q := 34) C rfl rfl dX8_of_33 rfl ?_
      refine i_callV (wr := []) (As := []) (st := []) (i := 0) (j := 0) (q := 37) C (c_X8_bad K l (am) (st) (bk) (un) (ck) (ty) (tm) (tx) (ln) (rf) (dg) (dn) (rk) (pl) (iw) (wd) (wm) (od) (oc) ) gX8_of_X8_bad rfl hd_X8_bad ⟨Nat.le_of_ble_eq_true rfl, Nat.le_of_ble_eq_true rfl⟩ ⟨rfl, rfl⟩ ⟨Nat.le_of_ble_eq_true rfl, Nat.le_of_ble_eq_true rfl⟩ (permBy [0] (by decide) rfl rfl) rfl rfl rfl rfl (Nat.le_of_ble_eq_true rfl) dX8_of_34 rfl (fun v w hq => ?_)
      obtain ⟨rfl, rfl⟩ := hq
      show V X 0 0 37 [(0, vP (am 0)), (1, vI x), (2, vI y)] [vI (-2)] [mdW am (st, bk, un, ck, ty, tm, tx, ln, up rf 0 (rf 0 + 1), dg, dn, rk, pl, iw, wd, wm, od, oc)]
      refine i_iret C hR dX8_of_37 ?_
      have hsp : (sp_of x y (absM st bk un ck ty tm tx ln rf)) = (-2, aBad (absM st bk un ck ty tm tx ln rf)) := by
        unfold absM
        simp only [sp_of]
        rw [fnd_bo hs, if_pos h_5]
        simp only
        rw [if_neg h_14]
      exact ⟨up rf 0 (rf 0 + 1), by rw [hsp], rfl, by rw [hsp] <;> exact absM_bad, okM_bad hm hN⟩
    · skip
      have h_14 := ifn0 c_14
      refine i_aload_n (j := 0) (q := 18) C rfl rfl dX8_of_17 rfl ?_
      refine i_get (i := 0) (j := 0) (f := 0) (q := 21) C rfl rfl rfl hi_X8_of_X8 (by decide) lk_X8_of_7 rfl dX8_of_18 rfl ?_
      refine i_bipush (q := 23) C (by decide) dX8_of_21 rfl ?_
      refine i_iload_n (j := 1) (q := 24) C rfl rfl dX8_of_23 rfl ?_
      refine i_imul (q := 25) C dX8_of_24 rfl ?_
      refine i_iconst (q := 26) C dX8_of_25 rfl ?_
      refine i_iadd (q := 27) C dX8_of_26 rfl ?_
      refine i_iload_n (j := 2) (q := 28) C rfl rfl dX8_of_27 rfl ?_
      refine i_iadd (q := 29) C dX8_of_28 rfl ?_
      refine i_iald (i := 0) (j := 1) (q := 30) C rfl rfl (by omega) dX8_of_29 rfl ?_
      skip
      refine i_goto (q := 37) C dX8_of_30 (by decide) ?_
      refine i_iret C hR dX8_of_37 ?_
      have hsp : (sp_of x y (absM st bk un ck ty tm tx ln rf)) = (st (14 * x + 1 + y), absM st bk un ck ty tm tx ln rf) := by
        unfold absM
        simp only [sp_of]
        rw [fnd_bo hs, if_pos h_5]
        simp only
        rw [if_pos h_14]
        have e1 : ofP (mp st x) y = st (14 * x + 1 + y) := by
          have k3 := hs.k3 x (by omega) (by omega)
          unfold ofP mp lt
          simp only [rg_len]
          rcases (show y = 0 ∨ y = 1 ∨ y = 2 ∨ y = 3 ∨ y = 4 by omega) with e | e | e | e | e <;> subst e <;> simp
          · rw [show 14 * x + 1 + 1 = 14 * x + 2 by omega]
          · rw [show 14 * x + 1 + 2 = 14 * x + 3 by omega]; omega
          · rw [show 14 * x + 1 + 3 = 14 * x + 4 by omega]
          · rw [show 14 * x + 1 + 4 = 14 * x + 5 by omega]
        rw [e1]
      exact ⟨rf, by rw [hsp], rfl, by rw [hsp] <;> exact rfl, hm.s hN⟩

theorem lk_X8_letter_7 : Cond.fieldLink RX8 7 (TX8 0).1 (TX8 0).2.1 (TX8 0).2.2.1 ∈ wsX8_letter := List.mem_of_getElem? (i := 1) rfl
theorem hi_X8_letter_X8 : ∀ w ∈ u_ws RX8 TX8 18, w ∈ wsX8_letter := by decide +kernel
set_option maxHeartbeats 400000 in
set_option maxRecDepth 100000 in
theorem c_X8_letter (K : KT) (l : Launch) (am : Nat → Nat) (st : Int → Int) (bk : Int → Int) (un : Int) (ck : Int) (ty : Int → Int) (tm : Int) (tx : Int → Int) (ln : Int) (rf : Int → Int) (dg : Int) (dn : Int → Int) (rk : Int → Int) (pl : Int) (iw : Int) (wd : Int → Int) (wm : Int) (od : Int → Int) (oc : Int) (N : Int) (x : Int) (y : Int) (hm : okM N st bk un ck ty tm tx ln rf) (hN : N < 512) (hx : rI x) (hy : rI y) : Mt K l yX8_letter wsX8_letter ({ frames := 2, cells := 0, slots := 0, locals := 43 }) [vP (am 0), vI x, vI y] [mdW am (st, bk, un, ck, ty, tm, tx, ln, rf, dg, dn, rk, pl, iw, wd, wm, od, oc)] 0 0 (fun v w => ∃ rf3 : Int → Int, v = some (vI ((sp_letter x y (absM st bk un ck ty tm tx ln rf)).1)) ∧ w = [mdW am (st, bk, un, ck, ty, tm, tx, ln, rf3, dg, dn, rk, pl, iw, wd, wm, od, oc)] ∧ (absM st bk un ck ty tm tx ln rf3 = (sp_letter x y (absM st bk un ck ty tm tx ln rf)).2) ∧ (okM (N + 1) st bk un ck ty tm tx ln rf3)) := by
  refine Mt.of (own := RX8) (cc := cX8_letter) (maxL := 3) (ret := (some .int)) (lv0 := [(0, vP (am 0)), (1, vI x), (2, vI y)]) (by decide) rfl rfl (Nat.le_of_ble_eq_true rfl) rfl (fun X C hR hNm => ?_)
  have hs := hm.hs
  have hgv := hs.gv
  have hN0 := hm.hN
  have hH := hm.hH
  have hck := hm.hck
  have htm := hm.htm
  have hln := hm.hln
  have hun := hH.1
  refine i_aload_n (j := 0) (q := 1) C rfl rfl dX8_letter_0 rfl ?_
  refine i_iload_n (j := 1) (q := 2) C rfl rfl dX8_letter_1 rfl ?_
  refine i_callV (wr := []) (As := [vI x]) (st := []) (i := 0) (j := 0) (q := 5) C (c_X8_isThere K l (am) (st) (bk) (un) (ck) (ty) (tm) (tx) (ln) (rf) (dg) (dn) (rk) (pl) (iw) (wd) (wm) (od) (oc) (24 * N) (x) (by first | assumption | omega) (by first | assumption | omega)) gX8_letter_X8_isThere rfl hd_X8_isThere ⟨Nat.le_of_ble_eq_true rfl, Nat.le_of_ble_eq_true rfl⟩ ⟨rfl, rfl⟩ ⟨Nat.le_of_ble_eq_true rfl, Nat.le_of_ble_eq_true rfl⟩ (permBy [0] (by decide) rfl rfl) rfl rfl rfl rfl (Nat.le_of_ble_eq_true rfl) dX8_letter_2 rfl (fun v w hq => ?_)
  obtain ⟨rfl, rfl⟩ := hq
  show V X 0 0 5 [(0, vP (am 0)), (1, vI x), (2, vI y)] [vI (if 0 ≤ x ∧ x < st 2800 ∧ st (14 * x) = 1 then 1 else 0)] [mdW am (st, bk, un, ck, ty, tm, tx, ln, rf, dg, dn, rk, pl, iw, wd, wm, od, oc)]
  refine i_if_eq (tgt := 12) (q := 8) C (if01) dX8_letter_5 (by decide) rfl (fun c_5 => ?_) (fun c_5 => ?_)
  · skip
    have h_5 := if0 c_5
    refine i_aload_n (j := 0) (q := 13) C rfl rfl dX8_letter_12 rfl ?_
    refine i_callV (wr := []) (As := []) (st := []) (i := 0) (j := 0) (q := 16) C (c_X8_bad K l (am) (st) (bk) (un) (ck) (ty) (tm) (tx) (ln) (rf) (dg) (dn) (rk) (pl) (iw) (wd) (wm) (od) (oc) ) gX8_letter_X8_bad rfl hd_X8_bad ⟨Nat.le_of_ble_eq_true rfl, Nat.le_of_ble_eq_true rfl⟩ ⟨rfl, rfl⟩ ⟨Nat.le_of_ble_eq_true rfl, Nat.le_of_ble_eq_true rfl⟩ (permBy [0] (by decide) rfl rfl) rfl rfl rfl rfl (Nat.le_of_ble_eq_true rfl) dX8_letter_13 rfl (fun v w hq => ?_)
    obtain ⟨rfl, rfl⟩ := hq
    show V X 0 0 16 [(0, vP (am 0)), (1, vI x), (2, vI y)] [vI (-2)] [mdW am (st, bk, un, ck, ty, tm, tx, ln, up rf 0 (rf 0 + 1), dg, dn, rk, pl, iw, wd, wm, od, oc)]
    refine i_iret C hR dX8_letter_16 ?_
    have hsp : (sp_letter x y (absM st bk un ck ty tm tx ln rf)) = (-2, aBad (absM st bk un ck ty tm tx ln rf)) := by
      unfold absM
      simp only [sp_letter]
      rw [fnd_bo hs, if_neg h_5]
    exact ⟨up rf 0 (rf 0 + 1), by rw [hsp], rfl, by rw [hsp] <;> exact absM_bad, okM_bad hm hN⟩
  · skip
    have h_5 := ifn0 c_5
    refine i_iload_n (j := 2) (q := 9) C rfl rfl dX8_letter_8 rfl ?_
    refine i_if_ge (tgt := 17) (q := 12) C (by omega) dX8_letter_9 (by decide) rfl (fun c_9 => ?_) (fun c_9 => ?_)
    · skip
      refine i_iload_n (j := 2) (q := 18) C rfl rfl dX8_letter_17 rfl ?_
      refine i_aload_n (j := 0) (q := 19) C rfl rfl dX8_letter_18 rfl ?_
      refine i_get (i := 0) (j := 0) (f := 0) (q := 22) C rfl rfl rfl hi_X8_letter_X8 (by decide) lk_X8_letter_7 rfl dX8_letter_19 rfl ?_
      refine i_bipush (q := 24) C (by decide) dX8_letter_22 rfl ?_
      refine i_iload_n (j := 1) (q := 25) C rfl rfl dX8_letter_24 rfl ?_
      refine i_imul (q := 26) C dX8_letter_25 rfl ?_
      refine i_iconst (q := 27) C dX8_letter_26 rfl ?_
      refine i_iadd (q := 28) C dX8_letter_27 rfl ?_
      refine i_iald (i := 0) (j := 1) (q := 29) C rfl rfl (by omega) dX8_letter_28 rfl ?_
      have ld_28 := hs.k3 x (by omega) (by omega)
      refine i_icmp_ge (tgt := 49) (q := 32) C (by omega) (by omega) dX8_letter_29 (by decide) rfl (fun c_29 => ?_) (fun c_29 => ?_)
      · skip
        refine i_iconst (q := 50) C dX8_letter_49 rfl ?_
        refine i_iret C hR dX8_letter_50 ?_
        have hsp : (sp_letter x y (absM st bk un ck ty tm tx ln rf)) = (-1, absM st bk un ck ty tm tx ln rf) := by
          unfold absM
          simp only [sp_letter]
          rw [fnd_bo hs, if_pos h_5]
          simp only
          rw [if_neg (by omega)]
          have e1 : (mp st x).2.1.getD y.toNat (-1) = if y < st (14 * x + 3) then st (14 * x + 6 + y) else -1 := rg_getD (fun k => st (14 * x + 6 + k)) (n := st (14 * x + 3)) (k := y) (-1) (by omega)
          rw [e1]
          rw [if_neg (by omega)]
        exact ⟨rf, by rw [hsp], rfl, by rw [hsp] <;> exact rfl, hm.s hN⟩
      · skip
        refine i_aload_n (j := 0) (q := 33) C rfl rfl dX8_letter_32 rfl ?_
        refine i_get (i := 0) (j := 0) (f := 0) (q := 36) C rfl rfl rfl hi_X8_letter_X8 (by decide) lk_X8_letter_7 rfl dX8_letter_33 rfl ?_
        refine i_bipush (q := 38) C (by decide) dX8_letter_36 rfl ?_
        refine i_iload_n (j := 1) (q := 39) C rfl rfl dX8_letter_38 rfl ?_
        refine i_imul (q := 40) C dX8_letter_39 rfl ?_
        refine i_bipush (q := 42) C (by decide) dX8_letter_40 rfl ?_
        refine i_iadd (q := 43) C dX8_letter_42 rfl ?_
        refine i_iload_n (j := 2) (q := 44) C rfl rfl dX8_letter_43 rfl ?_
        refine i_iadd (q := 45) C dX8_letter_44 rfl ?_
        refine i_iald (i := 0) (j := 1) (q := 46) C rfl rfl (by omega) dX8_letter_45 rfl ?_
        have ld_45 := hs.k6 x (by omega) (by omega) y (by omega) (by omega)
        refine i_goto (q := 50) C dX8_letter_46 (by decide) ?_
        refine i_iret C hR dX8_letter_50 ?_
        have hsp : (sp_letter x y (absM st bk un ck ty tm tx ln rf)) = (st (14 * x + 6 + y), absM st bk un ck ty tm tx ln rf) := by
          unfold absM
          simp only [sp_letter]
          rw [fnd_bo hs, if_pos h_5]
          simp only
          rw [if_neg (by omega)]
          have e1 : (mp st x).2.1.getD y.toNat (-1) = if y < st (14 * x + 3) then st (14 * x + 6 + y) else -1 := rg_getD (fun k => st (14 * x + 6 + k)) (n := st (14 * x + 3)) (k := y) (-1) (by omega)
          rw [e1]
          rw [if_pos (by omega)]
        exact ⟨rf, by rw [hsp], rfl, by rw [hsp] <;> exact rfl, hm.s hN⟩
    · skip
      refine i_aload_n (j := 0) (q := 13) C rfl rfl dX8_letter_12 rfl ?_
      refine i_callV (wr := []) (As := []) (st := []) (i := 0) (j := 0) (q := 16) C (c_X8_bad K l (am) (st) (bk) (un) (ck) (ty) (tm) (tx) (ln) (rf) (dg) (dn) (rk) (pl) (iw) (wd) (wm) (od) (oc) ) gX8_letter_X8_bad rfl hd_X8_bad ⟨Nat.le_of_ble_eq_true rfl, Nat.le_of_ble_eq_true rfl⟩ ⟨rfl, rfl⟩ ⟨Nat.le_of_ble_eq_true rfl, Nat.le_of_ble_eq_true rfl⟩ (permBy [0] (by decide) rfl rfl) rfl rfl rfl rfl (Nat.le_of_ble_eq_true rfl) dX8_letter_13 rfl (fun v w hq => ?_)
      obtain ⟨rfl, rfl⟩ := hq
      show V X 0 0 16 [(0, vP (am 0)), (1, vI x), (2, vI y)] [vI (-2)] [mdW am (st, bk, un, ck, ty, tm, tx, ln, up rf 0 (rf 0 + 1), dg, dn, rk, pl, iw, wd, wm, od, oc)]
      refine i_iret C hR dX8_letter_16 ?_
      have hsp : (sp_letter x y (absM st bk un ck ty tm tx ln rf)) = (-2, aBad (absM st bk un ck ty tm tx ln rf)) := by
        unfold absM
        simp only [sp_letter]
        rw [fnd_bo hs, if_pos h_5]
        simp only
        rw [if_pos (by omega)]
      exact ⟨up rf 0 (rf 0 + 1), by rw [hsp], rfl, by rw [hsp] <;> exact absM_bad, okM_bad hm hN⟩

theorem hd_X8_chosen : yX8_chosen.cls = RX8 ∧ yX8_chosen.cls ≠ "java/lang/invoke/MethodHandle" ∧ yX8_chosen.cls ≠ "java/lang/invoke/VarHandle" ∧ (parseMethodDescriptor yX8_chosen.desc).map (fun d => d.parameters.length) = some 1 := by decide +kernel
set_option maxHeartbeats 400000 in
set_option maxRecDepth 100000 in
theorem c_X8_use (K : KT) (l : Launch) (am : Nat → Nat) (st : Int → Int) (bk : Int → Int) (un : Int) (ck : Int) (ty : Int → Int) (tm : Int) (tx : Int → Int) (ln : Int) (rf : Int → Int) (dg : Int) (dn : Int → Int) (rk : Int → Int) (pl : Int) (iw : Int) (wd : Int → Int) (wm : Int) (od : Int → Int) (oc : Int) (N : Int) (x : Int) (hm : okM N st bk un ck ty tm tx ln rf) (hN : N < 512) (hx : rI x) : Mt K l yX8_use wsX8_use ({ frames := 3, cells := 0, slots := 0, locals := 69 }) [vP (am 0), vI x] [mdW am (st, bk, un, ck, ty, tm, tx, ln, rf, dg, dn, rk, pl, iw, wd, wm, od, oc)] 0 0 (fun v w => ∃ st3 : Int → Int, ∃ bk3 : Int → Int, ∃ un3 : Int, ∃ ck3 : Int, ∃ rf3 : Int → Int, v = some (vI ((sp_use x (absM st bk un ck ty tm tx ln rf)).1)) ∧ w = [mdW am (st3, bk3, un3, ck3, ty, tm, tx, ln, rf3, dg, dn, rk, pl, iw, wd, wm, od, oc)] ∧ (absM st3 bk3 un3 ck3 ty tm tx ln rf3 = (sp_use x (absM st bk un ck ty tm tx ln rf)).2) ∧ (okM (N + 1) st3 bk3 un3 ck3 ty tm tx ln rf3)) := by
  refine Mt.of (own := RX8) (cc := cX8_use) (maxL := 2) (ret := (some .int)) (lv0 := [(0, vP (am 0)), (1, vI x)]) (by decide) rfl rfl (Nat.le_of_ble_eq_true rfl) rfl (fun X C hR hNm => ?_)
  have hs := hm.hs
  have hgv := hs.gv
  have hN0 := hm.hN
  have hH := hm.hH
  have hck := hm.hck
  have htm := hm.htm
  have hln := hm.hln
  have hun := hH.1
  refine i_aload_n (j := 0) (q := 1) C rfl rfl dX8_use_0 rfl ?_
  refine i_iload_n (j := 1) (q := 2) C rfl rfl dX8_use_1 rfl ?_
  refine i_callV (wr := []) (As := [vI x]) (st := []) (i := 0) (j := 0) (q := 5) C (c_X8_isThere K l (am) (st) (bk) (un) (ck) (ty) (tm) (tx) (ln) (rf) (dg) (dn) (rk) (pl) (iw) (wd) (wm) (od) (oc) (24 * N) (x) (by first | assumption | omega) (by first | assumption | omega)) gX8_use_X8_isThere rfl hd_X8_isThere ⟨Nat.le_of_ble_eq_true rfl, Nat.le_of_ble_eq_true rfl⟩ ⟨rfl, rfl⟩ ⟨Nat.le_of_ble_eq_true rfl, Nat.le_of_ble_eq_true rfl⟩ (permBy [0] (by decide) rfl rfl) rfl rfl rfl rfl (Nat.le_of_ble_eq_true rfl) dX8_use_2 rfl (fun v w hq => ?_)
  obtain ⟨rfl, rfl⟩ := hq
  show V X 0 0 5 [(0, vP (am 0)), (1, vI x)] [vI (if 0 ≤ x ∧ x < st 2800 ∧ st (14 * x) = 1 then 1 else 0)] [mdW am (st, bk, un, ck, ty, tm, tx, ln, rf, dg, dn, rk, pl, iw, wd, wm, od, oc)]
  refine i_if_ne (tgt := 13) (q := 8) C (if01) dX8_use_5 (by decide) rfl (fun c_5 => ?_) (fun c_5 => ?_)
  · skip
    have h_5 := ifn0 c_5
    refine i_aload_n (j := 0) (q := 14) C rfl rfl dX8_use_13 rfl ?_
    refine i_callV (wr := []) (As := []) (st := []) (i := 0) (j := 0) (q := 17) C (c_X8_notes K l (am) (st) (bk) (un) (ck) (ty) (tm) (tx) (ln) (rf) (dg) (dn) (rk) (pl) (iw) (wd) (wm) (od) (oc) (24 * N) (by first | assumption | omega) (by first | assumption | omega)) gX8_use_X8_notes rfl hd_X8_notes ⟨Nat.le_of_ble_eq_true rfl, Nat.le_of_ble_eq_true rfl⟩ ⟨rfl, rfl⟩ ⟨Nat.le_of_ble_eq_true rfl, Nat.le_of_ble_eq_true rfl⟩ (permBy [0] (by decide) rfl rfl) rfl rfl rfl rfl (Nat.le_of_ble_eq_true rfl) dX8_use_14 rfl (fun v w hq => ?_)
    obtain ⟨bk3_14, un3_14, rfl, rfl, he_14, hk_14⟩ := hq
    show V X 0 0 17 [(0, vP (am 0)), (1, vI x)] [] [mdW am (st, bk3_14, un3_14, ck, ty, tm, tx, ln, rf, dg, dn, rk, pl, iw, wd, wm, od, oc)]
    refine i_aload_n (j := 0) (q := 18) C rfl rfl dX8_use_17 rfl ?_
    refine i_iload_n (j := 1) (q := 19) C rfl rfl dX8_use_18 rfl ?_
    refine i_callV (wr := []) (As := [vI x]) (st := []) (i := 0) (j := 0) (q := 22) C (c_X8_chosen K l (am) (st) (bk3_14) (un3_14) (ck) (ty) (tm) (tx) (ln) (rf) (dg) (dn) (rk) (pl) (iw) (wd) (wm) (od) (oc) (24 * N) (x) (by first | assumption | omega) (by first | assumption | omega) (by first | assumption | omega) (by first | assumption | omega) (by omega)) gX8_use_X8_chosen rfl hd_X8_chosen ⟨Nat.le_of_ble_eq_true rfl, Nat.le_of_ble_eq_true rfl⟩ ⟨rfl, rfl⟩ ⟨Nat.le_of_ble_eq_true rfl, Nat.le_of_ble_eq_true rfl⟩ (permBy [0] (by decide) rfl rfl) rfl rfl rfl rfl (Nat.le_of_ble_eq_true rfl) dX8_use_19 rfl (fun v w hq => ?_)
    obtain ⟨st3_19, rfl, rfl, he_19, hk_19⟩ := hq
    show V X 0 0 22 [(0, vP (am 0)), (1, vI x)] [vI (nsc (st 2801) (st (14 * x + 1)) (st (14 * x + 4)) (st (14 * x + 5)) (tick ck))] [mdW am (st3_19, bk3_14, un3_14, tick ck, ty, tm, tx, ln, rf, dg, dn, rk, pl, iw, wd, wm, od, oc)]
    refine i_iret C hR dX8_use_22 ?_
    have hsp : (sp_use x (absM st bk un ck ty tm tx ln rf)) = (nsc (st 2801) (st (14 * x + 1)) (st (14 * x + 4)) (st (14 * x + 5)) (tick ck), absM st3_19 bk3_14 un3_14 (tick ck) ty tm tx ln rf) := by
      unfold absM
      simp only [sp_use]
      rw [fnd_bo hs, if_pos h_5]
      simp only
      rw [← he_14, ← he_19]
      rfl
    exact ⟨st3_19, bk3_14, un3_14, tick ck, rf, by rw [hsp], rfl, by rw [hsp] <;> exact rfl, hm.upd hN (hk_19.up (by omega) (by omega)) (hk_14.up (by omega) (by omega)) (by unfold tick; omega)⟩
  · skip
    have h_5 := if0 c_5
    refine i_aload_n (j := 0) (q := 9) C rfl rfl dX8_use_8 rfl ?_
    refine i_callV (wr := []) (As := []) (st := []) (i := 0) (j := 0) (q := 12) C (c_X8_bad K l (am) (st) (bk) (un) (ck) (ty) (tm) (tx) (ln) (rf) (dg) (dn) (rk) (pl) (iw) (wd) (wm) (od) (oc) ) gX8_use_X8_bad rfl hd_X8_bad ⟨Nat.le_of_ble_eq_true rfl, Nat.le_of_ble_eq_true rfl⟩ ⟨rfl, rfl⟩ ⟨Nat.le_of_ble_eq_true rfl, Nat.le_of_ble_eq_true rfl⟩ (permBy [0] (by decide) rfl rfl) rfl rfl rfl rfl (Nat.le_of_ble_eq_true rfl) dX8_use_9 rfl (fun v w hq => ?_)
    obtain ⟨rfl, rfl⟩ := hq
    show V X 0 0 12 [(0, vP (am 0)), (1, vI x)] [vI (-2)] [mdW am (st, bk, un, ck, ty, tm, tx, ln, up rf 0 (rf 0 + 1), dg, dn, rk, pl, iw, wd, wm, od, oc)]
    refine i_iret C hR dX8_use_12 ?_
    have hsp : (sp_use x (absM st bk un ck ty tm tx ln rf)) = (-2, aBad (absM st bk un ck ty tm tx ln rf)) := by
      unfold absM
      simp only [sp_use]
      rw [fnd_bo hs, if_neg h_5]
    exact ⟨st, bk, un, ck, up rf 0 (rf 0 + 1), by rw [hsp], rfl, by rw [hsp] <;> exact absM_bad, okM_bad hm hN⟩

theorem lk_X8_score_7 : Cond.fieldLink RX8 7 (TX8 0).1 (TX8 0).2.1 (TX8 0).2.2.1 ∈ wsX8_score := List.mem_of_getElem? (i := 1) rfl
theorem hi_X8_score_X8 : ∀ w ∈ u_ws RX8 TX8 18, w ∈ wsX8_score := by decide +kernel
set_option maxHeartbeats 400000 in
set_option maxRecDepth 100000 in
theorem c_X8_score (K : KT) (l : Launch) (am : Nat → Nat) (st : Int → Int) (bk : Int → Int) (un : Int) (ck : Int) (ty : Int → Int) (tm : Int) (tx : Int → Int) (ln : Int) (rf : Int → Int) (dg : Int) (dn : Int → Int) (rk : Int → Int) (pl : Int) (iw : Int) (wd : Int → Int) (wm : Int) (od : Int → Int) (oc : Int) (N : Int) (x : Int) (y : Int) (hm : okM N st bk un ck ty tm tx ln rf) (hN : N < 512) (hx : rI x) (hy : rI y) : Mt K l yX8_score wsX8_score ({ frames := 2, cells := 0, slots := 0, locals := 45 }) [vP (am 0), vI x, vI y] [mdW am (st, bk, un, ck, ty, tm, tx, ln, rf, dg, dn, rk, pl, iw, wd, wm, od, oc)] 0 0 (fun v w => ∃ st3 : Int → Int, ∃ bk3 : Int → Int, ∃ un3 : Int, ∃ rf3 : Int → Int, v = some (vI ((sp_score x y (absM st bk un ck ty tm tx ln rf)).1)) ∧ w = [mdW am (st3, bk3, un3, ck, ty, tm, tx, ln, rf3, dg, dn, rk, pl, iw, wd, wm, od, oc)] ∧ (absM st3 bk3 un3 ck ty tm tx ln rf3 = (sp_score x y (absM st bk un ck ty tm tx ln rf)).2) ∧ (okM (N + 1) st3 bk3 un3 ck ty tm tx ln rf3)) := by
  refine Mt.of (own := RX8) (cc := cX8_score) (maxL := 4) (ret := (some .int)) (lv0 := [(0, vP (am 0)), (1, vI x), (2, vI y)]) (by decide) rfl rfl (Nat.le_of_ble_eq_true rfl) rfl (fun X C hR hNm => ?_)
  have hs := hm.hs
  have hgv := hs.gv
  have hN0 := hm.hN
  have hH := hm.hH
  have hck := hm.hck
  have htm := hm.htm
  have hln := hm.hln
  have hun := hH.1
  refine i_aload_n (j := 0) (q := 1) C rfl rfl dX8_score_0 rfl ?_
  refine i_iload_n (j := 1) (q := 2) C rfl rfl dX8_score_1 rfl ?_
  refine i_callV (wr := []) (As := [vI x]) (st := []) (i := 0) (j := 0) (q := 5) C (c_X8_isThere K l (am) (st) (bk) (un) (ck) (ty) (tm) (tx) (ln) (rf) (dg) (dn) (rk) (pl) (iw) (wd) (wm) (od) (oc) (24 * N) (x) (by first | assumption | omega) (by first | assumption | omega)) gX8_score_X8_isThere rfl hd_X8_isThere ⟨Nat.le_of_ble_eq_true rfl, Nat.le_of_ble_eq_true rfl⟩ ⟨rfl, rfl⟩ ⟨Nat.le_of_ble_eq_true rfl, Nat.le_of_ble_eq_true rfl⟩ (permBy [0] (by decide) rfl rfl) rfl rfl rfl rfl (Nat.le_of_ble_eq_true rfl) dX8_score_2 rfl (fun v w hq => ?_)
  obtain ⟨rfl, rfl⟩ := hq
  show V X 0 0 5 [(0, vP (am 0)), (1, vI x), (2, vI y)] [vI (if 0 ≤ x ∧ x < st 2800 ∧ st (14 * x) = 1 then 1 else 0)] [mdW am (st, bk, un, ck, ty, tm, tx, ln, rf, dg, dn, rk, pl, iw, wd, wm, od, oc)]
  refine i_if_eq (tgt := 19) (q := 8) C (if01) dX8_score_5 (by decide) rfl (fun c_5 => ?_) (fun c_5 => ?_)
  · skip
    have h_5 := if0 c_5
    refine i_aload_n (j := 0) (q := 20) C rfl rfl dX8_score_19 rfl ?_
    refine i_callV (wr := []) (As := []) (st := []) (i := 0) (j := 0) (q := 23) C (c_X8_bad K l (am) (st) (bk) (un) (ck) (ty) (tm) (tx) (ln) (rf) (dg) (dn) (rk) (pl) (iw) (wd) (wm) (od) (oc) ) gX8_score_X8_bad rfl hd_X8_bad ⟨Nat.le_of_ble_eq_true rfl, Nat.le_of_ble_eq_true rfl⟩ ⟨rfl, rfl⟩ ⟨Nat.le_of_ble_eq_true rfl, Nat.le_of_ble_eq_true rfl⟩ (permBy [0] (by decide) rfl rfl) rfl rfl rfl rfl (Nat.le_of_ble_eq_true rfl) dX8_score_20 rfl (fun v w hq => ?_)
    obtain ⟨rfl, rfl⟩ := hq
    show V X 0 0 23 [(0, vP (am 0)), (1, vI x), (2, vI y)] [vI (-2)] [mdW am (st, bk, un, ck, ty, tm, tx, ln, up rf 0 (rf 0 + 1), dg, dn, rk, pl, iw, wd, wm, od, oc)]
    refine i_iret C hR dX8_score_23 ?_
    have hsp : (sp_score x y (absM st bk un ck ty tm tx ln rf)) = (-2, aBad (absM st bk un ck ty tm tx ln rf)) := by
      unfold absM
      simp only [sp_score]
      rw [fnd_bo hs, if_neg h_5]
    exact ⟨st, bk, un, up rf 0 (rf 0 + 1), by rw [hsp], rfl, by rw [hsp] <;> exact absM_bad, okM_bad hm hN⟩
  · skip
    have h_5 := ifn0 c_5
    refine i_iload_n (j := 2) (q := 9) C rfl rfl dX8_score_8 rfl ?_
    refine i_iconst (q := 10) C dX8_score_9 rfl ?_
    refine i_sipush (q := 13) C (by decide) dX8_score_10 rfl ?_
    refine i_callS (wr := [mdW am (st, bk, un, ck, ty, tm, tx, ln, rf, dg, dn, rk, pl, iw, wd, wm, od, oc)]) (As := [vI y, vI 0, vI 1000]) (st := []) (q := 16) C (c_X8_in K l (y) (0) (1000) (by first | assumption | omega) (by first | assumption | omega) (by first | assumption | omega)) gX8_score_X8_in rfl hd_X8_in ⟨Nat.le_of_ble_eq_true rfl, Nat.le_of_ble_eq_true rfl⟩ ⟨rfl, rfl⟩ ⟨Nat.le_of_ble_eq_true rfl, Nat.le_of_ble_eq_true rfl⟩ (permBy [0] (by decide) rfl rfl) rfl (Nat.le_of_ble_eq_true rfl) dX8_score_13 rfl (fun v w hq => ?_)
    obtain ⟨rfl, rfl⟩ := hq
    show V X 0 0 16 [(0, vP (am 0)), (1, vI x), (2, vI y)] [vI (if 0 ≤ y ∧ y ≤ 1000 then 1 else 0)] [mdW am (st, bk, un, ck, ty, tm, tx, ln, rf, dg, dn, rk, pl, iw, wd, wm, od, oc)]
    refine i_if_ne (tgt := 24) (q := 19) C (if01) dX8_score_16 (by decide) rfl (fun c_16 => ?_) (fun c_16 => ?_)
    · skip
      have h_16 := ifn0 c_16
      refine i_aload_n (j := 0) (q := 25) C rfl rfl dX8_score_24 rfl ?_
      refine i_callV (wr := []) (As := []) (st := []) (i := 0) (j := 0) (q := 28) C (c_X8_notes K l (am) (st) (bk) (un) (ck) (ty) (tm) (tx) (ln) (rf) (dg) (dn) (rk) (pl) (iw) (wd) (wm) (od) (oc) (24 * N) (by first | assumption | omega) (by first | assumption | omega)) gX8_score_X8_notes rfl hd_X8_notes ⟨Nat.le_of_ble_eq_true rfl, Nat.le_of_ble_eq_true rfl⟩ ⟨rfl, rfl⟩ ⟨Nat.le_of_ble_eq_true rfl, Nat.le_of_ble_eq_true rfl⟩ (permBy [0] (by decide) rfl rfl) rfl rfl rfl rfl (Nat.le_of_ble_eq_true rfl) dX8_score_25 rfl (fun v w hq => ?_)
      obtain ⟨bk3_25, un3_25, rfl, rfl, he_25, hk_25⟩ := hq
      show V X 0 0 28 [(0, vP (am 0)), (1, vI x), (2, vI y)] [] [mdW am (st, bk3_25, un3_25, ck, ty, tm, tx, ln, rf, dg, dn, rk, pl, iw, wd, wm, od, oc)]
      refine i_aload_n (j := 0) (q := 29) C rfl rfl dX8_score_28 rfl ?_
      refine i_get (i := 0) (j := 0) (f := 0) (q := 32) C rfl rfl rfl hi_X8_score_X8 (by decide) lk_X8_score_7 rfl dX8_score_29 rfl ?_
      refine i_bipush (q := 34) C (by decide) dX8_score_32 rfl ?_
      refine i_iload_n (j := 1) (q := 35) C rfl rfl dX8_score_34 rfl ?_
      refine i_imul (q := 36) C dX8_score_35 rfl ?_
      refine i_iconst (q := 37) C dX8_score_36 rfl ?_
      refine i_iadd (q := 38) C dX8_score_37 rfl ?_
      refine i_iald (i := 0) (j := 1) (q := 39) C rfl rfl (by omega) dX8_score_38 rfl ?_
      have ld_38 := hs.k1 x (by omega) (by omega)
      refine i_istore_n (q := 40) (lv' := [(3, vI (st ((14 * x) + 1))), (0, vP (am 0)), (1, vI x), (2, vI y)]) C rfl (by decide) rfl dX8_score_39 rfl ?_
      refine i_aload_n (j := 1) (q := 41) C rfl rfl dX8_score_40 rfl ?_
      refine i_get (i := 0) (j := 0) (f := 0) (q := 44) C rfl rfl rfl hi_X8_score_X8 (by decide) lk_X8_score_7 rfl dX8_score_41 rfl ?_
      refine i_bipush (q := 46) C (by decide) dX8_score_44 rfl ?_
      refine i_iload_n (j := 2) (q := 47) C rfl rfl dX8_score_46 rfl ?_
      refine i_imul (q := 48) C dX8_score_47 rfl ?_
      refine i_iconst (q := 49) C dX8_score_48 rfl ?_
      refine i_iadd (q := 50) C dX8_score_49 rfl ?_
      refine i_iload_n (j := 3) (q := 51) C rfl rfl dX8_score_50 rfl ?_
      refine i_iast (i := 0) (j := 1) (q := 52) (cs' := [mdW am (up st ((14 * x) + 1) y, bk3_25, un3_25, ck, ty, tm, tx, ln, rf, dg, dn, rk, pl, iw, wd, wm, od, oc)]) C rfl rfl (by omega) dX8_score_51 rfl rfl ?_
      refine i_iload_n (j := 0) (q := 53) C rfl rfl dX8_score_52 rfl ?_
      refine i_iret C hR dX8_score_53 ?_
      have hsp : (sp_score x y (absM st bk un ck ty tm tx ln rf)) = (st (14 * x + 1), absM (up st (14 * x + 1) y) bk3_25 un3_25 ck ty tm tx ln rf) := by
        unfold absM
        simp only [sp_score]
        rw [fnd_bo hs, if_pos h_5]
        simp only
        rw [if_pos h_16, ← he_25, ← show bo (up st (14 * x + 1) y) = scoB (bo st) x y from (set_ok (U2 := 24 * N) (s2 := up st (14 * x + 1) y) hs (by omega) (by omega) (by omega) (fun z => (z.1, z.2.1, y, z.2.2.2.1, z.2.2.2.2.1, z.2.2.2.2.2)) (fun k _ _ a _ _ => up_n _ _ a) (by rw [up_s]; omega) (by rw [up_n _ _ (by omega)]; exact (hs.k4 x (by omega) (by omega)).1) (by rw [up_n _ _ (by omega)]; exact hs.k5 x (by omega) (by omega)) (fun _ => by rw [up_s, up_n _ _ (by omega), up_n _ _ (by omega)]; rfl)).1]
        rfl
      exact ⟨up st ((14 * x) + 1) y, bk3_25, un3_25, rf, by rw [hsp], rfl, by rw [hsp] <;> exact rfl, hm.upd hN ((set_ok (U2 := 24 * N) (s2 := up st (14 * x + 1) y) hs (by omega) (by omega) (by omega) (fun z => (z.1, z.2.1, y, z.2.2.2.1, z.2.2.2.2.1, z.2.2.2.2.2)) (fun k _ _ a _ _ => up_n _ _ a) (by rw [up_s]; omega) (by rw [up_n _ _ (by omega)]; exact (hs.k4 x (by omega) (by omega)).1) (by rw [up_n _ _ (by omega)]; exact hs.k5 x (by omega) (by omega)) (fun _ => by rw [up_s, up_n _ _ (by omega), up_n _ _ (by omega)]; rfl)).2.up (by omega) (by omega)) (hk_25.up (by omega) (by omega)) hck⟩
    · skip
      have h_16 := if0 c_16
      refine i_aload_n (j := 0) (q := 20) C rfl rfl dX8_score_19 rfl ?_
      refine i_callV (wr := []) (As := []) (st := []) (i := 0) (j := 0) (q := 23) C (c_X8_bad K l (am) (st) (bk) (un) (ck) (ty) (tm) (tx) (ln) (rf) (dg) (dn) (rk) (pl) (iw) (wd) (wm) (od) (oc) ) gX8_score_X8_bad rfl hd_X8_bad ⟨Nat.le_of_ble_eq_true rfl, Nat.le_of_ble_eq_true rfl⟩ ⟨rfl, rfl⟩ ⟨Nat.le_of_ble_eq_true rfl, Nat.le_of_ble_eq_true rfl⟩ (permBy [0] (by decide) rfl rfl) rfl rfl rfl rfl (Nat.le_of_ble_eq_true rfl) dX8_score_20 rfl (fun v w hq => ?_)
      obtain ⟨rfl, rfl⟩ := hq
      show V X 0 0 23 [(0, vP (am 0)), (1, vI x), (2, vI y)] [vI (-2)] [mdW am (st, bk, un, ck, ty, tm, tx, ln, up rf 0 (rf 0 + 1), dg, dn, rk, pl, iw, wd, wm, od, oc)]
      refine i_iret C hR dX8_score_23 ?_
      have hsp : (sp_score x y (absM st bk un ck ty tm tx ln rf)) = (-2, aBad (absM st bk un ck ty tm tx ln rf)) := by
        unfold absM
        simp only [sp_score]
        rw [fnd_bo hs, if_pos h_5]
        simp only
        rw [if_neg h_16]
      exact ⟨st, bk, un, up rf 0 (rf 0 + 1), by rw [hsp], rfl, by rw [hsp] <;> exact absM_bad, okM_bad hm hN⟩

theorem lk_X8_drop_7 : Cond.fieldLink RX8 7 (TX8 0).1 (TX8 0).2.1 (TX8 0).2.2.1 ∈ wsX8_drop := List.mem_of_getElem? (i := 1) rfl
theorem hi_X8_drop_X8 : ∀ w ∈ u_ws RX8 TX8 18, w ∈ wsX8_drop := by decide +kernel
set_option maxHeartbeats 400000 in
set_option maxRecDepth 100000 in
theorem c_X8_drop (K : KT) (l : Launch) (am : Nat → Nat) (st : Int → Int) (bk : Int → Int) (un : Int) (ck : Int) (ty : Int → Int) (tm : Int) (tx : Int → Int) (ln : Int) (rf : Int → Int) (dg : Int) (dn : Int → Int) (rk : Int → Int) (pl : Int) (iw : Int) (wd : Int → Int) (wm : Int) (od : Int → Int) (oc : Int) (N : Int) (x : Int) (hm : okM N st bk un ck ty tm tx ln rf) (hN : N < 512) (hx : rI x) : Mt K l yX8_drop wsX8_drop ({ frames := 2, cells := 0, slots := 0, locals := 45 }) [vP (am 0), vI x] [mdW am (st, bk, un, ck, ty, tm, tx, ln, rf, dg, dn, rk, pl, iw, wd, wm, od, oc)] 0 0 (fun v w => ∃ st3 : Int → Int, ∃ bk3 : Int → Int, ∃ un3 : Int, ∃ rf3 : Int → Int, v = some (vI ((sp_drop x (absM st bk un ck ty tm tx ln rf)).1)) ∧ w = [mdW am (st3, bk3, un3, ck, ty, tm, tx, ln, rf3, dg, dn, rk, pl, iw, wd, wm, od, oc)] ∧ (absM st3 bk3 un3 ck ty tm tx ln rf3 = (sp_drop x (absM st bk un ck ty tm tx ln rf)).2) ∧ (okM (N + 1) st3 bk3 un3 ck ty tm tx ln rf3)) := by
  refine Mt.of (own := RX8) (cc := cX8_drop) (maxL := 2) (ret := (some .int)) (lv0 := [(0, vP (am 0)), (1, vI x)]) (by decide) rfl rfl (Nat.le_of_ble_eq_true rfl) rfl (fun X C hR hNm => ?_)
  have hs := hm.hs
  have hgv := hs.gv
  have hN0 := hm.hN
  have hH := hm.hH
  have hck := hm.hck
  have htm := hm.htm
  have hln := hm.hln
  have hun := hH.1
  refine i_aload_n (j := 0) (q := 1) C rfl rfl dX8_drop_0 rfl ?_
  refine i_iload_n (j := 1) (q := 2) C rfl rfl dX8_drop_1 rfl ?_
  refine i_callV (wr := []) (As := [vI x]) (st := []) (i := 0) (j := 0) (q := 5) C (c_X8_isThere K l (am) (st) (bk) (un) (ck) (ty) (tm) (tx) (ln) (rf) (dg) (dn) (rk) (pl) (iw) (wd) (wm) (od) (oc) (24 * N) (x) (by first | assumption | omega) (by first | assumption | omega)) gX8_drop_X8_isThere rfl hd_X8_isThere ⟨Nat.le_of_ble_eq_true rfl, Nat.le_of_ble_eq_true rfl⟩ ⟨rfl, rfl⟩ ⟨Nat.le_of_ble_eq_true rfl, Nat.le_of_ble_eq_true rfl⟩ (permBy [0] (by decide) rfl rfl) rfl rfl rfl rfl (Nat.le_of_ble_eq_true rfl) dX8_drop_2 rfl (fun v w hq => ?_)
  obtain ⟨rfl, rfl⟩ := hq
  show V X 0 0 5 [(0, vP (am 0)), (1, vI x)] [vI (if 0 ≤ x ∧ x < st 2800 ∧ st (14 * x) = 1 then 1 else 0)] [mdW am (st, bk, un, ck, ty, tm, tx, ln, rf, dg, dn, rk, pl, iw, wd, wm, od, oc)]
  refine i_if_ne (tgt := 13) (q := 8) C (if01) dX8_drop_5 (by decide) rfl (fun c_5 => ?_) (fun c_5 => ?_)
  · skip
    have h_5 := ifn0 c_5
    refine i_aload_n (j := 0) (q := 14) C rfl rfl dX8_drop_13 rfl ?_
    refine i_callV (wr := []) (As := []) (st := []) (i := 0) (j := 0) (q := 17) C (c_X8_notes K l (am) (st) (bk) (un) (ck) (ty) (tm) (tx) (ln) (rf) (dg) (dn) (rk) (pl) (iw) (wd) (wm) (od) (oc) (24 * N) (by first | assumption | omega) (by first | assumption | omega)) gX8_drop_X8_notes rfl hd_X8_notes ⟨Nat.le_of_ble_eq_true rfl, Nat.le_of_ble_eq_true rfl⟩ ⟨rfl, rfl⟩ ⟨Nat.le_of_ble_eq_true rfl, Nat.le_of_ble_eq_true rfl⟩ (permBy [0] (by decide) rfl rfl) rfl rfl rfl rfl (Nat.le_of_ble_eq_true rfl) dX8_drop_14 rfl (fun v w hq => ?_)
    obtain ⟨bk3_14, un3_14, rfl, rfl, he_14, hk_14⟩ := hq
    show V X 0 0 17 [(0, vP (am 0)), (1, vI x)] [] [mdW am (st, bk3_14, un3_14, ck, ty, tm, tx, ln, rf, dg, dn, rk, pl, iw, wd, wm, od, oc)]
    refine i_aload_n (j := 0) (q := 18) C rfl rfl dX8_drop_17 rfl ?_
    refine i_get (i := 0) (j := 0) (f := 0) (q := 21) C rfl rfl rfl hi_X8_drop_X8 (by decide) lk_X8_drop_7 rfl dX8_drop_18 rfl ?_
    refine i_bipush (q := 23) C (by decide) dX8_drop_21 rfl ?_
    refine i_iload_n (j := 1) (q := 24) C rfl rfl dX8_drop_23 rfl ?_
    refine i_imul (q := 25) C dX8_drop_24 rfl ?_
    refine i_iconst (q := 26) C dX8_drop_25 rfl ?_
    refine i_iast (i := 0) (j := 1) (q := 27) (cs' := [mdW am (up st (14 * x) 0, bk3_14, un3_14, ck, ty, tm, tx, ln, rf, dg, dn, rk, pl, iw, wd, wm, od, oc)]) C rfl rfl (by omega) dX8_drop_26 rfl rfl ?_
    refine i_aload_n (j := 0) (q := 28) C rfl rfl dX8_drop_27 rfl ?_
    refine i_get (i := 0) (j := 0) (f := 0) (q := 31) C rfl rfl rfl hi_X8_drop_X8 (by decide) lk_X8_drop_7 rfl dX8_drop_28 rfl ?_
    refine i_bipush (q := 33) C (by decide) dX8_drop_31 rfl ?_
    refine i_iload_n (j := 1) (q := 34) C rfl rfl dX8_drop_33 rfl ?_
    refine i_imul (q := 35) C dX8_drop_34 rfl ?_
    refine i_iconst (q := 36) C dX8_drop_35 rfl ?_
    refine i_iadd (q := 37) C dX8_drop_36 rfl ?_
    refine i_iald (i := 0) (j := 1) (q := 38) C rfl rfl (by omega) dX8_drop_37 rfl ?_
    skip
    refine V.top (b := st (14 * x + 1)) (up_n _ _ (by omega)) ?_
    refine i_iret C hR dX8_drop_38 ?_
    have hsp : (sp_drop x (absM st bk un ck ty tm tx ln rf)) = (st (14 * x + 1), absM (up st (14 * x) 0) bk3_14 un3_14 ck ty tm tx ln rf) := by
      unfold absM
      simp only [sp_drop]
      rw [fnd_bo hs, if_pos h_5]
      simp only
      rw [← he_14, ← (out_ok hs (q := x) (by omega)).1]
      rfl
    exact ⟨up st (14 * x) 0, bk3_14, un3_14, rf, by rw [hsp], rfl, by rw [hsp] <;> exact rfl, hm.upd hN ((out_ok hs (q := x) (by omega)).2.up (by omega) (by omega)) (hk_14.up (by omega) (by omega)) hck⟩
  · skip
    have h_5 := if0 c_5
    refine i_aload_n (j := 0) (q := 9) C rfl rfl dX8_drop_8 rfl ?_
    refine i_callV (wr := []) (As := []) (st := []) (i := 0) (j := 0) (q := 12) C (c_X8_bad K l (am) (st) (bk) (un) (ck) (ty) (tm) (tx) (ln) (rf) (dg) (dn) (rk) (pl) (iw) (wd) (wm) (od) (oc) ) gX8_drop_X8_bad rfl hd_X8_bad ⟨Nat.le_of_ble_eq_true rfl, Nat.le_of_ble_eq_true rfl⟩ ⟨rfl, rfl⟩ ⟨Nat.le_of_ble_eq_true rfl, Nat.le_of_ble_eq_true rfl⟩ (permBy [0] (by decide) rfl rfl) rfl rfl rfl rfl (Nat.le_of_ble_eq_true rfl) dX8_drop_9 rfl (fun v w hq => ?_)
    obtain ⟨rfl, rfl⟩ := hq
    show V X 0 0 12 [(0, vP (am 0)), (1, vI x)] [vI (-2)] [mdW am (st, bk, un, ck, ty, tm, tx, ln, up rf 0 (rf 0 + 1), dg, dn, rk, pl, iw, wd, wm, od, oc)]
    refine i_iret C hR dX8_drop_12 ?_
    have hsp : (sp_drop x (absM st bk un ck ty tm tx ln rf)) = (-2, aBad (absM st bk un ck ty tm tx ln rf)) := by
      unfold absM
      simp only [sp_drop]
      rw [fnd_bo hs, if_neg h_5]
    exact ⟨st, bk, un, up rf 0 (rf 0 + 1), by rw [hsp], rfl, by rw [hsp] <;> exact absM_bad, okM_bad hm hN⟩

theorem lk_X8_rank_7 : Cond.fieldLink RX8 7 (TX8 0).1 (TX8 0).2.1 (TX8 0).2.2.1 ∈ wsX8_rank := List.mem_of_getElem? (i := 1) rfl
theorem hi_X8_rank_X8 : ∀ w ∈ u_ws RX8 TX8 18, w ∈ wsX8_rank := by decide +kernel
set_option maxHeartbeats 400000 in
set_option maxRecDepth 100000 in
theorem c_X8_rank (K : KT) (l : Launch) (am : Nat → Nat) (st : Int → Int) (bk : Int → Int) (un : Int) (ck : Int) (ty : Int → Int) (tm : Int) (tx : Int → Int) (ln : Int) (rf : Int → Int) (dg : Int) (dn : Int → Int) (rk : Int → Int) (pl : Int) (iw : Int) (wd : Int → Int) (wm : Int) (od : Int → Int) (oc : Int) (N : Int) (x : Int) (hm : okM N st bk un ck ty tm tx ln rf) (hN : N < 512) (hx : rI x) : Mt K l yX8_rank wsX8_rank ({ frames := 2, cells := 0, slots := 0, locals := 45 }) [vP (am 0), vI x] [mdW am (st, bk, un, ck, ty, tm, tx, ln, rf, dg, dn, rk, pl, iw, wd, wm, od, oc)] 0 0 (fun v w => ∃ st3 : Int → Int, ∃ bk3 : Int → Int, ∃ un3 : Int, ∃ rf3 : Int → Int, v = some (vI ((sp_rank x (absM st bk un ck ty tm tx ln rf)).1)) ∧ w = [mdW am (st3, bk3, un3, ck, ty, tm, tx, ln, rf3, dg, dn, rk, pl, iw, wd, wm, od, oc)] ∧ (absM st3 bk3 un3 ck ty tm tx ln rf3 = (sp_rank x (absM st bk un ck ty tm tx ln rf)).2) ∧ (okM (N + 1) st3 bk3 un3 ck ty tm tx ln rf3)) := by
  refine Mt.of (own := RX8) (cc := cX8_rank) (maxL := 3) (ret := (some .int)) (lv0 := [(0, vP (am 0)), (1, vI x)]) (by decide) rfl rfl (Nat.le_of_ble_eq_true rfl) rfl (fun X C hR hNm => ?_)
  have hs := hm.hs
  have hgv := hs.gv
  have hN0 := hm.hN
  have hH := hm.hH
  have hck := hm.hck
  have htm := hm.htm
  have hln := hm.hln
  have hun := hH.1
  refine i_iload_n (j := 1) (q := 1) C rfl rfl dX8_rank_0 rfl ?_
  refine i_iconst (q := 2) C dX8_rank_1 rfl ?_
  refine i_iconst (q := 3) C dX8_rank_2 rfl ?_
  refine i_callS (wr := [mdW am (st, bk, un, ck, ty, tm, tx, ln, rf, dg, dn, rk, pl, iw, wd, wm, od, oc)]) (As := [vI x, vI 0, vI 4]) (st := []) (q := 6) C (c_X8_in K l (x) (0) (4) (by first | assumption | omega) (by first | assumption | omega) (by first | assumption | omega)) gX8_rank_X8_in rfl hd_X8_in ⟨Nat.le_of_ble_eq_true rfl, Nat.le_of_ble_eq_true rfl⟩ ⟨rfl, rfl⟩ ⟨Nat.le_of_ble_eq_true rfl, Nat.le_of_ble_eq_true rfl⟩ (permBy [0] (by decide) rfl rfl) rfl (Nat.le_of_ble_eq_true rfl) dX8_rank_3 rfl (fun v w hq => ?_)
  obtain ⟨rfl, rfl⟩ := hq
  show V X 0 0 6 [(0, vP (am 0)), (1, vI x)] [vI (if 0 ≤ x ∧ x ≤ 4 then 1 else 0)] [mdW am (st, bk, un, ck, ty, tm, tx, ln, rf, dg, dn, rk, pl, iw, wd, wm, od, oc)]
  refine i_if_ne (tgt := 14) (q := 9) C (if01) dX8_rank_6 (by decide) rfl (fun c_6 => ?_) (fun c_6 => ?_)
  · skip
    have h_6 := ifn0 c_6
    refine i_aload_n (j := 0) (q := 15) C rfl rfl dX8_rank_14 rfl ?_
    refine i_callV (wr := []) (As := []) (st := []) (i := 0) (j := 0) (q := 18) C (c_X8_notes K l (am) (st) (bk) (un) (ck) (ty) (tm) (tx) (ln) (rf) (dg) (dn) (rk) (pl) (iw) (wd) (wm) (od) (oc) (24 * N) (by first | assumption | omega) (by first | assumption | omega)) gX8_rank_X8_notes rfl hd_X8_notes ⟨Nat.le_of_ble_eq_true rfl, Nat.le_of_ble_eq_true rfl⟩ ⟨rfl, rfl⟩ ⟨Nat.le_of_ble_eq_true rfl, Nat.le_of_ble_eq_true rfl⟩ (permBy [0] (by decide) rfl rfl) rfl rfl rfl rfl (Nat.le_of_ble_eq_true rfl) dX8_rank_15 rfl (fun v w hq => ?_)
    obtain ⟨bk3_15, un3_15, rfl, rfl, he_15, hk_15⟩ := hq
    show V X 0 0 18 [(0, vP (am 0)), (1, vI x)] [] [mdW am (st, bk3_15, un3_15, ck, ty, tm, tx, ln, rf, dg, dn, rk, pl, iw, wd, wm, od, oc)]
    refine i_aload_n (j := 0) (q := 19) C rfl rfl dX8_rank_18 rfl ?_
    refine i_get (i := 0) (j := 0) (f := 0) (q := 22) C rfl rfl rfl hi_X8_rank_X8 (by decide) lk_X8_rank_7 rfl dX8_rank_19 rfl ?_
    refine i_sipush (q := 25) C (by decide) dX8_rank_22 rfl ?_
    refine i_iald (i := 0) (j := 1) (q := 26) C rfl rfl (by omega) dX8_rank_25 rfl ?_
    have ld_25 := hs.kd
    refine i_istore_n (q := 27) (lv' := [(2, vI (st 2801)), (0, vP (am 0)), (1, vI x)]) C rfl (by decide) rfl dX8_rank_26 rfl ?_
    refine i_aload_n (j := 1) (q := 28) C rfl rfl dX8_rank_27 rfl ?_
    refine i_get (i := 0) (j := 0) (f := 0) (q := 31) C rfl rfl rfl hi_X8_rank_X8 (by decide) lk_X8_rank_7 rfl dX8_rank_28 rfl ?_
    refine i_sipush (q := 34) C (by decide) dX8_rank_31 rfl ?_
    refine i_iload_n (j := 2) (q := 35) C rfl rfl dX8_rank_34 rfl ?_
    refine i_iast (i := 0) (j := 1) (q := 36) (cs' := [mdW am (up st 2801 x, bk3_15, un3_15, ck, ty, tm, tx, ln, rf, dg, dn, rk, pl, iw, wd, wm, od, oc)]) C rfl rfl (by omega) dX8_rank_35 rfl rfl ?_
    refine i_iload_n (j := 0) (q := 37) C rfl rfl dX8_rank_36 rfl ?_
    refine i_iret C hR dX8_rank_37 ?_
    have hsp : (sp_rank x (absM st bk un ck ty tm tx ln rf)) = (st 2801, absM (up st 2801 x) bk3_15 un3_15 ck ty tm tx ln rf) := by
      unfold absM
      simp only [sp_rank]
      rw [if_pos h_6, ← he_15, ← (rank_ok hs (x := x) (by omega)).1]
      rfl
    exact ⟨up st 2801 x, bk3_15, un3_15, rf, by rw [hsp], rfl, by rw [hsp] <;> exact rfl, hm.upd hN ((rank_ok hs (x := x) (by omega)).2.up (by omega) (by omega)) (hk_15.up (by omega) (by omega)) hck⟩
  · skip
    have h_6 := if0 c_6
    refine i_aload_n (j := 0) (q := 10) C rfl rfl dX8_rank_9 rfl ?_
    refine i_callV (wr := []) (As := []) (st := []) (i := 0) (j := 0) (q := 13) C (c_X8_bad K l (am) (st) (bk) (un) (ck) (ty) (tm) (tx) (ln) (rf) (dg) (dn) (rk) (pl) (iw) (wd) (wm) (od) (oc) ) gX8_rank_X8_bad rfl hd_X8_bad ⟨Nat.le_of_ble_eq_true rfl, Nat.le_of_ble_eq_true rfl⟩ ⟨rfl, rfl⟩ ⟨Nat.le_of_ble_eq_true rfl, Nat.le_of_ble_eq_true rfl⟩ (permBy [0] (by decide) rfl rfl) rfl rfl rfl rfl (Nat.le_of_ble_eq_true rfl) dX8_rank_10 rfl (fun v w hq => ?_)
    obtain ⟨rfl, rfl⟩ := hq
    show V X 0 0 13 [(0, vP (am 0)), (1, vI x)] [vI (-2)] [mdW am (st, bk, un, ck, ty, tm, tx, ln, up rf 0 (rf 0 + 1), dg, dn, rk, pl, iw, wd, wm, od, oc)]
    refine i_iret C hR dX8_rank_13 ?_
    have hsp : (sp_rank x (absM st bk un ck ty tm tx ln rf)) = (-2, aBad (absM st bk un ck ty tm tx ln rf)) := by
      unfold absM
      simp only [sp_rank]
      rw [if_neg h_6]
    exact ⟨st, bk, un, up rf 0 (rf 0 + 1), by rw [hsp], rfl, by rw [hsp] <;> exact absM_bad, okM_bad hm hN⟩

theorem lk_X8_slip_7 : Cond.fieldLink RX8 7 (TX8 0).1 (TX8 0).2.1 (TX8 0).2.2.1 ∈ wsX8_slip := List.mem_of_getElem? (i := 1) rfl
theorem hi_X8_slip_X8 : ∀ w ∈ u_ws RX8 TX8 18, w ∈ wsX8_slip := by decide +kernel
set_option maxHeartbeats 400000 in
set_option maxRecDepth 100000 in
theorem c_X8_slip (K : KT) (l : Launch) (am : Nat → Nat) (st : Int → Int) (bk : Int → Int) (un : Int) (ck : Int) (ty : Int → Int) (tm : Int) (tx : Int → Int) (ln : Int) (rf : Int → Int) (dg : Int) (dn : Int → Int) (rk : Int → Int) (pl : Int) (iw : Int) (wd : Int → Int) (wm : Int) (od : Int → Int) (oc : Int) (N : Int) (x : Int) (hm : okM N st bk un ck ty tm tx ln rf) (hN : N < 512) (hx : rI x) : Mt K l yX8_slip wsX8_slip ({ frames := 2, cells := 0, slots := 0, locals := 45 }) [vP (am 0), vI x] [mdW am (st, bk, un, ck, ty, tm, tx, ln, rf, dg, dn, rk, pl, iw, wd, wm, od, oc)] 0 0 (fun v w => ∃ st3 : Int → Int, ∃ bk3 : Int → Int, ∃ un3 : Int, ∃ rf3 : Int → Int, v = some (vI ((sp_slip x (absM st bk un ck ty tm tx ln rf)).1)) ∧ w = [mdW am (st3, bk3, un3, ck, ty, tm, tx, ln, rf3, dg, dn, rk, pl, iw, wd, wm, od, oc)] ∧ (absM st3 bk3 un3 ck ty tm tx ln rf3 = (sp_slip x (absM st bk un ck ty tm tx ln rf)).2) ∧ (okM (N + 1) st3 bk3 un3 ck ty tm tx ln rf3)) := by
  refine Mt.of (own := RX8) (cc := cX8_slip) (maxL := 3) (ret := (some .int)) (lv0 := [(0, vP (am 0)), (1, vI x)]) (by decide) rfl rfl (Nat.le_of_ble_eq_true rfl) rfl (fun X C hR hNm => ?_)
  have hs := hm.hs
  have hgv := hs.gv
  have hN0 := hm.hN
  have hH := hm.hH
  have hck := hm.hck
  have htm := hm.htm
  have hln := hm.hln
  have hun := hH.1
  refine i_iload_n (j := 1) (q := 1) C rfl rfl dX8_slip_0 rfl ?_
  refine i_iconst (q := 2) C dX8_slip_1 rfl ?_
  refine i_sipush (q := 5) C (by decide) dX8_slip_2 rfl ?_
  refine i_callS (wr := [mdW am (st, bk, un, ck, ty, tm, tx, ln, rf, dg, dn, rk, pl, iw, wd, wm, od, oc)]) (As := [vI x, vI 0, vI 1000]) (st := []) (q := 8) C (c_X8_in K l (x) (0) (1000) (by first | assumption | omega) (by first | assumption | omega) (by first | assumption | omega)) gX8_slip_X8_in rfl hd_X8_in ⟨Nat.le_of_ble_eq_true rfl, Nat.le_of_ble_eq_true rfl⟩ ⟨rfl, rfl⟩ ⟨Nat.le_of_ble_eq_true rfl, Nat.le_of_ble_eq_true rfl⟩ (permBy [0] (by decide) rfl rfl) rfl (Nat.le_of_ble_eq_true rfl) dX8_slip_5 rfl (fun v w hq => ?_)
  obtain ⟨rfl, rfl⟩ := hq
  show V X 0 0 8 [(0, vP (am 0)), (1, vI x)] [vI (if 0 ≤ x ∧ x ≤ 1000 then 1 else 0)] [mdW am (st, bk, un, ck, ty, tm, tx, ln, rf, dg, dn, rk, pl, iw, wd, wm, od, oc)]
  refine i_if_ne (tgt := 16) (q := 11) C (if01) dX8_slip_8 (by decide) rfl (fun c_8 => ?_) (fun c_8 => ?_)
  · skip
    have h_8 := ifn0 c_8
    refine i_aload_n (j := 0) (q := 17) C rfl rfl dX8_slip_16 rfl ?_
    refine i_callV (wr := []) (As := []) (st := []) (i := 0) (j := 0) (q := 20) C (c_X8_notes K l (am) (st) (bk) (un) (ck) (ty) (tm) (tx) (ln) (rf) (dg) (dn) (rk) (pl) (iw) (wd) (wm) (od) (oc) (24 * N) (by first | assumption | omega) (by first | assumption | omega)) gX8_slip_X8_notes rfl hd_X8_notes ⟨Nat.le_of_ble_eq_true rfl, Nat.le_of_ble_eq_true rfl⟩ ⟨rfl, rfl⟩ ⟨Nat.le_of_ble_eq_true rfl, Nat.le_of_ble_eq_true rfl⟩ (permBy [0] (by decide) rfl rfl) rfl rfl rfl rfl (Nat.le_of_ble_eq_true rfl) dX8_slip_17 rfl (fun v w hq => ?_)
    obtain ⟨bk3_17, un3_17, rfl, rfl, he_17, hk_17⟩ := hq
    show V X 0 0 20 [(0, vP (am 0)), (1, vI x)] [] [mdW am (st, bk3_17, un3_17, ck, ty, tm, tx, ln, rf, dg, dn, rk, pl, iw, wd, wm, od, oc)]
    refine i_aload_n (j := 0) (q := 21) C rfl rfl dX8_slip_20 rfl ?_
    refine i_get (i := 0) (j := 0) (f := 0) (q := 24) C rfl rfl rfl hi_X8_slip_X8 (by decide) lk_X8_slip_7 rfl dX8_slip_21 rfl ?_
    refine i_sipush (q := 27) C (by decide) dX8_slip_24 rfl ?_
    refine i_iald (i := 0) (j := 1) (q := 28) C rfl rfl (by omega) dX8_slip_27 rfl ?_
    have ld_27 := hs.sl
    refine i_istore_n (q := 29) (lv' := [(2, vI (st 2802)), (0, vP (am 0)), (1, vI x)]) C rfl (by decide) rfl dX8_slip_28 rfl ?_
    refine i_aload_n (j := 1) (q := 30) C rfl rfl dX8_slip_29 rfl ?_
    refine i_get (i := 0) (j := 0) (f := 0) (q := 33) C rfl rfl rfl hi_X8_slip_X8 (by decide) lk_X8_slip_7 rfl dX8_slip_30 rfl ?_
    refine i_sipush (q := 36) C (by decide) dX8_slip_33 rfl ?_
    refine i_iload_n (j := 2) (q := 37) C rfl rfl dX8_slip_36 rfl ?_
    refine i_iast (i := 0) (j := 1) (q := 38) (cs' := [mdW am (up st 2802 x, bk3_17, un3_17, ck, ty, tm, tx, ln, rf, dg, dn, rk, pl, iw, wd, wm, od, oc)]) C rfl rfl (by omega) dX8_slip_37 rfl rfl ?_
    refine i_iload_n (j := 0) (q := 39) C rfl rfl dX8_slip_38 rfl ?_
    refine i_iret C hR dX8_slip_39 ?_
    have hsp : (sp_slip x (absM st bk un ck ty tm tx ln rf)) = (st 2802, absM (up st 2802 x) bk3_17 un3_17 ck ty tm tx ln rf) := by
      unfold absM
      simp only [sp_slip]
      rw [if_pos h_8, ← he_17, ← (slip_ok hs (x := x) (by omega)).1]
      rfl
    exact ⟨up st 2802 x, bk3_17, un3_17, rf, by rw [hsp], rfl, by rw [hsp] <;> exact rfl, hm.upd hN ((slip_ok hs (x := x) (by omega)).2.up (by omega) (by omega)) (hk_17.up (by omega) (by omega)) hck⟩
  · skip
    have h_8 := if0 c_8
    refine i_aload_n (j := 0) (q := 12) C rfl rfl dX8_slip_11 rfl ?_
    refine i_callV (wr := []) (As := []) (st := []) (i := 0) (j := 0) (q := 15) C (c_X8_bad K l (am) (st) (bk) (un) (ck) (ty) (tm) (tx) (ln) (rf) (dg) (dn) (rk) (pl) (iw) (wd) (wm) (od) (oc) ) gX8_slip_X8_bad rfl hd_X8_bad ⟨Nat.le_of_ble_eq_true rfl, Nat.le_of_ble_eq_true rfl⟩ ⟨rfl, rfl⟩ ⟨Nat.le_of_ble_eq_true rfl, Nat.le_of_ble_eq_true rfl⟩ (permBy [0] (by decide) rfl rfl) rfl rfl rfl rfl (Nat.le_of_ble_eq_true rfl) dX8_slip_12 rfl (fun v w hq => ?_)
    obtain ⟨rfl, rfl⟩ := hq
    show V X 0 0 15 [(0, vP (am 0)), (1, vI x)] [vI (-2)] [mdW am (st, bk, un, ck, ty, tm, tx, ln, up rf 0 (rf 0 + 1), dg, dn, rk, pl, iw, wd, wm, od, oc)]
    refine i_iret C hR dX8_slip_15 ?_
    have hsp : (sp_slip x (absM st bk un ck ty tm tx ln rf)) = (-2, aBad (absM st bk un ck ty tm tx ln rf)) := by
      unfold absM
      simp only [sp_slip]
      rw [if_neg h_8]
    exact ⟨st, bk, un, up rf 0 (rf 0 + 1), by rw [hsp], rfl, by rw [hsp] <;> exact absM_bad, okM_bad hm hN⟩

theorem hd_X8_halves : yX8_halves.cls = RX8 ∧ yX8_halves.cls ≠ "java/lang/invoke/MethodHandle" ∧ yX8_halves.cls ≠ "java/lang/invoke/VarHandle" ∧ (parseMethodDescriptor yX8_halves.desc).map (fun d => d.parameters.length) = some 0 := by decide +kernel
set_option maxHeartbeats 400000 in
set_option maxRecDepth 100000 in
theorem c_X8_fades (K : KT) (l : Launch) (am : Nat → Nat) (st : Int → Int) (bk : Int → Int) (un : Int) (ck : Int) (ty : Int → Int) (tm : Int) (tx : Int → Int) (ln : Int) (rf : Int → Int) (dg : Int) (dn : Int → Int) (rk : Int → Int) (pl : Int) (iw : Int) (wd : Int → Int) (wm : Int) (od : Int → Int) (oc : Int) (N : Int) (hm : okM N st bk un ck ty tm tx ln rf) (hN : N < 512) : Mt K l yX8_fades wsX8_fades ({ frames := 2, cells := 0, slots := 0, locals := 45 }) [vP (am 0)] [mdW am (st, bk, un, ck, ty, tm, tx, ln, rf, dg, dn, rk, pl, iw, wd, wm, od, oc)] 0 0 (fun v w => ∃ st3 : Int → Int, ∃ bk3 : Int → Int, ∃ un3 : Int, v = some (vI ((sp_fades  (absM st bk un ck ty tm tx ln rf)).1)) ∧ w = [mdW am (st3, bk3, un3, ck, ty, tm, tx, ln, rf, dg, dn, rk, pl, iw, wd, wm, od, oc)] ∧ (absM st3 bk3 un3 ck ty tm tx ln rf = (sp_fades  (absM st bk un ck ty tm tx ln rf)).2) ∧ (okM (N + 1) st3 bk3 un3 ck ty tm tx ln rf)) := by
  refine Mt.of (own := RX8) (cc := cX8_fades) (maxL := 1) (ret := (some .int)) (lv0 := [(0, vP (am 0))]) (by decide) rfl rfl (Nat.le_of_ble_eq_true rfl) rfl (fun X C hR hNm => ?_)
  have hs := hm.hs
  have hgv := hs.gv
  have hN0 := hm.hN
  have hH := hm.hH
  have hck := hm.hck
  have htm := hm.htm
  have hln := hm.hln
  have hun := hH.1
  refine i_aload_n (j := 0) (q := 1) C rfl rfl dX8_fades_0 rfl ?_
  refine i_callV (wr := []) (As := []) (st := []) (i := 0) (j := 0) (q := 4) C (c_X8_notes K l (am) (st) (bk) (un) (ck) (ty) (tm) (tx) (ln) (rf) (dg) (dn) (rk) (pl) (iw) (wd) (wm) (od) (oc) (24 * N) (by first | assumption | omega) (by first | assumption | omega)) gX8_fades_X8_notes rfl hd_X8_notes ⟨Nat.le_of_ble_eq_true rfl, Nat.le_of_ble_eq_true rfl⟩ ⟨rfl, rfl⟩ ⟨Nat.le_of_ble_eq_true rfl, Nat.le_of_ble_eq_true rfl⟩ (permBy [0] (by decide) rfl rfl) rfl rfl rfl rfl (Nat.le_of_ble_eq_true rfl) dX8_fades_1 rfl (fun v w hq => ?_)
  obtain ⟨bk3_1, un3_1, rfl, rfl, he_1, hk_1⟩ := hq
  show V X 0 0 4 [(0, vP (am 0))] [] [mdW am (st, bk3_1, un3_1, ck, ty, tm, tx, ln, rf, dg, dn, rk, pl, iw, wd, wm, od, oc)]
  refine i_aload_n (j := 0) (q := 5) C rfl rfl dX8_fades_4 rfl ?_
  refine i_callV (wr := []) (As := []) (st := []) (i := 0) (j := 0) (q := 8) C (c_X8_halves K l (am) (st) (bk3_1) (un3_1) (ck) (ty) (tm) (tx) (ln) (rf) (dg) (dn) (rk) (pl) (iw) (wd) (wm) (od) (oc) (24 * N) (by first | assumption | omega)) gX8_fades_X8_halves rfl hd_X8_halves ⟨Nat.le_of_ble_eq_true rfl, Nat.le_of_ble_eq_true rfl⟩ ⟨rfl, rfl⟩ ⟨Nat.le_of_ble_eq_true rfl, Nat.le_of_ble_eq_true rfl⟩ (permBy [0] (by decide) rfl rfl) rfl rfl rfl rfl (Nat.le_of_ble_eq_true rfl) dX8_fades_5 rfl (fun v w hq => ?_)
  obtain ⟨st3_5, rfl, rfl, he_5, hk_5⟩ := hq
  show V X 0 0 8 [(0, vP (am 0))] [] [mdW am (st3_5, bk3_1, un3_1, ck, ty, tm, tx, ln, rf, dg, dn, rk, pl, iw, wd, wm, od, oc)]
  refine i_aload_n (j := 0) (q := 9) C rfl rfl dX8_fades_8 rfl ?_
  refine i_callV (wr := []) (As := []) (st := []) (i := 0) (j := 0) (q := 12) C (c_X8_many K l (am) (st3_5) (bk3_1) (un3_1) (ck) (ty) (tm) (tx) (ln) (rf) (dg) (dn) (rk) (pl) (iw) (wd) (wm) (od) (oc) (24 * N) (hk_5)) gX8_fades_X8_many rfl hd_X8_many ⟨Nat.le_of_ble_eq_true rfl, Nat.le_of_ble_eq_true rfl⟩ ⟨rfl, rfl⟩ ⟨Nat.le_of_ble_eq_true rfl, Nat.le_of_ble_eq_true rfl⟩ (permBy [0] (by decide) rfl rfl) rfl rfl rfl rfl (Nat.le_of_ble_eq_true rfl) dX8_fades_9 rfl (fun v w hq => ?_)
  obtain ⟨rfl, rfl⟩ := hq
  show V X 0 0 12 [(0, vP (am 0))] [vI ((ml st3_5 (st3_5 2800).toNat).length : Int)] [mdW am (st3_5, bk3_1, un3_1, ck, ty, tm, tx, ln, rf, dg, dn, rk, pl, iw, wd, wm, od, oc)]
  refine i_iret C hR dX8_fades_12 ?_
  have hsp : (sp_fades  (absM st bk un ck ty tm tx ln rf)) = (((ml st3_5 (st3_5 2800).toNat).length : Int), absM st3_5 bk3_1 un3_1 ck ty tm tx ln rf) := by
    unfold absM
    simp only [sp_fades]
    rw [← he_1, ← he_5]
    have e1 : (bo st).1.length = (ml st3_5 (st3_5 2800).toNat).length := by
      have := congrArg (fun q => q.1.length) he_5
      simpa [halfB, bo] using this.symm
    rw [e1]
  exact ⟨st3_5, bk3_1, un3_1, by rw [hsp], rfl, by rw [hsp] <;> exact rfl, hm.upd hN (hk_5.up (by omega) (by omega)) (hk_1.up (by omega) (by omega)) hck⟩

theorem lk_X8_undo_46 : Cond.fieldLink RX8 46 (TX8 2).1 (TX8 2).2.1 (TX8 2).2.2.1 ∈ wsX8_undo := List.mem_of_getElem? (i := 1) rfl
theorem hi_X8_undo_X8 : ∀ w ∈ u_ws RX8 TX8 18, w ∈ wsX8_undo := by decide +kernel
theorem lk_X8_undo_14 : Cond.fieldLink RX8 14 (TX8 1).1 (TX8 1).2.1 (TX8 1).2.2.1 ∈ wsX8_undo := List.mem_of_getElem? (i := 2) rfl
theorem lk_X8_undo_7 : Cond.fieldLink RX8 7 (TX8 0).1 (TX8 0).2.1 (TX8 0).2.2.1 ∈ wsX8_undo := List.mem_of_getElem? (i := 3) rfl
set_option maxHeartbeats 400000 in
set_option maxRecDepth 100000 in
theorem c_X8_undo (K : KT) (l : Launch) (am : Nat → Nat) (st : Int → Int) (bk : Int → Int) (un : Int) (ck : Int) (ty : Int → Int) (tm : Int) (tx : Int → Int) (ln : Int) (rf : Int → Int) (dg : Int) (dn : Int → Int) (rk : Int → Int) (pl : Int) (iw : Int) (wd : Int → Int) (wm : Int) (od : Int → Int) (oc : Int) (N : Int) (hm : okM N st bk un ck ty tm tx ln rf) (hN : N < 512) : Mt K l yX8_undo wsX8_undo ({ frames := 1, cells := 0, slots := 0, locals := 25 }) [vP (am 0)] [mdW am (st, bk, un, ck, ty, tm, tx, ln, rf, dg, dn, rk, pl, iw, wd, wm, od, oc)] 0 0 (fun v w => ∃ st3 : Int → Int, ∃ un3 : Int, ∃ rf3 : Int → Int, v = some (vI ((sp_undo  (absM st bk un ck ty tm tx ln rf)).1)) ∧ w = [mdW am (st3, bk, un3, ck, ty, tm, tx, ln, rf3, dg, dn, rk, pl, iw, wd, wm, od, oc)] ∧ (absM st3 bk un3 ck ty tm tx ln rf3 = (sp_undo  (absM st bk un ck ty tm tx ln rf)).2) ∧ (okM (N + 1) st3 bk un3 ck ty tm tx ln rf3)) := by
  refine Mt.of (own := RX8) (cc := cX8_undo) (maxL := 1) (ret := (some .int)) (lv0 := [(0, vP (am 0))]) (by decide) rfl rfl (Nat.le_of_ble_eq_true rfl) rfl (fun X C hR hNm => ?_)
  have hs := hm.hs
  have hgv := hs.gv
  have hN0 := hm.hN
  have hH := hm.hH
  have hck := hm.hck
  have htm := hm.htm
  have hln := hm.hln
  have hun := hH.1
  refine i_aload_n (j := 0) (q := 1) C rfl rfl dX8_undo_0 rfl ?_
  refine i_get (i := 0) (j := 0) (f := 2) (q := 4) C rfl rfl rfl hi_X8_undo_X8 (by decide) lk_X8_undo_46 rfl dX8_undo_1 rfl ?_
  refine i_if_ne (tgt := 12) (q := 7) C (by omega) dX8_undo_4 (by decide) rfl (fun c_4 => ?_) (fun c_4 => ?_)
  · skip
    refine i_aload_n (j := 0) (q := 13) C rfl rfl dX8_undo_12 rfl ?_
    refine i_dup (q := 14) C rfl dX8_undo_13 rfl ?_
    refine i_get (i := 0) (j := 0) (f := 2) (q := 17) C rfl rfl rfl hi_X8_undo_X8 (by decide) lk_X8_undo_46 rfl dX8_undo_14 rfl ?_
    refine i_iconst (q := 18) C dX8_undo_17 rfl ?_
    refine i_isub (q := 19) C dX8_undo_18 rfl ?_
    refine i_putI (i := 0) (j := 0) (f := 2) (q := 22) (cs' := [mdW am (st, bk, un - 1, ck, ty, tm, tx, ln, rf, dg, dn, rk, pl, iw, wd, wm, od, oc)]) C rfl rfl rfl hi_X8_undo_X8 tyX8 tyX8_ok nmX8 (by decide) (Nat.le_of_ble_eq_true rfl) lk_X8_undo_46 rfl rfl dX8_undo_19 rfl rfl ?_
    refine i_aload_n (j := 0) (q := 23) C rfl rfl dX8_undo_22 rfl ?_
    refine i_get (i := 0) (j := 0) (f := 1) (q := 26) C rfl rfl rfl hi_X8_undo_X8 (by decide) lk_X8_undo_14 rfl dX8_undo_23 rfl ?_
    refine i_sipush (q := 29) C (by decide) dX8_undo_26 rfl ?_
    refine i_aload_n (j := 0) (q := 30) C rfl rfl dX8_undo_29 rfl ?_
    refine i_get (i := 0) (j := 0) (f := 2) (q := 33) C rfl rfl rfl hi_X8_undo_X8 (by decide) lk_X8_undo_46 rfl dX8_undo_30 rfl ?_
    refine i_imul (q := 34) C dX8_undo_33 rfl ?_
    refine i_aload_n (j := 0) (q := 35) C rfl rfl dX8_undo_34 rfl ?_
    refine i_get (i := 0) (j := 0) (f := 0) (q := 38) C rfl rfl rfl hi_X8_undo_X8 (by decide) lk_X8_undo_7 rfl dX8_undo_35 rfl ?_
    refine i_iconst (q := 39) C dX8_undo_38 rfl ?_
    refine i_sipush (q := 42) C (by decide) dX8_undo_39 rfl ?_
    refine i_callS (wr := []) (As := [vP (am 2), vI (2803 * (un - 1)), vP (am 1), vI 0, vI 2803]) (st := []) (q := 45) C (c_X8_bring_bk_st K l (am) (st) (bk) (un - 1) (ck) (ty) (tm) (tx) (ln) (rf) (dg) (dn) (rk) (pl) (iw) (wd) (wm) (od) (oc) (2803 * (un - 1)) (0) (2803) (by first | assumption | omega) (by first | assumption | omega) (by first | assumption | omega)) gX8_undo_X8_bring rfl hd_X8_bring ⟨Nat.le_of_ble_eq_true rfl, Nat.le_of_ble_eq_true rfl⟩ ⟨rfl, rfl⟩ ⟨Nat.le_of_ble_eq_true rfl, Nat.le_of_ble_eq_true rfl⟩ (permBy [0] (by decide) rfl rfl) rfl (Nat.le_of_ble_eq_true rfl) dX8_undo_42 rfl (fun v w hq => ?_)
    obtain ⟨rfl, rfl⟩ := hq
    show V X 0 0 45 [(0, vP (am 0))] [] [mdW am (cpy bk (2803 * (un - 1)) st 0 2803, bk, un - 1, ck, ty, tm, tx, ln, rf, dg, dn, rk, pl, iw, wd, wm, od, oc)]
    refine i_aload_n (j := 0) (q := 46) C rfl rfl dX8_undo_45 rfl ?_
    refine i_get (i := 0) (j := 0) (f := 2) (q := 49) C rfl rfl rfl hi_X8_undo_X8 (by decide) lk_X8_undo_46 rfl dX8_undo_46 rfl ?_
    refine i_iret C hR dX8_undo_49 ?_
    have hsp : (sp_undo  (absM st bk un ck ty tm tx ln rf)) = (un - 1, absM (cpy bk (2803 * (un - 1)) st 0 2803) bk (un - 1) ck ty tm tx ln rf) := by
      unfold absM
      simp only [sp_undo]
      obtain ⟨g1, g2, g3⟩ := undo_ok (st := st) hH (by omega)
      rw [if_neg (by rw [hs_len]; omega), g1, g2, hs_len, Int.toNat_of_nonneg hun.1]
    exact ⟨cpy bk (2803 * (un - 1)) st 0 2803, un - 1, rf, by rw [hsp], rfl, by rw [hsp] <;> exact rfl, hm.upd hN ((undo_ok (st := st) hH (by omega)).2.2.1.up (by omega) (by omega)) ((undo_ok (st := st) hH (by omega)).2.2.2.up (by omega) (by omega)) hck⟩
  · skip
    refine i_aload_n (j := 0) (q := 8) C rfl rfl dX8_undo_7 rfl ?_
    refine i_callV (wr := []) (As := []) (st := []) (i := 0) (j := 0) (q := 11) C (c_X8_no K l (am) (st) (bk) (un) (ck) (ty) (tm) (tx) (ln) (rf) (dg) (dn) (rk) (pl) (iw) (wd) (wm) (od) (oc) ) gX8_undo_X8_no rfl hd_X8_no ⟨Nat.le_of_ble_eq_true rfl, Nat.le_of_ble_eq_true rfl⟩ ⟨rfl, rfl⟩ ⟨Nat.le_of_ble_eq_true rfl, Nat.le_of_ble_eq_true rfl⟩ (permBy [0] (by decide) rfl rfl) rfl rfl rfl rfl (Nat.le_of_ble_eq_true rfl) dX8_undo_8 rfl (fun v w hq => ?_)
    obtain ⟨rfl, rfl⟩ := hq
    show V X 0 0 11 [(0, vP (am 0))] [vI (-3)] [mdW am (st, bk, un, ck, ty, tm, tx, ln, up rf 1 (rf 1 + 1), dg, dn, rk, pl, iw, wd, wm, od, oc)]
    refine i_iret C hR dX8_undo_11 ?_
    have hsp : (sp_undo  (absM st bk un ck ty tm tx ln rf)) = (-3, aNo (absM st bk un ck ty tm tx ln rf)) := by
      unfold absM
      simp only [sp_undo]
      rw [if_pos (by rw [hs_len]; omega)]
    exact ⟨st, un, up rf 1 (rf 1 + 1), by rw [hsp], rfl, by rw [hsp] <;> exact absM_no, okM_no hm hN⟩

theorem lk_X8_write_56 : Cond.fieldLink RX8 56 (TX8 7).1 (TX8 7).2.1 (TX8 7).2.2.1 ∈ wsX8_write := List.mem_of_getElem? (i := 1) rfl
theorem hi_X8_write_X8 : ∀ w ∈ u_ws RX8 TX8 18, w ∈ wsX8_write := by decide +kernel
theorem lk_X8_write_20 : Cond.fieldLink RX8 20 (TX8 6).1 (TX8 6).2.1 (TX8 6).2.2.1 ∈ wsX8_write := List.mem_of_getElem? (i := 2) rfl
set_option maxHeartbeats 400000 in
set_option maxRecDepth 100000 in
theorem c_X8_write (K : KT) (l : Launch) (am : Nat → Nat) (st : Int → Int) (bk : Int → Int) (un : Int) (ck : Int) (ty : Int → Int) (tm : Int) (tx : Int → Int) (ln : Int) (rf : Int → Int) (dg : Int) (dn : Int → Int) (rk : Int → Int) (pl : Int) (iw : Int) (wd : Int → Int) (wm : Int) (od : Int → Int) (oc : Int) (N : Int) (x : Int) (hm : okM N st bk un ck ty tm tx ln rf) (hN : N < 512) (hx : rI x) : Mt K l yX8_write wsX8_write ({ frames := 1, cells := 0, slots := 0, locals := 22 }) [vP (am 0), vI x] [mdW am (st, bk, un, ck, ty, tm, tx, ln, rf, dg, dn, rk, pl, iw, wd, wm, od, oc)] 0 0 (fun v w => ∃ tx3 : Int → Int, ∃ ln3 : Int, ∃ rf3 : Int → Int, v = some (vI ((sp_write x (absM st bk un ck ty tm tx ln rf)).1)) ∧ w = [mdW am (st, bk, un, ck, ty, tm, tx3, ln3, rf3, dg, dn, rk, pl, iw, wd, wm, od, oc)] ∧ (absM st bk un ck ty tm tx3 ln3 rf3 = (sp_write x (absM st bk un ck ty tm tx ln rf)).2) ∧ (okM (N + 1) st bk un ck ty tm tx3 ln3 rf3)) := by
  refine Mt.of (own := RX8) (cc := cX8_write) (maxL := 2) (ret := (some .int)) (lv0 := [(0, vP (am 0)), (1, vI x)]) (by decide) rfl rfl (Nat.le_of_ble_eq_true rfl) rfl (fun X C hR hNm => ?_)
  have hs := hm.hs
  have hgv := hs.gv
  have hN0 := hm.hN
  have hH := hm.hH
  have hck := hm.hck
  have htm := hm.htm
  have hln := hm.hln
  have hun := hH.1
  refine i_iload_n (j := 1) (q := 1) C rfl rfl dX8_write_0 rfl ?_
  refine i_iconst (q := 2) C dX8_write_1 rfl ?_
  refine i_bipush (q := 4) C (by decide) dX8_write_2 rfl ?_
  refine i_callS (wr := [mdW am (st, bk, un, ck, ty, tm, tx, ln, rf, dg, dn, rk, pl, iw, wd, wm, od, oc)]) (As := [vI x, vI 0, vI 127]) (st := []) (q := 7) C (c_X8_in K l (x) (0) (127) (by first | assumption | omega) (by first | assumption | omega) (by first | assumption | omega)) gX8_write_X8_in rfl hd_X8_in ⟨Nat.le_of_ble_eq_true rfl, Nat.le_of_ble_eq_true rfl⟩ ⟨rfl, rfl⟩ ⟨Nat.le_of_ble_eq_true rfl, Nat.le_of_ble_eq_true rfl⟩ (permBy [0] (by decide) rfl rfl) rfl (Nat.le_of_ble_eq_true rfl) dX8_write_4 rfl (fun v w hq => ?_)
  obtain ⟨rfl, rfl⟩ := hq
  show V X 0 0 7 [(0, vP (am 0)), (1, vI x)] [vI (if 0 ≤ x ∧ x ≤ 127 then 1 else 0)] [mdW am (st, bk, un, ck, ty, tm, tx, ln, rf, dg, dn, rk, pl, iw, wd, wm, od, oc)]
  refine i_if_ne (tgt := 15) (q := 10) C (if01) dX8_write_7 (by decide) rfl (fun c_7 => ?_) (fun c_7 => ?_)
  · skip
    have h_7 := ifn0 c_7
    refine i_aload_n (j := 0) (q := 16) C rfl rfl dX8_write_15 rfl ?_
    refine i_get (i := 0) (j := 0) (f := 7) (q := 19) C rfl rfl rfl hi_X8_write_X8 (by decide) lk_X8_write_56 rfl dX8_write_16 rfl ?_
    refine i_bipush (q := 21) C (by decide) dX8_write_19 rfl ?_
    refine i_icmp_ne (tgt := 29) (q := 24) C (by omega) (by omega) dX8_write_21 (by decide) rfl (fun c_21 => ?_) (fun c_21 => ?_)
    · skip
      refine i_aload_n (j := 0) (q := 30) C rfl rfl dX8_write_29 rfl ?_
      refine i_get (i := 0) (j := 0) (f := 6) (q := 33) C rfl rfl rfl hi_X8_write_X8 (by decide) lk_X8_write_20 rfl dX8_write_30 rfl ?_
      refine i_aload_n (j := 0) (q := 34) C rfl rfl dX8_write_33 rfl ?_
      refine i_get (i := 0) (j := 0) (f := 7) (q := 37) C rfl rfl rfl hi_X8_write_X8 (by decide) lk_X8_write_56 rfl dX8_write_34 rfl ?_
      refine i_iload_n (j := 1) (q := 38) C rfl rfl dX8_write_37 rfl ?_
      refine i_iast (i := 0) (j := 4) (q := 39) (cs' := [mdW am (st, bk, un, ck, ty, tm, up tx ln x, ln, rf, dg, dn, rk, pl, iw, wd, wm, od, oc)]) C rfl rfl (by omega) dX8_write_38 rfl rfl ?_
      refine i_aload_n (j := 0) (q := 40) C rfl rfl dX8_write_39 rfl ?_
      refine i_dup (q := 41) C rfl dX8_write_40 rfl ?_
      refine i_get (i := 0) (j := 0) (f := 7) (q := 44) C rfl rfl rfl hi_X8_write_X8 (by decide) lk_X8_write_56 rfl dX8_write_41 rfl ?_
      refine i_iconst (q := 45) C dX8_write_44 rfl ?_
      refine i_iadd (q := 46) C dX8_write_45 rfl ?_
      refine i_putI (i := 0) (j := 0) (f := 7) (q := 49) (cs' := [mdW am (st, bk, un, ck, ty, tm, up tx ln x, ln + 1, rf, dg, dn, rk, pl, iw, wd, wm, od, oc)]) C rfl rfl rfl hi_X8_write_X8 tyX8 tyX8_ok nmX8 (by decide) (Nat.le_of_ble_eq_true rfl) lk_X8_write_56 rfl rfl dX8_write_46 rfl rfl ?_
      refine i_aload_n (j := 0) (q := 50) C rfl rfl dX8_write_49 rfl ?_
      refine i_get (i := 0) (j := 0) (f := 7) (q := 53) C rfl rfl rfl hi_X8_write_X8 (by decide) lk_X8_write_56 rfl dX8_write_50 rfl ?_
      refine i_iret C hR dX8_write_53 ?_
      have hsp : (sp_write x (absM st bk un ck ty tm tx ln rf)) = (ln + 1, absM st bk un ck ty tm (up tx ln x) (ln + 1) rf) := by
        unfold absM
        simp only [sp_write]
        rw [if_neg (by omega), if_neg (by rw [rg_len]; omega), rg_len, Int.toNat_of_nonneg hln.1, ← rg_push tx hln.1 x]
      exact ⟨up tx ln x, ln + 1, rf, by rw [hsp], rfl, by rw [hsp] <;> exact rfl, (hm.txt (by omega) (fun k g0 g1 => by
        by_cases e : k = ln
        · subst e; rw [up_s]; omega
        · rw [up_n _ _ e]; exact hm.htx k g0 (by omega))).s hN⟩
    · skip
      refine i_aload_n (j := 0) (q := 25) C rfl rfl dX8_write_24 rfl ?_
      refine i_callV (wr := []) (As := []) (st := []) (i := 0) (j := 0) (q := 28) C (c_X8_full K l (am) (st) (bk) (un) (ck) (ty) (tm) (tx) (ln) (rf) (dg) (dn) (rk) (pl) (iw) (wd) (wm) (od) (oc) ) gX8_write_X8_full rfl hd_X8_full ⟨Nat.le_of_ble_eq_true rfl, Nat.le_of_ble_eq_true rfl⟩ ⟨rfl, rfl⟩ ⟨Nat.le_of_ble_eq_true rfl, Nat.le_of_ble_eq_true rfl⟩ (permBy [0] (by decide) rfl rfl) rfl rfl rfl rfl (Nat.le_of_ble_eq_true rfl) dX8_write_25 rfl (fun v w hq => ?_)
      obtain ⟨rfl, rfl⟩ := hq
      show V X 0 0 28 [(0, vP (am 0)), (1, vI x)] [vI (-4)] [mdW am (st, bk, un, ck, ty, tm, tx, ln, up rf 2 (rf 2 + 1), dg, dn, rk, pl, iw, wd, wm, od, oc)]
      refine i_iret C hR dX8_write_28 ?_
      have hsp : (sp_write x (absM st bk un ck ty tm tx ln rf)) = (-4, aFull (absM st bk un ck ty tm tx ln rf)) := by
        unfold absM
        simp only [sp_write]
        rw [if_neg (by omega), if_pos (by rw [rg_len]; omega)]
      exact ⟨tx, ln, up rf 2 (rf 2 + 1), by rw [hsp], rfl, by rw [hsp] <;> exact absM_full, okM_full hm hN⟩
  · skip
    have h_7 := if0 c_7
    refine i_aload_n (j := 0) (q := 11) C rfl rfl dX8_write_10 rfl ?_
    refine i_callV (wr := []) (As := []) (st := []) (i := 0) (j := 0) (q := 14) C (c_X8_bad K l (am) (st) (bk) (un) (ck) (ty) (tm) (tx) (ln) (rf) (dg) (dn) (rk) (pl) (iw) (wd) (wm) (od) (oc) ) gX8_write_X8_bad rfl hd_X8_bad ⟨Nat.le_of_ble_eq_true rfl, Nat.le_of_ble_eq_true rfl⟩ ⟨rfl, rfl⟩ ⟨Nat.le_of_ble_eq_true rfl, Nat.le_of_ble_eq_true rfl⟩ (permBy [0] (by decide) rfl rfl) rfl rfl rfl rfl (Nat.le_of_ble_eq_true rfl) dX8_write_11 rfl (fun v w hq => ?_)
    obtain ⟨rfl, rfl⟩ := hq
    show V X 0 0 14 [(0, vP (am 0)), (1, vI x)] [vI (-2)] [mdW am (st, bk, un, ck, ty, tm, tx, ln, up rf 0 (rf 0 + 1), dg, dn, rk, pl, iw, wd, wm, od, oc)]
    refine i_iret C hR dX8_write_14 ?_
    have hsp : (sp_write x (absM st bk un ck ty tm tx ln rf)) = (-2, aBad (absM st bk un ck ty tm tx ln rf)) := by
      unfold absM
      simp only [sp_write]
      rw [if_pos (by omega)]
    exact ⟨tx, ln, up rf 0 (rf 0 + 1), by rw [hsp], rfl, by rw [hsp] <;> exact absM_bad, okM_bad hm hN⟩

theorem lk_X8_erase_56 : Cond.fieldLink RX8 56 (TX8 7).1 (TX8 7).2.1 (TX8 7).2.2.1 ∈ wsX8_erase := List.mem_of_getElem? (i := 1) rfl
theorem hi_X8_erase_X8 : ∀ w ∈ u_ws RX8 TX8 18, w ∈ wsX8_erase := by decide +kernel
set_option maxHeartbeats 400000 in
set_option maxRecDepth 100000 in
theorem c_X8_erase (K : KT) (l : Launch) (am : Nat → Nat) (st : Int → Int) (bk : Int → Int) (un : Int) (ck : Int) (ty : Int → Int) (tm : Int) (tx : Int → Int) (ln : Int) (rf : Int → Int) (dg : Int) (dn : Int → Int) (rk : Int → Int) (pl : Int) (iw : Int) (wd : Int → Int) (wm : Int) (od : Int → Int) (oc : Int) (N : Int) (hm : okM N st bk un ck ty tm tx ln rf) (hN : N < 512) : Mt K l yX8_erase wsX8_erase ({ frames := 0, cells := 0, slots := 0, locals := 0 }) [vP (am 0)] [mdW am (st, bk, un, ck, ty, tm, tx, ln, rf, dg, dn, rk, pl, iw, wd, wm, od, oc)] 0 0 (fun v w => ∃ ln3 : Int, v = some (vI ((sp_erase  (absM st bk un ck ty tm tx ln rf)).1)) ∧ w = [mdW am (st, bk, un, ck, ty, tm, tx, ln3, rf, dg, dn, rk, pl, iw, wd, wm, od, oc)] ∧ (absM st bk un ck ty tm tx ln3 rf = (sp_erase  (absM st bk un ck ty tm tx ln rf)).2) ∧ (okM (N + 1) st bk un ck ty tm tx ln3 rf)) := by
  refine Mt.of (own := RX8) (cc := cX8_erase) (maxL := 2) (ret := (some .int)) (lv0 := [(0, vP (am 0))]) (by decide) rfl rfl (Nat.le_of_ble_eq_true rfl) rfl (fun X C hR hNm => ?_)
  have hs := hm.hs
  have hgv := hs.gv
  have hN0 := hm.hN
  have hH := hm.hH
  have hck := hm.hck
  have htm := hm.htm
  have hln := hm.hln
  have hun := hH.1
  refine i_aload_n (j := 0) (q := 1) C rfl rfl dX8_erase_0 rfl ?_
  refine i_get (i := 0) (j := 0) (f := 7) (q := 4) C rfl rfl rfl hi_X8_erase_X8 (by decide) lk_X8_erase_56 rfl dX8_erase_1 rfl ?_
  refine i_istore_n (q := 5) (lv' := [(1, vI ln), (0, vP (am 0))]) C rfl (by decide) rfl dX8_erase_4 rfl ?_
  refine i_aload_n (j := 1) (q := 6) C rfl rfl dX8_erase_5 rfl ?_
  refine i_iconst (q := 7) C dX8_erase_6 rfl ?_
  refine i_putI (i := 0) (j := 0) (f := 7) (q := 10) (cs' := [mdW am (st, bk, un, ck, ty, tm, tx, 0, rf, dg, dn, rk, pl, iw, wd, wm, od, oc)]) C rfl rfl rfl hi_X8_erase_X8 tyX8 tyX8_ok nmX8 (by decide) (Nat.le_of_ble_eq_true rfl) lk_X8_erase_56 rfl rfl dX8_erase_7 rfl rfl ?_
  refine i_iload_n (j := 0) (q := 11) C rfl rfl dX8_erase_10 rfl ?_
  refine i_iret C hR dX8_erase_11 ?_
  have hsp : (sp_erase  (absM st bk un ck ty tm tx ln rf)) = (ln, absM st bk un ck ty tm tx 0 rf) := by
    unfold absM
    simp only [sp_erase]
    rw [rg_len, Int.toNat_of_nonneg hln.1, ← rg_0 tx (n := 0) (by omega)]
  exact ⟨0, by rw [hsp], rfl, by rw [hsp] <;> exact rfl, (hm.txt (by omega) (fun k g0 g1 => by omega)).s hN⟩
