theorem lk_X7_draw_19 : Cond.fieldLink RX7 19 (TX7 1).1 (TX7 1).2.1 (TX7 1).2.2.1 ∈ wsX7_draw := List.mem_of_getElem? (i := 2) rfl
theorem hi_X7_draw_X7 : ∀ w ∈ u_ws RX7 TX7 9, w ∈ wsX7_draw := by decide +kernel
theorem lk_X7_draw_10 : Cond.fieldLink RX7 10 (TX7 0).1 (TX7 0).2.1 (TX7 0).2.2.1 ∈ wsX7_draw := List.mem_of_getElem? (i := 3) rfl
theorem hd_X1_next : yX1_next.cls ≠ "java/lang/invoke/MethodHandle" ∧ yX1_next.cls ≠ "java/lang/invoke/VarHandle" ∧ (parseMethodDescriptor yX1_next.desc).map (fun d => d.parameters.length) = some 1 := by decide +kernel
theorem hd_X1_upper : yX1_upper.cls ≠ "java/lang/invoke/MethodHandle" ∧ yX1_upper.cls ≠ "java/lang/invoke/VarHandle" ∧ (parseMethodDescriptor yX1_upper.desc).map (fun d => d.parameters.length) = some 2 := by decide +kernel
theorem hd_X1_middle : yX1_middle.cls ≠ "java/lang/invoke/MethodHandle" ∧ yX1_middle.cls ≠ "java/lang/invoke/VarHandle" ∧ (parseMethodDescriptor yX1_middle.desc).map (fun d => d.parameters.length) = some 2 := by decide +kernel
theorem hd_X7_comes : yX7_comes.cls = RX7 ∧ yX7_comes.cls ≠ "java/lang/invoke/MethodHandle" ∧ yX7_comes.cls ≠ "java/lang/invoke/VarHandle" ∧ (parseMethodDescriptor yX7_comes.desc).map (fun d => d.parameters.length) = some 3 := by decide +kernel
set_option maxHeartbeats 400000 in
set_option maxRecDepth 100000 in
theorem c_X7_draw (K : KT) (l : Launch) (ax : Nat → Nat) (ap : Nat → Nat) (al : Nat → Nat) (ao : Nat → Nat) (ck : Int) (ba : Int) (no : Int) (fu : Int) (t : List Int) (ab : Nat → Nat) (nu : Int → Int) (wo : Int → Int) (sc : Int → Int) (me : Int → Int) (us : Int → Int) (la : Int → Int) (ct : Int) (gv : Int) (kd : Int) (sl : Int) (ak : Int → Nat → Nat) (nx : Int) (pc : Int) (Bs : Int → Bk) (by_ : Int → Int) (ve : Int → Int) (ow : Int → Int) (fi : Int → Int) (se : Int → Int) (le : Int) (oc : Int) (pl : Int) (fa : Int) (so : Int → Int) (ra : Int → Int) (lc : Int) (o : Bo) (h : List Bo) (tx : List Int) (N : Int) (x : Int) (y : Int) (hC : okC N nu wo sc me us la ct gv kd sl Bs nx pc ((pck t : Nat) : Int) ck ba no fu by_ le (o, h, t, ck, tx, ba, no, fu)) (hN : N < 512) (hx : rI x) (hy : rI y) : Mt K l yX7_draw wsX7_draw ({ frames := 4, cells := 0, slots := 0, locals := 86 }) [vP (ax 0), vI x, vI y] [boW ax ab ap al ao (((pck t : Nat) : Int), ck, ba, no, fu), bkW ab (nu, wo, sc, me, us, la, ct, gv, kd, sl), paW ap ak (nx, pc), kbW ak Bs] 0 0 (fun v w => ∃ ba3 : Int, ∃ nx3 : Int, ∃ pc3 : Int, ∃ Bs3 : Int → Bk, ∃ nu3 : Int → Int, ∃ wo3 : Int → Int, ∃ sc3 : Int → Int, ∃ me3 : Int → Int, ∃ us3 : Int → Int, ∃ la3 : Int → Int, ∃ ct3 : Int, ∃ gv3 : Int, v = some (vI ((sp_draw x y (o, h, t, ck, tx, ba, no, fu)).1)) ∧ w = [boW ax ab ap al ao (((pck t : Nat) : Int), ck, ba3, no, fu), bkW ab (nu3, wo3, sc3, me3, us3, la3, ct3, gv3, kd, sl), paW ap ak (nx3, pc3), kbW ak Bs3] ∧ (okC (N + 1) nu3 wo3 sc3 me3 us3 la3 ct3 gv3 kd sl Bs3 nx3 pc3 ((pck t : Nat) : Int) ck ba3 no fu by_ le (sp_draw x y (o, h, t, ck, tx, ba, no, fu)).2)) := by
  refine Mt.of (own := RX7) (cc := cX7_draw) (maxL := 11) (ret := (some .int)) (lv0 := [(0, vP (ax 0)), (1, vI x), (2, vI y)]) (by decide) rfl rfl (Nat.le_of_ble_eq_true rfl) rfl (fun X C hR hNm => ?_)
  have hb := hC.hb
  have hct := hb.xct
  have hgv := hb.xgv
  have hkd := hb.xkd
  have hsl := hb.xsl
  obtain ⟨ht, hlt⟩ := hC.ht
  have hNN := hC.hN
  have hhx := hC.hh.1
  have hhp := hC.hh.2.1
  have hhl := hC.hh.2.2.1
  have hck := hC.hck
  have hTx := hC.hx
  refine i_iload_n (j := 1) (q := 1) C rfl rfl dX7_draw_0 rfl ?_
  refine i_iconst (q := 2) C dX7_draw_1 rfl ?_
  refine i_ldc (z := 999999) (q := 4) C (List.mem_of_getElem? (i := 1) rfl) dX7_draw_2 rfl ?_
  refine i_callS (wr := [boW ax ab ap al ao (((pck t : Nat) : Int), ck, ba, no, fu), bkW ab (nu, wo, sc, me, us, la, ct, gv, kd, sl), paW ap ak (nx, pc), kbW ak Bs]) (As := [vI x, vI 0, vI 999999]) (st := []) (q := 7) C (c_X7_isWithin K l (x) (0) (999999) (by first | assumption | omega) (by first | assumption | omega) (by first | assumption | omega)) gX7_draw_X7_isWithin rfl hd_X7_isWithin ⟨Nat.le_of_ble_eq_true rfl, Nat.le_of_ble_eq_true rfl⟩ ⟨rfl, rfl⟩ ⟨Nat.le_of_ble_eq_true rfl, Nat.le_of_ble_eq_true rfl⟩ (permBy [0, 1, 2, 3] (by decide) rfl rfl) rfl (Nat.le_of_ble_eq_true rfl) dX7_draw_4 rfl (fun v w hq => ?_)
  obtain ⟨rfl, rfl⟩ := hq
  show V X 0 0 7 [(0, vP (ax 0)), (1, vI x), (2, vI y)] [vI (if 0 ≤ x ∧ x ≤ 999999 then 1 else 0)] [boW ax ab ap al ao (((pck t : Nat) : Int), ck, ba, no, fu), bkW ab (nu, wo, sc, me, us, la, ct, gv, kd, sl), paW ap ak (nx, pc), kbW ak Bs]
  refine i_if_eq (tgt := 20) (q := 10) C (if01) dX7_draw_7 (by decide) rfl (fun c_7 => ?_) (fun c_7 => ?_)
  · skip
    have h_7 := if0 c_7
    refine i_aload_n (j := 0) (q := 21) C rfl rfl dX7_draw_20 rfl ?_
    refine i_callV (wr := [bkW ab (nu, wo, sc, me, us, la, ct, gv, kd, sl), paW ap ak (nx, pc), kbW ak Bs]) (As := []) (st := []) (i := 0) (j := 0) (q := 24) C (c_X7_refuseBad K l (ab) (ax) (ap) (al) (ao) (((pck t : Nat) : Int)) (ck) (ba) (no) (fu) ) gX7_draw_X7_refuseBad rfl hd_X7_refuseBad ⟨Nat.le_of_ble_eq_true rfl, Nat.le_of_ble_eq_true rfl⟩ ⟨rfl, rfl⟩ ⟨Nat.le_of_ble_eq_true rfl, Nat.le_of_ble_eq_true rfl⟩ (permBy [0, 1, 2, 3] (by decide) rfl rfl) rfl rfl rfl rfl (Nat.le_of_ble_eq_true rfl) dX7_draw_21 rfl (fun v w hq => ?_)
    obtain ⟨rfl, rfl⟩ := hq
    show V X 0 0 24 [(0, vP (ax 0)), (1, vI x), (2, vI y)] [vI (-2)] [boW ax ab ap al ao (((pck t : Nat) : Int), ck, ba + 1, no, fu), bkW ab (nu, wo, sc, me, us, la, ct, gv, kd, sl), paW ap ak (nx, pc), kbW ak Bs]
    refine i_iret C hR dX7_draw_24 ?_
    have hsp : (sp_draw x y (o, h, t, ck, tx, ba, no, fu)) = (-2, (o, h, t, ck, tx, ba + 1, no, fu)) := by
      simp only [sp_draw]
      rw [if_neg (fun z => h_7 z.1)]
      rfl
    exact ⟨ba + 1, nx, pc, Bs, nu, wo, sc, me, us, la, ct, gv, by rw [hsp], rfl, by rw [hsp]; exact hC.bad hN⟩
  · skip
    have h_7 := ifn0 c_7
    refine i_iload_n (j := 2) (q := 11) C rfl rfl dX7_draw_10 rfl ?_
    refine i_iconst (q := 12) C dX7_draw_11 rfl ?_
    refine i_bipush (q := 14) C (by decide) dX7_draw_12 rfl ?_
    refine i_callS (wr := [boW ax ab ap al ao (((pck t : Nat) : Int), ck, ba, no, fu), bkW ab (nu, wo, sc, me, us, la, ct, gv, kd, sl), paW ap ak (nx, pc), kbW ak Bs]) (As := [vI y, vI 1, vI 9]) (st := []) (q := 17) C (c_X7_isWithin K l (y) (1) (9) (by first | assumption | omega) (by first | assumption | omega) (by first | assumption | omega)) gX7_draw_X7_isWithin rfl hd_X7_isWithin ⟨Nat.le_of_ble_eq_true rfl, Nat.le_of_ble_eq_true rfl⟩ ⟨rfl, rfl⟩ ⟨Nat.le_of_ble_eq_true rfl, Nat.le_of_ble_eq_true rfl⟩ (permBy [0, 1, 2, 3] (by decide) rfl rfl) rfl (Nat.le_of_ble_eq_true rfl) dX7_draw_14 rfl (fun v w hq => ?_)
    obtain ⟨rfl, rfl⟩ := hq
    show V X 0 0 17 [(0, vP (ax 0)), (1, vI x), (2, vI y)] [vI (if 1 ≤ y ∧ y ≤ 9 then 1 else 0)] [boW ax ab ap al ao (((pck t : Nat) : Int), ck, ba, no, fu), bkW ab (nu, wo, sc, me, us, la, ct, gv, kd, sl), paW ap ak (nx, pc), kbW ak Bs]
    refine i_if_ne (tgt := 25) (q := 20) C (if01) dX7_draw_17 (by decide) rfl (fun c_17 => ?_) (fun c_17 => ?_)
    · skip
      have h_17 := ifn0 c_17
      refine i_aload_n (j := 0) (q := 26) C rfl rfl dX7_draw_25 rfl ?_
      refine i_get (i := 0) (j := 0) (f := 1) (q := 29) C rfl rfl rfl hi_X7_draw_X7 (by decide) lk_X7_draw_19 rfl dX7_draw_26 rfl ?_
      refine i_aload_n (j := 0) (q := 30) C rfl rfl dX7_draw_29 rfl ?_
      refine i_get (i := 0) (j := 0) (f := 0) (q := 33) C rfl rfl rfl hi_X7_draw_X7 (by decide) lk_X7_draw_10 rfl dX7_draw_30 rfl ?_
      refine i_callV (wr := [boW ax ab ap al ao (((pck t : Nat) : Int), ck, ba, no, fu)]) (As := [vP (ab 0)]) (st := []) (i := 0) (j := 0) (q := 36) C (c_X4_remember K l (ap) (ak) (nx) (pc) (Bs) (ab) (nu) (wo) (sc) (me) (us) (la) (ct) (gv) (kd) (sl) (by omega) (by omega) (by omega)) gX7_draw_X4_remember rfl hd_X4_remember ⟨Nat.le_of_ble_eq_true rfl, Nat.le_of_ble_eq_true rfl⟩ ⟨rfl, rfl⟩ ⟨Nat.le_of_ble_eq_true rfl, Nat.le_of_ble_eq_true rfl⟩ (permBy [2, 1, 3, 0] (by decide) rfl rfl) rfl rfl rfl rfl (Nat.le_of_ble_eq_true rfl) dX7_draw_33 rfl (fun v w hq => ?_)
      obtain ⟨nu3_33, wo3_33, sc3_33, me3_33, us3_33, la3_33, rfl, rfl, hc_33⟩ := hq
      show V X 0 0 36 [(0, vP (ax 0)), (1, vI x), (2, vI y)] [] [paW ap ak (if nx + 1 < 12 then nx + 1 else 0, min (pc + 1) 12), bkW ab (nu, wo, sc, me, us, la, ct, gv, kd, sl), kbW ak (up Bs nx (nu3_33, wo3_33, sc3_33, me3_33, us3_33, la3_33, ct, gv, kd, sl)), boW ax ab ap al ao (((pck t : Nat) : Int), ck, ba, no, fu)]
      refine V.perm (cs' := [boW ax ab ap al ao (((pck t : Nat) : Int), ck, ba, no, fu), bkW ab (nu, wo, sc, me, us, la, ct, gv, kd, sl), paW ap ak (if nx + 1 < 12 then nx + 1 else 0, min (pc + 1) 12), kbW ak (up Bs nx (nu3_33, wo3_33, sc3_33, me3_33, us3_33, la3_33, ct, gv, kd, sl))]) (permBy [3, 1, 0, 2] (by decide) rfl rfl) ?_
      refine i_iconst (q := 37) C dX7_draw_36 rfl ?_
      refine i_istore_n (q := 38) (lv' := [(3, vI 0), (0, vP (ax 0)), (1, vI x), (2, vI y)]) C rfl (by decide) rfl dX7_draw_37 rfl ?_
      refine i_iload_n (j := 2) (q := 39) C rfl rfl dX7_draw_38 rfl ?_
      refine i_i2l (q := 40) C (by omega) dX7_draw_39 rfl ?_
      refine i_lstore (q := 42) (lv' := [(4, vJ x), (3, vI 0), (0, vP (ax 0)), (1, vI x), (2, vI y)]) C (by decide) rfl dX7_draw_40 rfl ?_
      refine i_iconst (q := 43) C dX7_draw_42 rfl ?_
      refine i_istore (q := 45) (lv' := [(6, vI 0), (4, vJ x), (3, vI 0), (0, vP (ax 0)), (1, vI x), (2, vI y)]) C (by decide) rfl dX7_draw_43 rfl ?_
      have loop_45 : ∀ (fuel : Nat) (i : Int) (m : Int) (xx : Int) (o4 : Bo) (nu4 : Int → Int) (wo4 : Int → Int) (sc4 : Int → Int) (me4 : Int → Int) (us4 : Int → Int) (la4 : Int → Int) (ct4 : Int) (gv4 : Int), ((y - i).toNat) < fuel → (0 ≤ i ∧ i ≤ y) → (0 ≤ xx ∧ xx < 2147483648) → (drN i.toNat (o, x, 0) = (o4, xx, m)) → (rpB (24 * N) nu4 wo4 sc4 me4 us4 la4 ct4 gv4 kd sl o4) → V X 0 0 45 [(0, vP (ax 0)), (1, vI x), (2, vI y), (3, vI m), (4, vJ xx), (6, vI i)] [] [boW ax ab ap al ao (((pck t : Nat) : Int), ck, ba, no, fu), bkW ab (nu4, wo4, sc4, me4, us4, la4, ct4, gv4, kd, sl), paW ap ak (if nx + 1 < 12 then nx + 1 else 0, min (pc + 1) 12), kbW ak (up Bs nx (nu3_33, wo3_33, sc3_33, me3_33, us3_33, la3_33, ct, gv, kd, sl))] := by
        intro fuel
        induction fuel with
        | zero => intro i m xx o4 nu4 wo4 sc4 me4 us4 la4 ct4 gv4 hz; exact absurd hz (Nat.not_lt_zero _)
        | succ fuel ih_45 =>
          intro i m xx o4 nu4 wo4 sc4 me4 us4 la4 ct4 gv4 hfu_45 hi hxx hq hb4
          refine i_iload (j := 5) (q := 47) C rfl dX7_draw_45 rfl ?_
          refine i_iload_n (j := 2) (q := 48) C rfl rfl dX7_draw_47 rfl ?_
          refine i_icmp_ge (tgt := 148) (q := 51) C (by omega) (by omega) dX7_draw_48 (by decide) rfl (fun c_48 => ?_) (fun c_48 => ?_)
          · skip
            refine i_iload_n (j := 3) (q := 149) C rfl rfl dX7_draw_148 rfl ?_
            refine i_iret C hR dX7_draw_149 ?_
            have hsp : (sp_draw x y (o, h, t, ck, tx, ba, no, fu)) = (m, (o4, noteH h o, t, ck, tx, ba, no, fu)) := by
              simp only [sp_draw]
              rw [if_pos ⟨h_7, h_17⟩]
              rw [show y.toNat = i.toNat by omega, hq]
            exact ⟨ba, if nx + 1 < 12 then nx + 1 else 0, min (pc + 1) 12, up Bs nx (nu3_33, wo3_33, sc3_33, me3_33, us3_33, la3_33, ct, gv, kd, sl), nu4, wo4, sc4, me4, us4, la4, ct4, gv4, by rw [hsp], rfl, by rw [hsp]; exact hC.upd hN (hb4.grow (by omega) (by omega)) ((hC.hhG hN).note (B := (nu3_33, wo3_33, sc3_33, me3_33, us3_33, la3_33, ct, gv, kd, sl)) ((hC.hbG hN).ext hc_33)) ⟨ht, hlt⟩ hck hC.hx⟩
          · skip
            refine i_lload (j := 4) (q := 53) C rfl dX7_draw_51 rfl ?_
            refine i_callS (wr := [boW ax ab ap al ao (((pck t : Nat) : Int), ck, ba, no, fu), bkW ab (nu4, wo4, sc4, me4, us4, la4, ct4, gv4, kd, sl), paW ap ak (if nx + 1 < 12 then nx + 1 else 0, min (pc + 1) 12), kbW ak (up Bs nx (nu3_33, wo3_33, sc3_33, me3_33, us3_33, la3_33, ct, gv, kd, sl))]) (As := [vJ xx]) (st := []) (q := 56) C (c_X1_next K l (xx) (by omega)) gX7_draw_X1_next rfl hd_X1_next ⟨Nat.le_of_ble_eq_true rfl, Nat.le_of_ble_eq_true rfl⟩ ⟨rfl, rfl⟩ ⟨Nat.le_of_ble_eq_true rfl, Nat.le_of_ble_eq_true rfl⟩ (permBy [0, 1, 2, 3] (by decide) rfl rfl) rfl (Nat.le_of_ble_eq_true rfl) dX7_draw_53 rfl (fun v w hq => ?_)
            obtain ⟨rfl, rfl⟩ := hq
            show V X 0 0 56 [(0, vP (ax 0)), (1, vI x), (2, vI y), (3, vI m), (4, vJ xx), (6, vI i)] [vJ (nxt xx)] [boW ax ab ap al ao (((pck t : Nat) : Int), ck, ba, no, fu), bkW ab (nu4, wo4, sc4, me4, us4, la4, ct4, gv4, kd, sl), paW ap ak (if nx + 1 < 12 then nx + 1 else 0, min (pc + 1) 12), kbW ak (up Bs nx (nu3_33, wo3_33, sc3_33, me3_33, us3_33, la3_33, ct, gv, kd, sl))]
            refine i_lstore (q := 58) (lv' := [(4, vJ (nxt xx)), (0, vP (ax 0)), (1, vI x), (2, vI y), (3, vI m), (6, vI i)]) C (by decide) rfl dX7_draw_56 rfl ?_
            refine i_lload (j := 0) (q := 60) C rfl dX7_draw_58 rfl ?_
            refine i_iconst (q := 61) C dX7_draw_60 rfl ?_
            refine i_callS (wr := [boW ax ab ap al ao (((pck t : Nat) : Int), ck, ba, no, fu), bkW ab (nu4, wo4, sc4, me4, us4, la4, ct4, gv4, kd, sl), paW ap ak (if nx + 1 < 12 then nx + 1 else 0, min (pc + 1) 12), kbW ak (up Bs nx (nu3_33, wo3_33, sc3_33, me3_33, us3_33, la3_33, ct, gv, kd, sl))]) (As := [vJ (nxt xx), vI 5]) (st := []) (q := 64) C (c_X1_upper K l (nxt xx) (5) (by first | exact nxt_in (by omega) | omega) (by omega)) gX7_draw_X1_upper rfl hd_X1_upper ⟨Nat.le_of_ble_eq_true rfl, Nat.le_of_ble_eq_true rfl⟩ ⟨rfl, rfl⟩ ⟨Nat.le_of_ble_eq_true rfl, Nat.le_of_ble_eq_true rfl⟩ (permBy [0, 1, 2, 3] (by decide) rfl rfl) rfl (Nat.le_of_ble_eq_true rfl) dX7_draw_61 rfl (fun v w hq => ?_)
            obtain ⟨rfl, rfl⟩ := hq
            show V X 0 0 64 [(4, vJ (nxt xx)), (0, vP (ax 0)), (1, vI x), (2, vI y), (3, vI m), (6, vI i)] [vI ((nxt xx) / 65536 % 5)] [boW ax ab ap al ao (((pck t : Nat) : Int), ck, ba, no, fu), bkW ab (nu4, wo4, sc4, me4, us4, la4, ct4, gv4, kd, sl), paW ap ak (if nx + 1 < 12 then nx + 1 else 0, min (pc + 1) 12), kbW ak (up Bs nx (nu3_33, wo3_33, sc3_33, me3_33, us3_33, la3_33, ct, gv, kd, sl))]
            refine i_iconst (q := 65) C dX7_draw_64 rfl ?_
            refine i_iadd (q := 66) C dX7_draw_65 rfl ?_
            refine i_istore (q := 68) (lv' := [(7, vI (((nxt xx) / 65536 % 5) + 1)), (4, vJ (nxt xx)), (0, vP (ax 0)), (1, vI x), (2, vI y), (3, vI m), (6, vI i)]) C (by decide) rfl dX7_draw_66 rfl ?_
            refine i_lconst (z := 0) (q := 69) C (by decide) dX7_draw_68 rfl ?_
            refine i_lstore (q := 71) (lv' := [(8, vJ 0), (7, vI (((nxt xx) / 65536 % 5) + 1)), (4, vJ (nxt xx)), (0, vP (ax 0)), (1, vI x), (2, vI y), (3, vI m), (6, vI i)]) C (by decide) rfl dX7_draw_69 rfl ?_
            refine i_iconst (q := 72) C dX7_draw_71 rfl ?_
            refine i_istore (q := 74) (lv' := [(10, vI 0), (8, vJ 0), (7, vI (((nxt xx) / 65536 % 5) + 1)), (4, vJ (nxt xx)), (0, vP (ax 0)), (1, vI x), (2, vI y), (3, vI m), (6, vI i)]) C (by decide) rfl dX7_draw_72 rfl ?_
            have loop_74 : ∀ (fuel : Nat) (k : Int) (x2 : Int) (wl : List Int), ((nxt xx / 65536 % 5 + 1 - k).toNat) < fuel → (0 ≤ k ∧ k ≤ nxt xx / 65536 % 5 + 1) → (0 ≤ x2 ∧ x2 < 2147483648) → (drL k.toNat (nxt xx) = (wl, x2)) → (okL wl) → ((wl.length : Int) = k) → V X 0 0 74 [(0, vP (ax 0)), (1, vI x), (2, vI y), (3, vI m), (4, vJ x2), (6, vI i), (7, vI (((nxt xx) / 65536 % 5) + 1)), (8, vJ (((pck wl : Nat) : Int))), (10, vI k)] [] [boW ax ab ap al ao (((pck t : Nat) : Int), ck, ba, no, fu), bkW ab (nu4, wo4, sc4, me4, us4, la4, ct4, gv4, kd, sl), paW ap ak (if nx + 1 < 12 then nx + 1 else 0, min (pc + 1) 12), kbW ak (up Bs nx (nu3_33, wo3_33, sc3_33, me3_33, us3_33, la3_33, ct, gv, kd, sl))] := by
              intro fuel
              induction fuel with
              | zero => intro k x2 wl hz; exact absurd hz (Nat.not_lt_zero _)
              | succ fuel ih_74 =>
                intro k x2 wl hfu_74 hk hx2 hw hwl hwk
                refine i_iload (j := 8) (q := 76) C rfl dX7_draw_74 rfl ?_
                refine i_iload (j := 6) (q := 78) C rfl dX7_draw_76 rfl ?_
                refine i_icmp_ge (tgt := 108) (q := 81) C (by omega) (by omega) dX7_draw_78 (by decide) rfl (fun c_78 => ?_) (fun c_78 => ?_)
                · skip
                  refine i_lload (j := 4) (q := 110) C rfl dX7_draw_108 rfl ?_
                  refine i_callS (wr := [boW ax ab ap al ao (((pck t : Nat) : Int), ck, ba, no, fu), bkW ab (nu4, wo4, sc4, me4, us4, la4, ct4, gv4, kd, sl), paW ap ak (if nx + 1 < 12 then nx + 1 else 0, min (pc + 1) 12), kbW ak (up Bs nx (nu3_33, wo3_33, sc3_33, me3_33, us3_33, la3_33, ct, gv, kd, sl))]) (As := [vJ x2]) (st := []) (q := 113) C (c_X1_next K l (x2) (by omega)) gX7_draw_X1_next rfl hd_X1_next ⟨Nat.le_of_ble_eq_true rfl, Nat.le_of_ble_eq_true rfl⟩ ⟨rfl, rfl⟩ ⟨Nat.le_of_ble_eq_true rfl, Nat.le_of_ble_eq_true rfl⟩ (permBy [0, 1, 2, 3] (by decide) rfl rfl) rfl (Nat.le_of_ble_eq_true rfl) dX7_draw_110 rfl (fun v w hq => ?_)
                  obtain ⟨rfl, rfl⟩ := hq
                  show V X 0 0 113 [(0, vP (ax 0)), (1, vI x), (2, vI y), (3, vI m), (4, vJ x2), (6, vI i), (7, vI (((nxt xx) / 65536 % 5) + 1)), (8, vJ (((pck wl : Nat) : Int))), (10, vI k)] [vJ (nxt x2)] [boW ax ab ap al ao (((pck t : Nat) : Int), ck, ba, no, fu), bkW ab (nu4, wo4, sc4, me4, us4, la4, ct4, gv4, kd, sl), paW ap ak (if nx + 1 < 12 then nx + 1 else 0, min (pc + 1) 12), kbW ak (up Bs nx (nu3_33, wo3_33, sc3_33, me3_33, us3_33, la3_33, ct, gv, kd, sl))]
                  refine i_lstore (q := 115) (lv' := [(4, vJ (nxt x2)), (0, vP (ax 0)), (1, vI x), (2, vI y), (3, vI m), (6, vI i), (7, vI (((nxt xx) / 65536 % 5) + 1)), (8, vJ (((pck wl : Nat) : Int))), (10, vI k)]) C (by decide) rfl dX7_draw_113 rfl ?_
                  refine i_aload_n (j := 1) (q := 116) C rfl rfl dX7_draw_115 rfl ?_
                  refine i_lload (j := 7) (q := 118) C rfl dX7_draw_116 rfl ?_
                  refine i_lload (j := 0) (q := 120) C rfl dX7_draw_118 rfl ?_
                  refine i_sipush (q := 123) C (by decide) dX7_draw_120 rfl ?_
                  refine i_callS (wr := [boW ax ab ap al ao (((pck t : Nat) : Int), ck, ba, no, fu), bkW ab (nu4, wo4, sc4, me4, us4, la4, ct4, gv4, kd, sl), paW ap ak (if nx + 1 < 12 then nx + 1 else 0, min (pc + 1) 12), kbW ak (up Bs nx (nu3_33, wo3_33, sc3_33, me3_33, us3_33, la3_33, ct, gv, kd, sl))]) (As := [vJ (nxt x2), vI 1001]) (st := [vJ (((pck wl : Nat) : Int)), vP (ax 0)]) (q := 126) C (c_X1_upper K l (nxt x2) (1001) (by first | exact nxt_in (by omega) | omega) (by omega)) gX7_draw_X1_upper rfl hd_X1_upper ⟨Nat.le_of_ble_eq_true rfl, Nat.le_of_ble_eq_true rfl⟩ ⟨rfl, rfl⟩ ⟨Nat.le_of_ble_eq_true rfl, Nat.le_of_ble_eq_true rfl⟩ (permBy [0, 1, 2, 3] (by decide) rfl rfl) rfl (Nat.le_of_ble_eq_true rfl) dX7_draw_123 rfl (fun v w hq => ?_)
                  obtain ⟨rfl, rfl⟩ := hq
                  show V X 0 0 126 [(4, vJ (nxt x2)), (0, vP (ax 0)), (1, vI x), (2, vI y), (3, vI m), (6, vI i), (7, vI (((nxt xx) / 65536 % 5) + 1)), (8, vJ (((pck wl : Nat) : Int))), (10, vI k)] [vI ((nxt x2) / 65536 % 1001), vJ (((pck wl : Nat) : Int)), vP (ax 0)] [boW ax ab ap al ao (((pck t : Nat) : Int), ck, ba, no, fu), bkW ab (nu4, wo4, sc4, me4, us4, la4, ct4, gv4, kd, sl), paW ap ak (if nx + 1 < 12 then nx + 1 else 0, min (pc + 1) 12), kbW ak (up Bs nx (nu3_33, wo3_33, sc3_33, me3_33, us3_33, la3_33, ct, gv, kd, sl))]
                  refine i_lload (j := 0) (q := 128) C rfl dX7_draw_126 rfl ?_
                  refine i_bipush (q := 130) C (by decide) dX7_draw_128 rfl ?_
                  refine i_callS (wr := [boW ax ab ap al ao (((pck t : Nat) : Int), ck, ba, no, fu), bkW ab (nu4, wo4, sc4, me4, us4, la4, ct4, gv4, kd, sl), paW ap ak (if nx + 1 < 12 then nx + 1 else 0, min (pc + 1) 12), kbW ak (up Bs nx (nu3_33, wo3_33, sc3_33, me3_33, us3_33, la3_33, ct, gv, kd, sl))]) (As := [vJ (nxt x2), vI 10]) (st := [vI ((nxt x2) / 65536 % 1001), vJ (((pck wl : Nat) : Int)), vP (ax 0)]) (q := 133) C (c_X1_middle K l (nxt x2) (10) (by exact nxt_in (by omega)) (by omega)) gX7_draw_X1_middle rfl hd_X1_middle ⟨Nat.le_of_ble_eq_true rfl, Nat.le_of_ble_eq_true rfl⟩ ⟨rfl, rfl⟩ ⟨Nat.le_of_ble_eq_true rfl, Nat.le_of_ble_eq_true rfl⟩ (permBy [0, 1, 2, 3] (by decide) rfl rfl) rfl (Nat.le_of_ble_eq_true rfl) dX7_draw_130 rfl (fun v w hq => ?_)
                  obtain ⟨rfl, rfl⟩ := hq
                  show V X 0 0 133 [(4, vJ (nxt x2)), (0, vP (ax 0)), (1, vI x), (2, vI y), (3, vI m), (6, vI i), (7, vI (((nxt xx) / 65536 % 5) + 1)), (8, vJ (((pck wl : Nat) : Int))), (10, vI k)] [vI ((nxt x2) / 1024 % 10), vI ((nxt x2) / 65536 % 1001), vJ (((pck wl : Nat) : Int)), vP (ax 0)] [boW ax ab ap al ao (((pck t : Nat) : Int), ck, ba, no, fu), bkW ab (nu4, wo4, sc4, me4, us4, la4, ct4, gv4, kd, sl), paW ap ak (if nx + 1 < 12 then nx + 1 else 0, min (pc + 1) 12), kbW ak (up Bs nx (nu3_33, wo3_33, sc3_33, me3_33, us3_33, la3_33, ct, gv, kd, sl))]
                  refine i_callV (wr := [paW ap ak (if nx + 1 < 12 then nx + 1 else 0, min (pc + 1) 12), kbW ak (up Bs nx (nu3_33, wo3_33, sc3_33, me3_33, us3_33, la3_33, ct, gv, kd, sl))]) (As := [vJ (((pck wl : Nat) : Int)), vI ((nxt x2) / 65536 % 1001), vI ((nxt x2) / 1024 % 10)]) (st := []) (i := 0) (j := 0) (q := 136) C (c_X7_comes K l (ax) (ap) (al) (ao) (ck) (ba) (no) (fu) (t) (ab) (nu4) (wo4) (sc4) (me4) (us4) (la4) (ct4) (gv4) (kd) (sl) (24 * N) (o4) (wl) ((nxt x2) / 65536 % 1001) ((nxt x2) / 1024 % 10) (hb4) (hwl) (by omega) (by omega) (by omega)) gX7_draw_X7_comes rfl hd_X7_comes ⟨Nat.le_of_ble_eq_true rfl, Nat.le_of_ble_eq_true rfl⟩ ⟨rfl, rfl⟩ ⟨Nat.le_of_ble_eq_true rfl, Nat.le_of_ble_eq_true rfl⟩ (permBy [0, 1, 2, 3] (by decide) rfl rfl) rfl rfl rfl rfl (Nat.le_of_ble_eq_true rfl) dX7_draw_133 rfl (fun v w hq => ?_)
                  obtain ⟨nu3_133, wo3_133, sc3_133, me3_133, us3_133, la3_133, ct3_133, gv3_133, rfl, rfl, hb3_133⟩ := hq
                  show V X 0 0 136 [(4, vJ (nxt x2)), (0, vP (ax 0)), (1, vI x), (2, vI y), (3, vI m), (6, vI i), (7, vI (((nxt xx) / 65536 % 5) + 1)), (8, vJ (((pck wl : Nat) : Int))), (10, vI k)] [vI (if hasB o4 wl = false ∧ roomB o4 = true then 1 else 0)] [boW ax ab ap al ao (((pck t : Nat) : Int), ck, ba, no, fu), bkW ab (nu3_133, wo3_133, sc3_133, me3_133, us3_133, la3_133, ct3_133, gv3_133, kd, sl), paW ap ak (if nx + 1 < 12 then nx + 1 else 0, min (pc + 1) 12), kbW ak (up Bs nx (nu3_33, wo3_33, sc3_33, me3_33, us3_33, la3_33, ct, gv, kd, sl))]
                  refine i_if_eq (tgt := 142) (q := 139) C (if01) dX7_draw_136 (by decide) rfl (fun c_136 => ?_) (fun c_136 => ?_)
                  · skip
                    have h_136 := if0 c_136
                    refine i_iinc (j := 5) (q := 145) (lv' := [(6, vI (i + 1)), (4, vJ (nxt x2)), (0, vP (ax 0)), (1, vI x), (2, vI y), (3, vI m), (7, vI (((nxt xx) / 65536 % 5) + 1)), (8, vJ (((pck wl : Nat) : Int))), (10, vI k)]) C rfl (by decide) rfl dX7_draw_142 rfl ?_
                    refine i_goto (q := 45) C dX7_draw_145 (by decide) ?_
                    refine V.lv [2, 3, 4, 5, 1, 0] rfl ?_
                    exact ih_45 (i + 1) (m) (nxt x2) (if hasB o4 wl = false ∧ roomB o4 = true then addB o4 wl (nxt x2 / 65536 % 1001) (nxt x2 / 1024 % 10) else o4) (nu3_133) (wo3_133) (sc3_133) (me3_133) (us3_133) (la3_133) (ct3_133) (gv3_133) (by omega) (by omega) (nxt_in (by omega)) (by
                      rw [drN_s _ hi.1, hq]
                      have e5 : drL (nxt xx / 65536 % 5 + 1).toNat (nxt xx) = (wl, x2) := by rw [← hw]; congr 1; omega
                      unfold dr1
                      simp only [e5]
                      first
                        | exact (by rw [if_neg h_136, if_neg h_136])
                        | exact (by rw [if_pos h_136, if_pos h_136])) (hb3_133)
                  · skip
                    have h_136 := ifn0 c_136
                    refine i_iinc (j := 4) (q := 142) (lv' := [(3, vI (m + 1)), (4, vJ (nxt x2)), (0, vP (ax 0)), (1, vI x), (2, vI y), (6, vI i), (7, vI (((nxt xx) / 65536 % 5) + 1)), (8, vJ (((pck wl : Nat) : Int))), (10, vI k)]) C rfl (by decide) rfl dX7_draw_139 rfl ?_
                    refine i_iinc (j := 5) (q := 145) (lv' := [(6, vI (i + 1)), (3, vI (m + 1)), (4, vJ (nxt x2)), (0, vP (ax 0)), (1, vI x), (2, vI y), (7, vI (((nxt xx) / 65536 % 5) + 1)), (8, vJ (((pck wl : Nat) : Int))), (10, vI k)]) C rfl (by decide) rfl dX7_draw_142 rfl ?_
                    refine i_goto (q := 45) C dX7_draw_145 (by decide) ?_
                    refine V.lv [3, 4, 5, 1, 2, 0] rfl ?_
                    exact ih_45 (i + 1) (m + 1) (nxt x2) (if hasB o4 wl = false ∧ roomB o4 = true then addB o4 wl (nxt x2 / 65536 % 1001) (nxt x2 / 1024 % 10) else o4) (nu3_133) (wo3_133) (sc3_133) (me3_133) (us3_133) (la3_133) (ct3_133) (gv3_133) (by omega) (by omega) (nxt_in (by omega)) (by
                      rw [drN_s _ hi.1, hq]
                      have e5 : drL (nxt xx / 65536 % 5 + 1).toNat (nxt xx) = (wl, x2) := by rw [← hw]; congr 1; omega
                      unfold dr1
                      simp only [e5]
                      first
                        | exact (by rw [if_neg h_136, if_neg h_136])
                        | exact (by rw [if_pos h_136, if_pos h_136])) (hb3_133)
                · skip
                  refine i_lload (j := 4) (q := 83) C rfl dX7_draw_81 rfl ?_
                  refine i_callS (wr := [boW ax ab ap al ao (((pck t : Nat) : Int), ck, ba, no, fu), bkW ab (nu4, wo4, sc4, me4, us4, la4, ct4, gv4, kd, sl), paW ap ak (if nx + 1 < 12 then nx + 1 else 0, min (pc + 1) 12), kbW ak (up Bs nx (nu3_33, wo3_33, sc3_33, me3_33, us3_33, la3_33, ct, gv, kd, sl))]) (As := [vJ x2]) (st := []) (q := 86) C (c_X1_next K l (x2) (by omega)) gX7_draw_X1_next rfl hd_X1_next ⟨Nat.le_of_ble_eq_true rfl, Nat.le_of_ble_eq_true rfl⟩ ⟨rfl, rfl⟩ ⟨Nat.le_of_ble_eq_true rfl, Nat.le_of_ble_eq_true rfl⟩ (permBy [0, 1, 2, 3] (by decide) rfl rfl) rfl (Nat.le_of_ble_eq_true rfl) dX7_draw_83 rfl (fun v w hq => ?_)
                  obtain ⟨rfl, rfl⟩ := hq
                  show V X 0 0 86 [(0, vP (ax 0)), (1, vI x), (2, vI y), (3, vI m), (4, vJ x2), (6, vI i), (7, vI (((nxt xx) / 65536 % 5) + 1)), (8, vJ (((pck wl : Nat) : Int))), (10, vI k)] [vJ (nxt x2)] [boW ax ab ap al ao (((pck t : Nat) : Int), ck, ba, no, fu), bkW ab (nu4, wo4, sc4, me4, us4, la4, ct4, gv4, kd, sl), paW ap ak (if nx + 1 < 12 then nx + 1 else 0, min (pc + 1) 12), kbW ak (up Bs nx (nu3_33, wo3_33, sc3_33, me3_33, us3_33, la3_33, ct, gv, kd, sl))]
                  refine i_lstore (q := 88) (lv' := [(4, vJ (nxt x2)), (0, vP (ax 0)), (1, vI x), (2, vI y), (3, vI m), (6, vI i), (7, vI (((nxt xx) / 65536 % 5) + 1)), (8, vJ (((pck wl : Nat) : Int))), (10, vI k)]) C (by decide) rfl dX7_draw_86 rfl ?_
                  refine i_lload (j := 7) (q := 90) C rfl dX7_draw_88 rfl ?_
                  refine i_lload (j := 0) (q := 92) C rfl dX7_draw_90 rfl ?_
                  refine i_bipush (q := 94) C (by decide) dX7_draw_92 rfl ?_
                  refine i_callS (wr := [boW ax ab ap al ao (((pck t : Nat) : Int), ck, ba, no, fu), bkW ab (nu4, wo4, sc4, me4, us4, la4, ct4, gv4, kd, sl), paW ap ak (if nx + 1 < 12 then nx + 1 else 0, min (pc + 1) 12), kbW ak (up Bs nx (nu3_33, wo3_33, sc3_33, me3_33, us3_33, la3_33, ct, gv, kd, sl))]) (As := [vJ (nxt x2), vI 8]) (st := [vJ (((pck wl : Nat) : Int))]) (q := 97) C (c_X1_upper K l (nxt x2) (8) (by first | exact nxt_in (by omega) | omega) (by omega)) gX7_draw_X1_upper rfl hd_X1_upper ⟨Nat.le_of_ble_eq_true rfl, Nat.le_of_ble_eq_true rfl⟩ ⟨rfl, rfl⟩ ⟨Nat.le_of_ble_eq_true rfl, Nat.le_of_ble_eq_true rfl⟩ (permBy [0, 1, 2, 3] (by decide) rfl rfl) rfl (Nat.le_of_ble_eq_true rfl) dX7_draw_94 rfl (fun v w hq => ?_)
                  obtain ⟨rfl, rfl⟩ := hq
                  show V X 0 0 97 [(4, vJ (nxt x2)), (0, vP (ax 0)), (1, vI x), (2, vI y), (3, vI m), (6, vI i), (7, vI (((nxt xx) / 65536 % 5) + 1)), (8, vJ (((pck wl : Nat) : Int))), (10, vI k)] [vI ((nxt x2) / 65536 % 8), vJ (((pck wl : Nat) : Int))] [boW ax ab ap al ao (((pck t : Nat) : Int), ck, ba, no, fu), bkW ab (nu4, wo4, sc4, me4, us4, la4, ct4, gv4, kd, sl), paW ap ak (if nx + 1 < 12 then nx + 1 else 0, min (pc + 1) 12), kbW ak (up Bs nx (nu3_33, wo3_33, sc3_33, me3_33, us3_33, la3_33, ct, gv, kd, sl))]
                  refine i_callS (wr := [boW ax ab ap al ao (((pck t : Nat) : Int), ck, ba, no, fu), bkW ab (nu4, wo4, sc4, me4, us4, la4, ct4, gv4, kd, sl), paW ap ak (if nx + 1 < 12 then nx + 1 else 0, min (pc + 1) 12), kbW ak (up Bs nx (nu3_33, wo3_33, sc3_33, me3_33, us3_33, la3_33, ct, gv, kd, sl))]) (As := [vJ (((pck wl : Nat) : Int)), vI ((nxt x2) / 65536 % 8)]) (st := []) (q := 100) C (c_X6_longer K l (wl) ((nxt x2) / 65536 % 8) (hwl) (by omega) (by have := nxt_in (x := x2) (by omega); omega)) gX7_draw_X6_longer rfl hd_X6_longer ⟨Nat.le_of_ble_eq_true rfl, Nat.le_of_ble_eq_true rfl⟩ ⟨rfl, rfl⟩ ⟨Nat.le_of_ble_eq_true rfl, Nat.le_of_ble_eq_true rfl⟩ (permBy [0, 1, 2, 3] (by decide) rfl rfl) rfl (Nat.le_of_ble_eq_true rfl) dX7_draw_97 rfl (fun v w hq => ?_)
                  obtain ⟨rfl, rfl⟩ := hq
                  show V X 0 0 100 [(4, vJ (nxt x2)), (0, vP (ax 0)), (1, vI x), (2, vI y), (3, vI m), (6, vI i), (7, vI (((nxt xx) / 65536 % 5) + 1)), (8, vJ (((pck wl : Nat) : Int))), (10, vI k)] [vJ (((pck (wl ++ [((nxt x2) / 65536 % 8)]) : Nat) : Int))] [boW ax ab ap al ao (((pck t : Nat) : Int), ck, ba, no, fu), bkW ab (nu4, wo4, sc4, me4, us4, la4, ct4, gv4, kd, sl), paW ap ak (if nx + 1 < 12 then nx + 1 else 0, min (pc + 1) 12), kbW ak (up Bs nx (nu3_33, wo3_33, sc3_33, me3_33, us3_33, la3_33, ct, gv, kd, sl))]
                  refine i_lstore (q := 102) (lv' := [(8, vJ (((pck (wl ++ [((nxt x2) / 65536 % 8)]) : Nat) : Int))), (4, vJ (nxt x2)), (0, vP (ax 0)), (1, vI x), (2, vI y), (3, vI m), (6, vI i), (7, vI (((nxt xx) / 65536 % 5) + 1)), (10, vI k)]) C (by decide) rfl dX7_draw_100 rfl ?_
                  refine i_iinc (j := 8) (q := 105) (lv' := [(10, vI (k + 1)), (8, vJ (((pck (wl ++ [((nxt x2) / 65536 % 8)]) : Nat) : Int))), (4, vJ (nxt x2)), (0, vP (ax 0)), (1, vI x), (2, vI y), (3, vI m), (6, vI i), (7, vI (((nxt xx) / 65536 % 5) + 1))]) C rfl (by decide) rfl dX7_draw_102 rfl ?_
                  refine i_goto (q := 74) C dX7_draw_105 (by decide) ?_
                  refine V.lv [3, 4, 5, 6, 2, 7, 8, 1, 0] rfl ?_
                  exact ih_74 (k + 1) (nxt x2) ((wl ++ [((nxt x2) / 65536 % 8)])) (by omega) (by omega) (nxt_in (by omega)) (by rw [drL_s _ hk.1, hw]) (hwl.app (fun y hy => by have := nxt_in (x := x2) (by omega); rw [List.mem_singleton.mp hy]; omega)) (by simp; omega)
            refine V.lv [4, 5, 6, 7, 3, 8, 2, 1, 0] rfl ?_
            exact loop_74 _ (0) (nxt xx) ([]) (Nat.lt_succ_self _) (by have := nxt_in (x := xx) (by omega); omega) (nxt_in (by omega)) (rfl) (fun y hy => by simp at hy) (rfl)
      refine V.lv [3, 4, 5, 2, 1, 0] rfl ?_
      exact loop_45 _ (0) (0) (x) (o) (nu) (wo) (sc) (me) (us) (la) (ct) (gv) (Nat.lt_succ_self _) (by omega) (by omega) (rfl) (hb)
    · skip
      have h_17 := if0 c_17
      refine i_aload_n (j := 0) (q := 21) C rfl rfl dX7_draw_20 rfl ?_
      refine i_callV (wr := [bkW ab (nu, wo, sc, me, us, la, ct, gv, kd, sl), paW ap ak (nx, pc), kbW ak Bs]) (As := []) (st := []) (i := 0) (j := 0) (q := 24) C (c_X7_refuseBad K l (ab) (ax) (ap) (al) (ao) (((pck t : Nat) : Int)) (ck) (ba) (no) (fu) ) gX7_draw_X7_refuseBad rfl hd_X7_refuseBad ⟨Nat.le_of_ble_eq_true rfl, Nat.le_of_ble_eq_true rfl⟩ ⟨rfl, rfl⟩ ⟨Nat.le_of_ble_eq_true rfl, Nat.le_of_ble_eq_true rfl⟩ (permBy [0, 1, 2, 3] (by decide) rfl rfl) rfl rfl rfl rfl (Nat.le_of_ble_eq_true rfl) dX7_draw_21 rfl (fun v w hq => ?_)
      obtain ⟨rfl, rfl⟩ := hq
      show V X 0 0 24 [(0, vP (ax 0)), (1, vI x), (2, vI y)] [vI (-2)] [boW ax ab ap al ao (((pck t : Nat) : Int), ck, ba + 1, no, fu), bkW ab (nu, wo, sc, me, us, la, ct, gv, kd, sl), paW ap ak (nx, pc), kbW ak Bs]
      refine i_iret C hR dX7_draw_24 ?_
      have hsp : (sp_draw x y (o, h, t, ck, tx, ba, no, fu)) = (-2, (o, h, t, ck, tx, ba + 1, no, fu)) := by
        simp only [sp_draw]
        rw [if_neg (fun z => h_17 z.2)]
        rfl
      exact ⟨ba + 1, nx, pc, Bs, nu, wo, sc, me, us, la, ct, gv, by rw [hsp], rfl, by rw [hsp]; exact hC.bad hN⟩

theorem lk_X7_best_26 : Cond.fieldLink RX7 26 (TX7 2).1 (TX7 2).2.1 (TX7 2).2.2.1 ∈ wsX7_best := List.mem_of_getElem? (i := 1) rfl
theorem hi_X7_best_X7 : ∀ w ∈ u_ws RX7 TX7 9, w ∈ wsX7_best := by decide +kernel
theorem hd_X2_makeEmpty : yX2_makeEmpty.cls = RX2 ∧ yX2_makeEmpty.cls ≠ "java/lang/invoke/MethodHandle" ∧ yX2_makeEmpty.cls ≠ "java/lang/invoke/VarHandle" ∧ (parseMethodDescriptor yX2_makeEmpty.desc).map (fun d => d.parameters.length) = some 0 := by decide +kernel
theorem lk_X7_best_10 : Cond.fieldLink RX7 10 (TX7 0).1 (TX7 0).2.1 (TX7 0).2.2.1 ∈ wsX7_best := List.mem_of_getElem? (i := 2) rfl
theorem lk_X7_best_139 : Cond.fieldLink RX7 139 (TX0 6).1 (TX0 6).2.1 (TX0 6).2.2.1 ∈ wsX7_best := List.mem_of_getElem? (i := 3) rfl
theorem hi_X7_best_X0 : ∀ w ∈ u_ws RX0 TX0 10, w ∈ wsX7_best := by decide +kernel
theorem hd_X7_listedAt : yX7_listedAt.cls = RX7 ∧ yX7_listedAt.cls ≠ "java/lang/invoke/MethodHandle" ∧ yX7_listedAt.cls ≠ "java/lang/invoke/VarHandle" ∧ (parseMethodDescriptor yX7_listedAt.desc).map (fun d => d.parameters.length) = some 1 := by decide +kernel
theorem lk_X7_best_122 : Cond.fieldLink RX7 122 (TX0 2).1 (TX0 2).2.1 (TX0 2).2.2.1 ∈ wsX7_best := List.mem_of_getElem? (i := 4) rfl
theorem hd_X2_insert : yX2_insert.cls = RX2 ∧ yX2_insert.cls ≠ "java/lang/invoke/MethodHandle" ∧ yX2_insert.cls ≠ "java/lang/invoke/VarHandle" ∧ (parseMethodDescriptor yX2_insert.desc).map (fun d => d.parameters.length) = some 2 := by decide +kernel
theorem hd_X7_refusePlace : yX7_refusePlace.cls = RX7 ∧ yX7_refusePlace.cls ≠ "java/lang/invoke/MethodHandle" ∧ yX7_refusePlace.cls ≠ "java/lang/invoke/VarHandle" ∧ (parseMethodDescriptor yX7_refusePlace.desc).map (fun d => d.parameters.length) = some 0 := by decide +kernel
set_option maxHeartbeats 400000 in
set_option maxRecDepth 100000 in
theorem c_X7_best (K : KT) (l : Launch) (ax : Nat → Nat) (ap : Nat → Nat) (al : Nat → Nat) (ao : Nat → Nat) (ck : Int) (ba : Int) (no : Int) (fu : Int) (t : List Int) (ab : Nat → Nat) (nu : Int → Int) (wo : Int → Int) (sc : Int → Int) (me : Int → Int) (us : Int → Int) (la : Int → Int) (ct : Int) (gv : Int) (kd : Int) (sl : Int) (ak : Int → Nat → Nat) (nx : Int) (pc : Int) (Bs : Int → Bk) (by_ : Int → Int) (ve : Int → Int) (ow : Int → Int) (fi : Int → Int) (se : Int → Int) (le : Int) (oc : Int) (pl : Int) (fa : Int) (so : Int → Int) (ra : Int → Int) (lc : Int) (o : Bo) (h : List Bo) (tx : List Int) (N : Int) (x : Int) (hC : okC N nu wo sc me us la ct gv kd sl Bs nx pc ((pck t : Nat) : Int) ck ba no fu by_ le (o, h, t, ck, tx, ba, no, fu)) (hN : N < 512) (hx : rI x) : Mt K l yX7_best wsX7_best ({ frames := 6, cells := 0, slots := 0, locals := 135 }) [vP (ax 0), vI x] [boW ax ab ap al ao (((pck t : Nat) : Int), ck, ba, no, fu), bkW ab (nu, wo, sc, me, us, la, ct, gv, kd, sl), liW al (so, ra, lc)] 0 0 (fun v w => ∃ ba3 : Int, ∃ so3 : Int → Int, ∃ ra3 : Int → Int, ∃ lc3 : Int, v = some (vI ((sp_best 0 x (o, h, t, ck, tx, ba, no, fu)).1)) ∧ w = [boW ax ab ap al ao (((pck t : Nat) : Int), ck, ba3, no, fu), bkW ab (nu, wo, sc, me, us, la, ct, gv, kd, sl), liW al (so3, ra3, lc3)] ∧ (okC (N + 1) nu wo sc me us la ct gv kd sl Bs nx pc ((pck t : Nat) : Int) ck ba3 no fu by_ le (sp_best 0 x (o, h, t, ck, tx, ba, no, fu)).2)) := by
  refine Mt.of (own := RX7) (cc := cX7_best) (maxL := 3) (ret := (some .int)) (lv0 := [(0, vP (ax 0)), (1, vI x)]) (by decide) rfl rfl (Nat.le_of_ble_eq_true rfl) rfl (fun X C hR hNm => ?_)
  have hb := hC.hb
  have hct := hb.xct
  have hgv := hb.xgv
  have hkd := hb.xkd
  have hsl := hb.xsl
  obtain ⟨ht, hlt⟩ := hC.ht
  have hNN := hC.hN
  have hhx := hC.hh.1
  have hhp := hC.hh.2.1
  have hhl := hC.hh.2.2.1
  have hck := hC.hck
  have hTx := hC.hx
  refine i_iload_n (j := 1) (q := 1) C rfl rfl dX7_best_0 rfl ?_
  refine i_iconst (q := 2) C dX7_best_1 rfl ?_
  refine i_icmp_ge (tgt := 10) (q := 5) C (by omega) (by omega) dX7_best_2 (by decide) rfl (fun c_2 => ?_) (fun c_2 => ?_)
  · skip
    refine i_aload_n (j := 0) (q := 11) C rfl rfl dX7_best_10 rfl ?_
    refine i_get (i := 0) (j := 0) (f := 2) (q := 14) C rfl rfl rfl hi_X7_best_X7 (by decide) lk_X7_best_26 rfl dX7_best_11 rfl ?_
    refine i_callV (wr := [boW ax ab ap al ao (((pck t : Nat) : Int), ck, ba, no, fu), bkW ab (nu, wo, sc, me, us, la, ct, gv, kd, sl)]) (As := []) (st := []) (i := 0) (j := 0) (q := 17) C (c_X2_makeEmpty K l (al) (so) (ra) (lc) ) gX7_best_X2_makeEmpty rfl hd_X2_makeEmpty ⟨Nat.le_of_ble_eq_true rfl, Nat.le_of_ble_eq_true rfl⟩ ⟨rfl, rfl⟩ ⟨Nat.le_of_ble_eq_true rfl, Nat.le_of_ble_eq_true rfl⟩ (permBy [2, 0, 1] (by decide) rfl rfl) rfl rfl rfl rfl (Nat.le_of_ble_eq_true rfl) dX7_best_14 rfl (fun v w hq => ?_)
    obtain ⟨rfl, rfl⟩ := hq
    show V X 0 0 17 [(0, vP (ax 0)), (1, vI x)] [] [liW al (so, ra, 0), boW ax ab ap al ao (((pck t : Nat) : Int), ck, ba, no, fu), bkW ab (nu, wo, sc, me, us, la, ct, gv, kd, sl)]
    refine V.perm (cs' := [boW ax ab ap al ao (((pck t : Nat) : Int), ck, ba, no, fu), bkW ab (nu, wo, sc, me, us, la, ct, gv, kd, sl), liW al (so, ra, 0)]) (permBy [1, 2, 0] (by decide) rfl rfl) ?_
    refine i_iconst (q := 18) C dX7_best_17 rfl ?_
    refine i_istore_n (q := 19) (lv' := [(2, vI 0), (0, vP (ax 0)), (1, vI x)]) C rfl (by decide) rfl dX7_best_18 rfl ?_
    have loop_19 : ∀ (fuel : Nat) (i : Int) (so4 : Int → Int) (ra4 : Int → Int) (lc4 : Int), ((ct - i).toNat) < fuel → (0 ≤ i ∧ i ≤ ct) → (0 ≤ lc4 ∧ lc4 ≤ i) → (srt so4 ra4 lc4) → (∀ j, 0 ≤ j → j < lc4 → (0 ≤ so4 j ∧ so4 j < i) ∧ -1000 ≤ ra4 j ∧ ra4 j ≤ 1000) → ((rgp so4 ra4 lc4).Perm (prs 0 t o i.toNat)) → V X 0 0 19 [(0, vP (ax 0)), (1, vI x), (2, vI i)] [] [boW ax ab ap al ao (((pck t : Nat) : Int), ck, ba, no, fu), bkW ab (nu, wo, sc, me, us, la, ct, gv, kd, sl), liW al (so4, ra4, lc4)] := by
      intro fuel
      induction fuel with
      | zero => intro i so4 ra4 lc4 hz; exact absurd hz (Nat.not_lt_zero _)
      | succ fuel ih_19 =>
        intro i so4 ra4 lc4 hfu_19 hi hlc hsr hbd hpm
        refine i_iload_n (j := 2) (q := 20) C rfl rfl dX7_best_19 rfl ?_
        refine i_aload_n (j := 0) (q := 21) C rfl rfl dX7_best_20 rfl ?_
        refine i_get (i := 0) (j := 0) (f := 0) (q := 24) C rfl rfl rfl hi_X7_best_X7 (by decide) lk_X7_best_10 rfl dX7_best_21 rfl ?_
        refine i_get (i := 1) (j := 0) (f := 6) (q := 27) C rfl rfl rfl hi_X7_best_X0 (by decide) lk_X7_best_139 rfl dX7_best_24 rfl ?_
        refine i_icmp_ge (tgt := 61) (q := 30) C (by omega) (by omega) dX7_best_27 (by decide) rfl (fun c_27 => ?_) (fun c_27 => ?_)
        · skip
          refine i_aload_n (j := 0) (q := 62) C rfl rfl dX7_best_61 rfl ?_
          refine i_iload_n (j := 1) (q := 63) C rfl rfl dX7_best_62 rfl ?_
          refine i_callV (wr := []) (As := [vI x]) (st := []) (i := 0) (j := 0) (q := 66) C (c_X7_listedAt K l (ax) (ap) (al) (ao) (((pck t : Nat) : Int)) (ck) (ba) (no) (fu) (ab) (nu) (wo) (sc) (me) (us) (la) (ct) (gv) (kd) (sl) (24 * N) (o) (al) (so4) (ra4) (lc4) (x) (by first | assumption | omega) (by first | assumption | omega) (by omega) (fun j g0 g1 => by have := hbd j g0 g1; omega)) gX7_best_X7_listedAt rfl hd_X7_listedAt ⟨Nat.le_of_ble_eq_true rfl, Nat.le_of_ble_eq_true rfl⟩ ⟨rfl, rfl⟩ ⟨Nat.le_of_ble_eq_true rfl, Nat.le_of_ble_eq_true rfl⟩ (permBy [0, 1, 2] (by decide) rfl rfl) rfl rfl rfl rfl (Nat.le_of_ble_eq_true rfl) dX7_best_63 rfl (fun v w hq => ?_)
          obtain ⟨so3_63, kp3_63, rfl, rfl⟩ := hq
          show V X 0 0 66 [(0, vP (ax 0)), (1, vI x), (2, vI i)] [vI (if x = -1 then ((kfl me so4 lc4.toNat).length : Int) else if 0 ≤ x ∧ x < (kfl me so4 lc4.toNat).length then nu ((kfl me so4 lc4.toNat).getD x.toNat 0) else -5)] [boW ax ab ap al ao (((pck t : Nat) : Int), ck, ba, no, fu), bkW ab (nu, wo, sc, me, us, la, ct, gv, kd, sl), liW al (so3_63, ra4, kp3_63)]
          refine i_iret C hR dX7_best_66 ?_
          have hsp : (sp_best 0 x (o, h, t, ck, tx, ba, no, fu)) = (if x = -1 then ((kfl me so4 lc4.toNat).length : Int) else if 0 ≤ x ∧ x < (kfl me so4 lc4.toNat).length then nu ((kfl me so4 lc4.toNat).getD x.toNat 0) else -5, (o, h, t, ck, tx, ba, no, fu)) := by
            simp only [sp_best]
            rw [if_neg (by omega)]
            have e9 : i = ct := by omega
            subst e9
            rw [lst_fin hb hlc.1 hsr (fun j g0 g1 => (hbd j g0 g1).1) hpm (by omega)]
          exact ⟨ba, so3_63, ra4, kp3_63, by rw [hsp], rfl, by rw [hsp]; exact hC.s hN⟩
        · skip
          have hsi := hb.xsc i (by omega) (by omega)
          refine i_aload_n (j := 0) (q := 31) C rfl rfl dX7_best_30 rfl ?_
          refine i_iload_n (j := 2) (q := 32) C rfl rfl dX7_best_31 rfl ?_
          refine i_callV (wr := [liW al (so4, ra4, lc4)]) (As := [vI i]) (st := []) (i := 0) (j := 0) (q := 35) C (c_X7_beginsSo K l (ax) (ap) (al) (ao) (ck) (ba) (no) (fu) (t) (ab) (nu) (wo) (sc) (me) (us) (la) (ct) (gv) (kd) (sl) (24 * N) (o) (i) (by first | assumption | omega) (by first | assumption | omega) (by first | assumption | omega) (by first | assumption | omega)) gX7_best_X7_beginsSo rfl hd_X7_beginsSo ⟨Nat.le_of_ble_eq_true rfl, Nat.le_of_ble_eq_true rfl⟩ ⟨rfl, rfl⟩ ⟨Nat.le_of_ble_eq_true rfl, Nat.le_of_ble_eq_true rfl⟩ (permBy [0, 1, 2] (by decide) rfl rfl) rfl rfl rfl rfl (Nat.le_of_ble_eq_true rfl) dX7_best_32 rfl (fun v w hq => ?_)
          obtain ⟨rfl, rfl⟩ := hq
          show V X 0 0 35 [(0, vP (ax 0)), (1, vI x), (2, vI i)] [vI (if bgs t (atP o.1 i).2.1 = true then 1 else 0)] [boW ax ab ap al ao (((pck t : Nat) : Int), ck, ba, no, fu), bkW ab (nu, wo, sc, me, us, la, ct, gv, kd, sl), liW al (so4, ra4, lc4)]
          refine i_if_eq (tgt := 55) (q := 38) C (if01) dX7_best_35 (by decide) rfl (fun c_35 => ?_) (fun c_35 => ?_)
          · skip
            have h_35 := if0 c_35
            have hpm3 : (rgp so4 ra4 lc4).Perm (prs 0 t o (i + 1).toNat) := by
              rw [prs_n hi.1 (show rnk 0 t o.2.2.2 (atP o.1 i) = none by unfold rnk; rw [if_neg h_35, if_neg (fun z => z.1 rfl)])]
              exact hpm
            skip
            refine i_iinc (j := 2) (q := 58) (lv' := [(2, vI (i + 1)), (0, vP (ax 0)), (1, vI x)]) C rfl (by decide) rfl dX7_best_55 rfl ?_
            refine i_goto (q := 19) C dX7_best_58 (by decide) ?_
            refine V.lv [1, 2, 0] rfl ?_
            exact ih_19 (i + 1) (so4) (ra4) (lc4) (by omega) (by omega) (by omega) (by first | exact hsr2 | exact hsr) (by first | exact hin2 | exact fun j g0 g1 => by have := hbd j g0 g1; omega) (by first | exact hpm2 | exact hpm3)
          · skip
            have h_35 := ifn0 c_35
            refine i_aload_n (j := 0) (q := 39) C rfl rfl dX7_best_38 rfl ?_
            refine i_get (i := 0) (j := 0) (f := 2) (q := 42) C rfl rfl rfl hi_X7_best_X7 (by decide) lk_X7_best_26 rfl dX7_best_39 rfl ?_
            refine i_iload_n (j := 2) (q := 43) C rfl rfl dX7_best_42 rfl ?_
            refine i_aload_n (j := 0) (q := 44) C rfl rfl dX7_best_43 rfl ?_
            refine i_get (i := 0) (j := 0) (f := 0) (q := 47) C rfl rfl rfl hi_X7_best_X7 (by decide) lk_X7_best_10 rfl dX7_best_44 rfl ?_
            refine i_get (i := 1) (j := 0) (f := 2) (q := 50) C rfl rfl rfl hi_X7_best_X0 (by decide) lk_X7_best_122 rfl dX7_best_47 rfl ?_
            refine i_iload_n (j := 2) (q := 51) C rfl rfl dX7_best_50 rfl ?_
            refine i_iald (i := 1) (j := 3) (q := 52) C rfl rfl (by omega) dX7_best_51 rfl ?_
            have ld_51 := hb.xsc i (by omega) (by omega)
            refine i_callV (wr := [boW ax ab ap al ao (((pck t : Nat) : Int), ck, ba, no, fu), bkW ab (nu, wo, sc, me, us, la, ct, gv, kd, sl)]) (As := [vI i, vI (sc i)]) (st := []) (i := 0) (j := 0) (q := 55) C (c_X2_insert K l (al) (so4) (ra4) (lc4) (i) (sc i) (by omega) (fun j g0 g1 => by have := hbd j g0 g1; omega) (by omega)) gX7_best_X2_insert rfl hd_X2_insert ⟨Nat.le_of_ble_eq_true rfl, Nat.le_of_ble_eq_true rfl⟩ ⟨rfl, rfl⟩ ⟨Nat.le_of_ble_eq_true rfl, Nat.le_of_ble_eq_true rfl⟩ (permBy [2, 0, 1] (by decide) rfl rfl) rfl rfl rfl rfl (Nat.le_of_ble_eq_true rfl) dX7_best_52 rfl (fun v w hq => ?_)
            obtain ⟨so3_52, ra3_52, a3_52, rfl, rfl, hin_52⟩ := hq
            show V X 0 0 55 [(0, vP (ax 0)), (1, vI x), (2, vI i)] [] [liW al (so3_52, ra3_52, lc4 + 1), boW ax ab ap al ao (((pck t : Nat) : Int), ck, ba, no, fu), bkW ab (nu, wo, sc, me, us, la, ct, gv, kd, sl)]
            refine V.perm (cs' := [boW ax ab ap al ao (((pck t : Nat) : Int), ck, ba, no, fu), bkW ab (nu, wo, sc, me, us, la, ct, gv, kd, sl), liW al (so3_52, ra3_52, lc4 + 1)]) (permBy [1, 2, 0] (by decide) rfl rfl) ?_
            have hin2 := ins_in hin_52 (P := fun a b => (0 ≤ a ∧ a < i + 1) ∧ -1000 ≤ b ∧ b ≤ 1000) (fun j g0 g1 => by have := hbd j g0 g1; omega) (by omega)
            have hsr2 := ins_srt hin_52 hsr (fun j g0 g1 => by have := hbd j g0 g1; omega)
            have hpm2 : (rgp so3_52 ra3_52 (lc4 + 1)).Perm (prs 0 t o (i + 1).toNat) := by
              rw [prs_y hi.1 (show rnk 0 t o.2.2.2 (atP o.1 i) = some ((atP o.1 i).1, (atP o.1 i).2.2.1, (atP o.1 i).2.2.2.1) by unfold rnk; rw [if_pos h_35])]
              exact (ins_perm hin_52).trans (by rw [hsi.2]; exact hpm.append_right _)
            refine i_iinc (j := 2) (q := 58) (lv' := [(2, vI (i + 1)), (0, vP (ax 0)), (1, vI x)]) C rfl (by decide) rfl dX7_best_55 rfl ?_
            refine i_goto (q := 19) C dX7_best_58 (by decide) ?_
            refine V.lv [1, 2, 0] rfl ?_
            exact ih_19 (i + 1) (so3_52) (ra3_52) (lc4 + 1) (by omega) (by omega) (by omega) (by first | exact hsr2 | exact hsr) (by first | exact hin2 | exact fun j g0 g1 => by have := hbd j g0 g1; omega) (by first | exact hpm2 | exact hpm3)
    refine V.lv [1, 2, 0] rfl ?_
    exact loop_19 _ (0) (so) (ra) (0) (Nat.lt_succ_self _) (by omega) (by omega) (fun i j _ _ _ => by omega) (fun j _ _ => by omega) (List.Perm.refl _)
  · skip
    refine i_aload_n (j := 0) (q := 6) C rfl rfl dX7_best_5 rfl ?_
    refine i_callV (wr := [bkW ab (nu, wo, sc, me, us, la, ct, gv, kd, sl), liW al (so, ra, lc)]) (As := []) (st := []) (i := 0) (j := 0) (q := 9) C (c_X7_refusePlace K l (ab) (ax) (ap) (al) (ao) (((pck t : Nat) : Int)) (ck) (ba) (no) (fu) ) gX7_best_X7_refusePlace rfl hd_X7_refusePlace ⟨Nat.le_of_ble_eq_true rfl, Nat.le_of_ble_eq_true rfl⟩ ⟨rfl, rfl⟩ ⟨Nat.le_of_ble_eq_true rfl, Nat.le_of_ble_eq_true rfl⟩ (permBy [0, 1, 2] (by decide) rfl rfl) rfl rfl rfl rfl (Nat.le_of_ble_eq_true rfl) dX7_best_6 rfl (fun v w hq => ?_)
    obtain ⟨rfl, rfl⟩ := hq
    show V X 0 0 9 [(0, vP (ax 0)), (1, vI x)] [vI (-10)] [boW ax ab ap al ao (((pck t : Nat) : Int), ck, ba + 1, no, fu), bkW ab (nu, wo, sc, me, us, la, ct, gv, kd, sl), liW al (so, ra, lc)]
    refine i_iret C hR dX7_best_9 ?_
    have hsp : (sp_best 0 x (o, h, t, ck, tx, ba, no, fu)) = (-10, (o, h, t, ck, tx, ba + 1, no, fu)) := by
      simp only [sp_best]
      rw [if_pos (by omega)]
      rfl
    exact ⟨ba + 1, so, ra, lc, by rw [hsp], rfl, by rw [hsp]; exact hC.bad hN⟩

theorem lk_X7_near_26 : Cond.fieldLink RX7 26 (TX7 2).1 (TX7 2).2.1 (TX7 2).2.2.1 ∈ wsX7_near := List.mem_of_getElem? (i := 1) rfl
theorem hi_X7_near_X7 : ∀ w ∈ u_ws RX7 TX7 9, w ∈ wsX7_near := by decide +kernel
theorem lk_X7_near_10 : Cond.fieldLink RX7 10 (TX7 0).1 (TX7 0).2.1 (TX7 0).2.2.1 ∈ wsX7_near := List.mem_of_getElem? (i := 2) rfl
theorem lk_X7_near_139 : Cond.fieldLink RX7 139 (TX0 6).1 (TX0 6).2.1 (TX0 6).2.2.1 ∈ wsX7_near := List.mem_of_getElem? (i := 3) rfl
theorem hi_X7_near_X0 : ∀ w ∈ u_ws RX0 TX0 10, w ∈ wsX7_near := by decide +kernel
theorem lk_X7_near_122 : Cond.fieldLink RX7 122 (TX0 2).1 (TX0 2).2.1 (TX0 2).2.2.1 ∈ wsX7_near := List.mem_of_getElem? (i := 4) rfl
theorem lk_X7_near_133 : Cond.fieldLink RX7 133 (TX0 9).1 (TX0 9).2.1 (TX0 9).2.2.1 ∈ wsX7_near := List.mem_of_getElem? (i := 5) rfl
set_option maxHeartbeats 400000 in
set_option maxRecDepth 100000 in
theorem c_X7_near (K : KT) (l : Launch) (ax : Nat → Nat) (ap : Nat → Nat) (al : Nat → Nat) (ao : Nat → Nat) (ck : Int) (ba : Int) (no : Int) (fu : Int) (t : List Int) (ab : Nat → Nat) (nu : Int → Int) (wo : Int → Int) (sc : Int → Int) (me : Int → Int) (us : Int → Int) (la : Int → Int) (ct : Int) (gv : Int) (kd : Int) (sl : Int) (ak : Int → Nat → Nat) (nx : Int) (pc : Int) (Bs : Int → Bk) (by_ : Int → Int) (ve : Int → Int) (ow : Int → Int) (fi : Int → Int) (se : Int → Int) (le : Int) (oc : Int) (pl : Int) (fa : Int) (so : Int → Int) (ra : Int → Int) (lc : Int) (o : Bo) (h : List Bo) (tx : List Int) (N : Int) (x : Int) (hC : okC N nu wo sc me us la ct gv kd sl Bs nx pc ((pck t : Nat) : Int) ck ba no fu by_ le (o, h, t, ck, tx, ba, no, fu)) (hN : N < 512) (hx : rI x) : Mt K l yX7_near wsX7_near ({ frames := 6, cells := 0, slots := 0, locals := 135 }) [vP (ax 0), vI x] [boW ax ab ap al ao (((pck t : Nat) : Int), ck, ba, no, fu), bkW ab (nu, wo, sc, me, us, la, ct, gv, kd, sl), liW al (so, ra, lc)] 0 0 (fun v w => ∃ ba3 : Int, ∃ so3 : Int → Int, ∃ ra3 : Int → Int, ∃ lc3 : Int, v = some (vI ((sp_best 1 x (o, h, t, ck, tx, ba, no, fu)).1)) ∧ w = [boW ax ab ap al ao (((pck t : Nat) : Int), ck, ba3, no, fu), bkW ab (nu, wo, sc, me, us, la, ct, gv, kd, sl), liW al (so3, ra3, lc3)] ∧ (okC (N + 1) nu wo sc me us la ct gv kd sl Bs nx pc ((pck t : Nat) : Int) ck ba3 no fu by_ le (sp_best 1 x (o, h, t, ck, tx, ba, no, fu)).2)) := by
  refine Mt.of (own := RX7) (cc := cX7_near) (maxL := 3) (ret := (some .int)) (lv0 := [(0, vP (ax 0)), (1, vI x)]) (by decide) rfl rfl (Nat.le_of_ble_eq_true rfl) rfl (fun X C hR hNm => ?_)
  have hb := hC.hb
  have hct := hb.xct
  have hgv := hb.xgv
  have hkd := hb.xkd
  have hsl := hb.xsl
  obtain ⟨ht, hlt⟩ := hC.ht
  have hNN := hC.hN
  have hhx := hC.hh.1
  have hhp := hC.hh.2.1
  have hhl := hC.hh.2.2.1
  have hck := hC.hck
  have hTx := hC.hx
  refine i_iload_n (j := 1) (q := 1) C rfl rfl dX7_near_0 rfl ?_
  refine i_iconst (q := 2) C dX7_near_1 rfl ?_
  refine i_icmp_ge (tgt := 10) (q := 5) C (by omega) (by omega) dX7_near_2 (by decide) rfl (fun c_2 => ?_) (fun c_2 => ?_)
  · skip
    refine i_aload_n (j := 0) (q := 11) C rfl rfl dX7_near_10 rfl ?_
    refine i_get (i := 0) (j := 0) (f := 2) (q := 14) C rfl rfl rfl hi_X7_near_X7 (by decide) lk_X7_near_26 rfl dX7_near_11 rfl ?_
    refine i_callV (wr := [boW ax ab ap al ao (((pck t : Nat) : Int), ck, ba, no, fu), bkW ab (nu, wo, sc, me, us, la, ct, gv, kd, sl)]) (As := []) (st := []) (i := 0) (j := 0) (q := 17) C (c_X2_makeEmpty K l (al) (so) (ra) (lc) ) gX7_near_X2_makeEmpty rfl hd_X2_makeEmpty ⟨Nat.le_of_ble_eq_true rfl, Nat.le_of_ble_eq_true rfl⟩ ⟨rfl, rfl⟩ ⟨Nat.le_of_ble_eq_true rfl, Nat.le_of_ble_eq_true rfl⟩ (permBy [2, 0, 1] (by decide) rfl rfl) rfl rfl rfl rfl (Nat.le_of_ble_eq_true rfl) dX7_near_14 rfl (fun v w hq => ?_)
    obtain ⟨rfl, rfl⟩ := hq
    show V X 0 0 17 [(0, vP (ax 0)), (1, vI x)] [] [liW al (so, ra, 0), boW ax ab ap al ao (((pck t : Nat) : Int), ck, ba, no, fu), bkW ab (nu, wo, sc, me, us, la, ct, gv, kd, sl)]
    refine V.perm (cs' := [boW ax ab ap al ao (((pck t : Nat) : Int), ck, ba, no, fu), bkW ab (nu, wo, sc, me, us, la, ct, gv, kd, sl), liW al (so, ra, 0)]) (permBy [1, 2, 0] (by decide) rfl rfl) ?_
    refine i_iconst (q := 18) C dX7_near_17 rfl ?_
    refine i_istore_n (q := 19) (lv' := [(2, vI 0), (0, vP (ax 0)), (1, vI x)]) C rfl (by decide) rfl dX7_near_18 rfl ?_
    have loop_19 : ∀ (fuel : Nat) (i : Int) (so4 : Int → Int) (ra4 : Int → Int) (lc4 : Int), ((ct - i).toNat) < fuel → (0 ≤ i ∧ i ≤ ct) → (0 ≤ lc4 ∧ lc4 ≤ i) → (srt so4 ra4 lc4) → (∀ j, 0 ≤ j → j < lc4 → (0 ≤ so4 j ∧ so4 j < i) ∧ -1000 ≤ ra4 j ∧ ra4 j ≤ 1000) → ((rgp so4 ra4 lc4).Perm (prs 1 t o i.toNat)) → V X 0 0 19 [(0, vP (ax 0)), (1, vI x), (2, vI i)] [] [boW ax ab ap al ao (((pck t : Nat) : Int), ck, ba, no, fu), bkW ab (nu, wo, sc, me, us, la, ct, gv, kd, sl), liW al (so4, ra4, lc4)] := by
      intro fuel
      induction fuel with
      | zero => intro i so4 ra4 lc4 hz; exact absurd hz (Nat.not_lt_zero _)
      | succ fuel ih_19 =>
        intro i so4 ra4 lc4 hfu_19 hi hlc hsr hbd hpm
        refine i_iload_n (j := 2) (q := 20) C rfl rfl dX7_near_19 rfl ?_
        refine i_aload_n (j := 0) (q := 21) C rfl rfl dX7_near_20 rfl ?_
        refine i_get (i := 0) (j := 0) (f := 0) (q := 24) C rfl rfl rfl hi_X7_near_X7 (by decide) lk_X7_near_10 rfl dX7_near_21 rfl ?_
        refine i_get (i := 1) (j := 0) (f := 6) (q := 27) C rfl rfl rfl hi_X7_near_X0 (by decide) lk_X7_near_139 rfl dX7_near_24 rfl ?_
        refine i_icmp_ge (tgt := 97) (q := 30) C (by omega) (by omega) dX7_near_27 (by decide) rfl (fun c_27 => ?_) (fun c_27 => ?_)
        · skip
          refine i_aload_n (j := 0) (q := 98) C rfl rfl dX7_near_97 rfl ?_
          refine i_iload_n (j := 1) (q := 99) C rfl rfl dX7_near_98 rfl ?_
          refine i_callV (wr := []) (As := [vI x]) (st := []) (i := 0) (j := 0) (q := 102) C (c_X7_listedAt K l (ax) (ap) (al) (ao) (((pck t : Nat) : Int)) (ck) (ba) (no) (fu) (ab) (nu) (wo) (sc) (me) (us) (la) (ct) (gv) (kd) (sl) (24 * N) (o) (al) (so4) (ra4) (lc4) (x) (by first | assumption | omega) (by first | assumption | omega) (by omega) (fun j g0 g1 => by have := hbd j g0 g1; omega)) gX7_near_X7_listedAt rfl hd_X7_listedAt ⟨Nat.le_of_ble_eq_true rfl, Nat.le_of_ble_eq_true rfl⟩ ⟨rfl, rfl⟩ ⟨Nat.le_of_ble_eq_true rfl, Nat.le_of_ble_eq_true rfl⟩ (permBy [0, 1, 2] (by decide) rfl rfl) rfl rfl rfl rfl (Nat.le_of_ble_eq_true rfl) dX7_near_99 rfl (fun v w hq => ?_)
          obtain ⟨so3_99, kp3_99, rfl, rfl⟩ := hq
          show V X 0 0 102 [(0, vP (ax 0)), (1, vI x), (2, vI i)] [vI (if x = -1 then ((kfl me so4 lc4.toNat).length : Int) else if 0 ≤ x ∧ x < (kfl me so4 lc4.toNat).length then nu ((kfl me so4 lc4.toNat).getD x.toNat 0) else -5)] [boW ax ab ap al ao (((pck t : Nat) : Int), ck, ba, no, fu), bkW ab (nu, wo, sc, me, us, la, ct, gv, kd, sl), liW al (so3_99, ra4, kp3_99)]
          refine i_iret C hR dX7_near_102 ?_
          have hsp : (sp_best 1 x (o, h, t, ck, tx, ba, no, fu)) = (if x = -1 then ((kfl me so4 lc4.toNat).length : Int) else if 0 ≤ x ∧ x < (kfl me so4 lc4.toNat).length then nu ((kfl me so4 lc4.toNat).getD x.toNat 0) else -5, (o, h, t, ck, tx, ba, no, fu)) := by
            simp only [sp_best]
            rw [if_neg (by omega)]
            have e9 : i = ct := by omega
            subst e9
            rw [lst_fin hb hlc.1 hsr (fun j g0 g1 => (hbd j g0 g1).1) hpm (by omega)]
          exact ⟨ba, so3_99, ra4, kp3_99, by rw [hsp], rfl, by rw [hsp]; exact hC.s hN⟩
        · skip
          have hsi := hb.xsc i (by omega) (by omega)
          refine i_aload_n (j := 0) (q := 31) C rfl rfl dX7_near_30 rfl ?_
          refine i_iload_n (j := 2) (q := 32) C rfl rfl dX7_near_31 rfl ?_
          refine i_callV (wr := [liW al (so4, ra4, lc4)]) (As := [vI i]) (st := []) (i := 0) (j := 0) (q := 35) C (c_X7_beginsSo K l (ax) (ap) (al) (ao) (ck) (ba) (no) (fu) (t) (ab) (nu) (wo) (sc) (me) (us) (la) (ct) (gv) (kd) (sl) (24 * N) (o) (i) (by first | assumption | omega) (by first | assumption | omega) (by first | assumption | omega) (by first | assumption | omega)) gX7_near_X7_beginsSo rfl hd_X7_beginsSo ⟨Nat.le_of_ble_eq_true rfl, Nat.le_of_ble_eq_true rfl⟩ ⟨rfl, rfl⟩ ⟨Nat.le_of_ble_eq_true rfl, Nat.le_of_ble_eq_true rfl⟩ (permBy [0, 1, 2] (by decide) rfl rfl) rfl rfl rfl rfl (Nat.le_of_ble_eq_true rfl) dX7_near_32 rfl (fun v w hq => ?_)
          obtain ⟨rfl, rfl⟩ := hq
          show V X 0 0 35 [(0, vP (ax 0)), (1, vI x), (2, vI i)] [vI (if bgs t (atP o.1 i).2.1 = true then 1 else 0)] [boW ax ab ap al ao (((pck t : Nat) : Int), ck, ba, no, fu), bkW ab (nu, wo, sc, me, us, la, ct, gv, kd, sl), liW al (so4, ra4, lc4)]
          refine i_if_eq (tgt := 58) (q := 38) C (if01) dX7_near_35 (by decide) rfl (fun c_35 => ?_) (fun c_35 => ?_)
          · skip
            have h_35 := if0 c_35
            refine i_aload_n (j := 0) (q := 59) C rfl rfl dX7_near_58 rfl ?_
            refine i_iload_n (j := 2) (q := 60) C rfl rfl dX7_near_59 rfl ?_
            refine i_callV (wr := [liW al (so4, ra4, lc4)]) (As := [vI i]) (st := []) (i := 0) (j := 0) (q := 63) C (c_X7_isClose K l (ax) (ap) (al) (ao) (ck) (ba) (no) (fu) (t) (ab) (nu) (wo) (sc) (me) (us) (la) (ct) (gv) (kd) (sl) (24 * N) (o) (i) (by first | assumption | omega) (by first | assumption | omega) (by first | assumption | omega) (by first | assumption | omega)) gX7_near_X7_isClose rfl hd_X7_isClose ⟨Nat.le_of_ble_eq_true rfl, Nat.le_of_ble_eq_true rfl⟩ ⟨rfl, rfl⟩ ⟨Nat.le_of_ble_eq_true rfl, Nat.le_of_ble_eq_true rfl⟩ (permBy [0, 1, 2] (by decide) rfl rfl) rfl rfl rfl rfl (Nat.le_of_ble_eq_true rfl) dX7_near_60 rfl (fun v w hq => ?_)
            obtain ⟨rfl, rfl⟩ := hq
            show V X 0 0 63 [(0, vP (ax 0)), (1, vI x), (2, vI i)] [vI (if clo t (atP o.1 i).2.1 = true then 1 else 0)] [boW ax ab ap al ao (((pck t : Nat) : Int), ck, ba, no, fu), bkW ab (nu, wo, sc, me, us, la, ct, gv, kd, sl), liW al (so4, ra4, lc4)]
            refine i_if_eq (tgt := 91) (q := 66) C (if01) dX7_near_63 (by decide) rfl (fun c_63 => ?_) (fun c_63 => ?_)
            · skip
              have h_63 := if0 c_63
              have hpm3 : (rgp so4 ra4 lc4).Perm (prs 1 t o (i + 1).toNat) := by
                rw [prs_n hi.1 (show rnk 1 t o.2.2.2 (atP o.1 i) = none by unfold rnk; rw [if_neg h_35, if_neg (fun z => h_63 z.2)])]
                exact hpm
              skip
              refine i_iinc (j := 2) (q := 94) (lv' := [(2, vI (i + 1)), (0, vP (ax 0)), (1, vI x)]) C rfl (by decide) rfl dX7_near_91 rfl ?_
              refine i_goto (q := 19) C dX7_near_94 (by decide) ?_
              refine V.lv [1, 2, 0] rfl ?_
              exact ih_19 (i + 1) (so4) (ra4) (lc4) (by omega) (by omega) (by omega) (by first | exact hsr2 | exact hsr) (by first | exact hin2 | exact fun j g0 g1 => by have := hbd j g0 g1; omega) (by first | exact hpm2 | exact hpm3)
            · skip
              have h_63 := ifn0 c_63
              refine i_aload_n (j := 0) (q := 67) C rfl rfl dX7_near_66 rfl ?_
              refine i_get (i := 0) (j := 0) (f := 2) (q := 70) C rfl rfl rfl hi_X7_near_X7 (by decide) lk_X7_near_26 rfl dX7_near_67 rfl ?_
              refine i_iload_n (j := 2) (q := 71) C rfl rfl dX7_near_70 rfl ?_
              refine i_aload_n (j := 0) (q := 72) C rfl rfl dX7_near_71 rfl ?_
              refine i_get (i := 0) (j := 0) (f := 0) (q := 75) C rfl rfl rfl hi_X7_near_X7 (by decide) lk_X7_near_10 rfl dX7_near_72 rfl ?_
              refine i_get (i := 1) (j := 0) (f := 2) (q := 78) C rfl rfl rfl hi_X7_near_X0 (by decide) lk_X7_near_122 rfl dX7_near_75 rfl ?_
              refine i_iload_n (j := 2) (q := 79) C rfl rfl dX7_near_78 rfl ?_
              refine i_iald (i := 1) (j := 3) (q := 80) C rfl rfl (by omega) dX7_near_79 rfl ?_
              have ld_79 := hb.xsc i (by omega) (by omega)
              refine i_aload_n (j := 0) (q := 81) C rfl rfl dX7_near_80 rfl ?_
              refine i_get (i := 0) (j := 0) (f := 0) (q := 84) C rfl rfl rfl hi_X7_near_X7 (by decide) lk_X7_near_10 rfl dX7_near_81 rfl ?_
              refine i_get (i := 1) (j := 0) (f := 9) (q := 87) C rfl rfl rfl hi_X7_near_X0 (by decide) lk_X7_near_133 rfl dX7_near_84 rfl ?_
              refine i_isub (q := 88) C dX7_near_87 rfl ?_
              refine i_callV (wr := [boW ax ab ap al ao (((pck t : Nat) : Int), ck, ba, no, fu), bkW ab (nu, wo, sc, me, us, la, ct, gv, kd, sl)]) (As := [vI i, vI ((sc i) - sl)]) (st := []) (i := 0) (j := 0) (q := 91) C (c_X2_insert K l (al) (so4) (ra4) (lc4) (i) ((sc i) - sl) (by omega) (fun j g0 g1 => by have := hbd j g0 g1; omega) (by omega)) gX7_near_X2_insert rfl hd_X2_insert ⟨Nat.le_of_ble_eq_true rfl, Nat.le_of_ble_eq_true rfl⟩ ⟨rfl, rfl⟩ ⟨Nat.le_of_ble_eq_true rfl, Nat.le_of_ble_eq_true rfl⟩ (permBy [2, 0, 1] (by decide) rfl rfl) rfl rfl rfl rfl (Nat.le_of_ble_eq_true rfl) dX7_near_88 rfl (fun v w hq => ?_)
              obtain ⟨so3_88, ra3_88, a3_88, rfl, rfl, hin_88⟩ := hq
              show V X 0 0 91 [(0, vP (ax 0)), (1, vI x), (2, vI i)] [] [liW al (so3_88, ra3_88, lc4 + 1), boW ax ab ap al ao (((pck t : Nat) : Int), ck, ba, no, fu), bkW ab (nu, wo, sc, me, us, la, ct, gv, kd, sl)]
              refine V.perm (cs' := [boW ax ab ap al ao (((pck t : Nat) : Int), ck, ba, no, fu), bkW ab (nu, wo, sc, me, us, la, ct, gv, kd, sl), liW al (so3_88, ra3_88, lc4 + 1)]) (permBy [1, 2, 0] (by decide) rfl rfl) ?_
              have hin2 := ins_in hin_88 (P := fun a b => (0 ≤ a ∧ a < i + 1) ∧ -1000 ≤ b ∧ b ≤ 1000) (fun j g0 g1 => by have := hbd j g0 g1; omega) (by omega)
              have hsr2 := ins_srt hin_88 hsr (fun j g0 g1 => by have := hbd j g0 g1; omega)
              have hpm2 : (rgp so3_88 ra3_88 (lc4 + 1)).Perm (prs 1 t o (i + 1).toNat) := by
                rw [prs_y hi.1 (show rnk 1 t o.2.2.2 (atP o.1 i) = some ((atP o.1 i).1, (atP o.1 i).2.2.1 - o.2.2.2, (atP o.1 i).2.2.2.1) by unfold rnk; rw [if_neg h_35, if_pos ⟨by decide, h_63⟩])]
                exact (ins_perm hin_88).trans (by rw [hsi.2, hsl.2]; exact hpm.append_right _)
              refine i_iinc (j := 2) (q := 94) (lv' := [(2, vI (i + 1)), (0, vP (ax 0)), (1, vI x)]) C rfl (by decide) rfl dX7_near_91 rfl ?_
              refine i_goto (q := 19) C dX7_near_94 (by decide) ?_
              refine V.lv [1, 2, 0] rfl ?_
              exact ih_19 (i + 1) (so3_88) (ra3_88) (lc4 + 1) (by omega) (by omega) (by omega) (by first | exact hsr2 | exact hsr) (by first | exact hin2 | exact fun j g0 g1 => by have := hbd j g0 g1; omega) (by first | exact hpm2 | exact hpm3)
          · skip
            have h_35 := ifn0 c_35
            refine i_aload_n (j := 0) (q := 39) C rfl rfl dX7_near_38 rfl ?_
            refine i_get (i := 0) (j := 0) (f := 2) (q := 42) C rfl rfl rfl hi_X7_near_X7 (by decide) lk_X7_near_26 rfl dX7_near_39 rfl ?_
            refine i_iload_n (j := 2) (q := 43) C rfl rfl dX7_near_42 rfl ?_
            refine i_aload_n (j := 0) (q := 44) C rfl rfl dX7_near_43 rfl ?_
            refine i_get (i := 0) (j := 0) (f := 0) (q := 47) C rfl rfl rfl hi_X7_near_X7 (by decide) lk_X7_near_10 rfl dX7_near_44 rfl ?_
            refine i_get (i := 1) (j := 0) (f := 2) (q := 50) C rfl rfl rfl hi_X7_near_X0 (by decide) lk_X7_near_122 rfl dX7_near_47 rfl ?_
            refine i_iload_n (j := 2) (q := 51) C rfl rfl dX7_near_50 rfl ?_
            refine i_iald (i := 1) (j := 3) (q := 52) C rfl rfl (by omega) dX7_near_51 rfl ?_
            have ld_51 := hb.xsc i (by omega) (by omega)
            refine i_callV (wr := [boW ax ab ap al ao (((pck t : Nat) : Int), ck, ba, no, fu), bkW ab (nu, wo, sc, me, us, la, ct, gv, kd, sl)]) (As := [vI i, vI (sc i)]) (st := []) (i := 0) (j := 0) (q := 55) C (c_X2_insert K l (al) (so4) (ra4) (lc4) (i) (sc i) (by omega) (fun j g0 g1 => by have := hbd j g0 g1; omega) (by omega)) gX7_near_X2_insert rfl hd_X2_insert ⟨Nat.le_of_ble_eq_true rfl, Nat.le_of_ble_eq_true rfl⟩ ⟨rfl, rfl⟩ ⟨Nat.le_of_ble_eq_true rfl, Nat.le_of_ble_eq_true rfl⟩ (permBy [2, 0, 1] (by decide) rfl rfl) rfl rfl rfl rfl (Nat.le_of_ble_eq_true rfl) dX7_near_52 rfl (fun v w hq => ?_)
            obtain ⟨so3_52, ra3_52, a3_52, rfl, rfl, hin_52⟩ := hq
            show V X 0 0 55 [(0, vP (ax 0)), (1, vI x), (2, vI i)] [] [liW al (so3_52, ra3_52, lc4 + 1), boW ax ab ap al ao (((pck t : Nat) : Int), ck, ba, no, fu), bkW ab (nu, wo, sc, me, us, la, ct, gv, kd, sl)]
            refine V.perm (cs' := [boW ax ab ap al ao (((pck t : Nat) : Int), ck, ba, no, fu), bkW ab (nu, wo, sc, me, us, la, ct, gv, kd, sl), liW al (so3_52, ra3_52, lc4 + 1)]) (permBy [1, 2, 0] (by decide) rfl rfl) ?_
            have hin2 := ins_in hin_52 (P := fun a b => (0 ≤ a ∧ a < i + 1) ∧ -1000 ≤ b ∧ b ≤ 1000) (fun j g0 g1 => by have := hbd j g0 g1; omega) (by omega)
            have hsr2 := ins_srt hin_52 hsr (fun j g0 g1 => by have := hbd j g0 g1; omega)
            have hpm2 : (rgp so3_52 ra3_52 (lc4 + 1)).Perm (prs 1 t o (i + 1).toNat) := by
              rw [prs_y hi.1 (show rnk 1 t o.2.2.2 (atP o.1 i) = some ((atP o.1 i).1, (atP o.1 i).2.2.1, (atP o.1 i).2.2.2.1) by unfold rnk; rw [if_pos h_35])]
              exact (ins_perm hin_52).trans (by rw [hsi.2]; exact hpm.append_right _)
            refine i_goto (q := 91) C dX7_near_55 (by decide) ?_
            skip
            refine i_iinc (j := 2) (q := 94) (lv' := [(2, vI (i + 1)), (0, vP (ax 0)), (1, vI x)]) C rfl (by decide) rfl dX7_near_91 rfl ?_
            refine i_goto (q := 19) C dX7_near_94 (by decide) ?_
            refine V.lv [1, 2, 0] rfl ?_
            exact ih_19 (i + 1) (so3_52) (ra3_52) (lc4 + 1) (by omega) (by omega) (by omega) (by first | exact hsr2 | exact hsr) (by first | exact hin2 | exact fun j g0 g1 => by have := hbd j g0 g1; omega) (by first | exact hpm2 | exact hpm3)
    refine V.lv [1, 2, 0] rfl ?_
    exact loop_19 _ (0) (so) (ra) (0) (Nat.lt_succ_self _) (by omega) (by omega) (fun i j _ _ _ => by omega) (fun j _ _ => by omega) (List.Perm.refl _)
  · skip
    refine i_aload_n (j := 0) (q := 6) C rfl rfl dX7_near_5 rfl ?_
    refine i_callV (wr := [bkW ab (nu, wo, sc, me, us, la, ct, gv, kd, sl), liW al (so, ra, lc)]) (As := []) (st := []) (i := 0) (j := 0) (q := 9) C (c_X7_refusePlace K l (ab) (ax) (ap) (al) (ao) (((pck t : Nat) : Int)) (ck) (ba) (no) (fu) ) gX7_near_X7_refusePlace rfl hd_X7_refusePlace ⟨Nat.le_of_ble_eq_true rfl, Nat.le_of_ble_eq_true rfl⟩ ⟨rfl, rfl⟩ ⟨Nat.le_of_ble_eq_true rfl, Nat.le_of_ble_eq_true rfl⟩ (permBy [0, 1, 2] (by decide) rfl rfl) rfl rfl rfl rfl (Nat.le_of_ble_eq_true rfl) dX7_near_6 rfl (fun v w hq => ?_)
    obtain ⟨rfl, rfl⟩ := hq
    show V X 0 0 9 [(0, vP (ax 0)), (1, vI x)] [vI (-10)] [boW ax ab ap al ao (((pck t : Nat) : Int), ck, ba + 1, no, fu), bkW ab (nu, wo, sc, me, us, la, ct, gv, kd, sl), liW al (so, ra, lc)]
    refine i_iret C hR dX7_near_9 ?_
    have hsp : (sp_best 1 x (o, h, t, ck, tx, ba, no, fu)) = (-10, (o, h, t, ck, tx, ba + 1, no, fu)) := by
      simp only [sp_best]
      rw [if_pos (by omega)]
      rfl
    exact ⟨ba + 1, so, ra, lc, by rw [hsp], rfl, by rw [hsp]; exact hC.bad hN⟩
