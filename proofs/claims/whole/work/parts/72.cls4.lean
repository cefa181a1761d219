theorem lk_X7_top_10 : Cond.fieldLink RX7 10 (TX7 0).1 (TX7 0).2.1 (TX7 0).2.2.1 ∈ wsX7_top := List.mem_of_getElem? (i := 1) rfl
theorem hi_X7_top_X7 : ∀ w ∈ u_ws RX7 TX7 9, w ∈ wsX7_top := by decide +kernel
theorem lk_X7_top_139 : Cond.fieldLink RX7 139 (TX0 6).1 (TX0 6).2.1 (TX0 6).2.2.1 ∈ wsX7_top := List.mem_of_getElem? (i := 2) rfl
theorem hi_X7_top_X0 : ∀ w ∈ u_ws RX0 TX0 10, w ∈ wsX7_top := by decide +kernel
theorem hd_X7_beginsSo : yX7_beginsSo.cls = RX7 ∧ yX7_beginsSo.cls ≠ "java/lang/invoke/MethodHandle" ∧ yX7_beginsSo.cls ≠ "java/lang/invoke/VarHandle" ∧ (parseMethodDescriptor yX7_beginsSo.desc).map (fun d => d.parameters.length) = some 1 := by decide +kernel
theorem lk_X7_top_122 : Cond.fieldLink RX7 122 (TX0 2).1 (TX0 2).2.1 (TX0 2).2.2.1 ∈ wsX7_top := List.mem_of_getElem? (i := 3) rfl
set_option maxHeartbeats 400000 in
set_option maxRecDepth 100000 in
theorem c_X7_top (K : KT) (l : Launch) (ax : Nat → Nat) (ap : Nat → Nat) (al : Nat → Nat) (ao : Nat → Nat) (ck : Int) (ba : Int) (no : Int) (fu : Int) (t : List Int) (ab : Nat → Nat) (nu : Int → Int) (wo : Int → Int) (sc : Int → Int) (me : Int → Int) (us : Int → Int) (la : Int → Int) (ct : Int) (gv : Int) (kd : Int) (sl : Int) (ak : Int → Nat → Nat) (nx : Int) (pc : Int) (Bs : Int → Bk) (by_ : Int → Int) (ve : Int → Int) (ow : Int → Int) (fi : Int → Int) (se : Int → Int) (le : Int) (oc : Int) (pl : Int) (fa : Int) (so : Int → Int) (ra : Int → Int) (lc : Int) (o : Bo) (h : List Bo) (tx : List Int) (N : Int) (hC : okC N nu wo sc me us la ct gv kd sl Bs nx pc ((pck t : Nat) : Int) ck ba no fu by_ le (o, h, t, ck, tx, ba, no, fu)) : Mt K l yX7_top wsX7_top ({ frames := 5, cells := 0, slots := 0, locals := 108 }) [vP (ax 0)] [boW ax ab ap al ao (((pck t : Nat) : Int), ck, ba, no, fu), bkW ab (nu, wo, sc, me, us, la, ct, gv, kd, sl)] 0 0 (fun v w => v = some (vI (tps t o.1)) ∧ w = [boW ax ab ap al ao (((pck t : Nat) : Int), ck, ba, no, fu), bkW ab (nu, wo, sc, me, us, la, ct, gv, kd, sl)]) := by
  refine Mt.of (own := RX7) (cc := cX7_top) (maxL := 3) (ret := (some .int)) (lv0 := [(0, vP (ax 0))]) (by decide) rfl rfl (Nat.le_of_ble_eq_true rfl) rfl (fun X C hR hNm => ?_)
  have hb := hC.hb
  have hct := hb.xct
  have hgv := hb.xgv
  have hkd := hb.xkd
  have hsl := hb.xsl
  obtain ⟨ht, hlt⟩ := hC.ht
  have hNN := hC.hN
  have hhx := hC.hh.1
  have hhp := hC.hh.2.1
  have hhl := hC.hh.2.2.1
  have hck := hC.hck
  have hTx := hC.hx
  refine i_iconst (q := 1) C dX7_top_0 rfl ?_
  refine i_istore_n (q := 2) (lv' := [(1, vI ((-1))), (0, vP (ax 0))]) C rfl (by decide) rfl dX7_top_1 rfl ?_
  refine i_iconst (q := 3) C dX7_top_2 rfl ?_
  refine i_istore_n (q := 4) (lv' := [(2, vI 0), (1, vI ((-1))), (0, vP (ax 0))]) C rfl (by decide) rfl dX7_top_3 rfl ?_
  have loop_4 : ∀ (fuel : Nat) (i : Int) (m : Int), ((ct - i).toNat) < fuel → (0 ≤ i ∧ i ≤ ct) → (m = tpv (fo (cB t 0) (o.1.take i.toNat))) → (-1 ≤ m ∧ m ≤ 1000) → V X 0 0 4 [(0, vP (ax 0)), (1, vI m), (2, vI i)] [] [boW ax ab ap al ao (((pck t : Nat) : Int), ck, ba, no, fu), bkW ab (nu, wo, sc, me, us, la, ct, gv, kd, sl)] := by
    intro fuel
    induction fuel with
    | zero => intro i m hz; exact absurd hz (Nat.not_lt_zero _)
    | succ fuel ih_4 =>
      intro i m hfu_4 hi hv hm
      refine i_iload_n (j := 2) (q := 5) C rfl rfl dX7_top_4 rfl ?_
      refine i_aload_n (j := 0) (q := 6) C rfl rfl dX7_top_5 rfl ?_
      refine i_get (i := 0) (j := 0) (f := 0) (q := 9) C rfl rfl rfl hi_X7_top_X7 (by decide) lk_X7_top_10 rfl dX7_top_6 rfl ?_
      refine i_get (i := 1) (j := 0) (f := 6) (q := 12) C rfl rfl rfl hi_X7_top_X0 (by decide) lk_X7_top_139 rfl dX7_top_9 rfl ?_
      refine i_icmp_ge (tgt := 43) (q := 15) C (by omega) (by omega) dX7_top_12 (by decide) rfl (fun c_12 => ?_) (fun c_12 => ?_)
      · skip
        refine i_iload_n (j := 1) (q := 44) C rfl rfl dX7_top_43 rfl ?_
        refine i_iret C hR dX7_top_44 ?_
        have hall : o.1.take i.toNat = o.1 := tk_all (by omega)
        rw [hall] at hv
        exact ⟨by rw [hv]; rfl, rfl⟩
      · skip
        refine i_aload_n (j := 0) (q := 16) C rfl rfl dX7_top_15 rfl ?_
        refine i_iload_n (j := 2) (q := 17) C rfl rfl dX7_top_16 rfl ?_
        refine i_callV (wr := []) (As := [vI i]) (st := []) (i := 0) (j := 0) (q := 20) C (c_X7_beginsSo K l (ax) (ap) (al) (ao) (ck) (ba) (no) (fu) (t) (ab) (nu) (wo) (sc) (me) (us) (la) (ct) (gv) (kd) (sl) (24 * N) (o) (i) (by first | assumption | omega) (by first | assumption | omega) (by first | assumption | omega) (by first | assumption | omega)) gX7_top_X7_beginsSo rfl hd_X7_beginsSo ⟨Nat.le_of_ble_eq_true rfl, Nat.le_of_ble_eq_true rfl⟩ ⟨rfl, rfl⟩ ⟨Nat.le_of_ble_eq_true rfl, Nat.le_of_ble_eq_true rfl⟩ (permBy [0, 1] (by decide) rfl rfl) rfl rfl rfl rfl (Nat.le_of_ble_eq_true rfl) dX7_top_17 rfl (fun v w hq => ?_)
        obtain ⟨rfl, rfl⟩ := hq
        show V X 0 0 20 [(0, vP (ax 0)), (1, vI m), (2, vI i)] [vI (if bgs t (atP o.1 i).2.1 = true then 1 else 0)] [boW ax ab ap al ao (((pck t : Nat) : Int), ck, ba, no, fu), bkW ab (nu, wo, sc, me, us, la, ct, gv, kd, sl)]
        refine i_if_eq (tgt := 37) (q := 23) C (if01) dX7_top_20 (by decide) rfl (fun c_20 => ?_) (fun c_20 => ?_)
        · skip
          have h_20 := if0 c_20
          refine i_iinc (j := 2) (q := 40) (lv' := [(2, vI (i + 1)), (0, vP (ax 0)), (1, vI m)]) C rfl (by decide) rfl dX7_top_37 rfl ?_
          refine i_goto (q := 4) C dX7_top_40 (by decide) ?_
          refine V.lv [1, 2, 0] rfl ?_
          exact ih_4 (i + 1) (m) (by omega) (by omega) (by
            rw [fo_tk _ hi.1 (by omega)]
            first
              | (rw [fo_n (fun z => h_20 (cB0.mp z))]; exact hv)
              | (have hsi := hb.xsc i (by omega) (by omega); rw [tpv_y (cB0.mpr h_20) (by omega), ← hv, ← hsi.2])) (by omega)
        · skip
          have h_20 := ifn0 c_20
          refine i_iload_n (j := 1) (q := 24) C rfl rfl dX7_top_23 rfl ?_
          refine i_aload_n (j := 0) (q := 25) C rfl rfl dX7_top_24 rfl ?_
          refine i_get (i := 0) (j := 0) (f := 0) (q := 28) C rfl rfl rfl hi_X7_top_X7 (by decide) lk_X7_top_10 rfl dX7_top_25 rfl ?_
          refine i_get (i := 1) (j := 0) (f := 2) (q := 31) C rfl rfl rfl hi_X7_top_X0 (by decide) lk_X7_top_122 rfl dX7_top_28 rfl ?_
          refine i_iload_n (j := 2) (q := 32) C rfl rfl dX7_top_31 rfl ?_
          refine i_iald (i := 1) (j := 3) (q := 33) C rfl rfl (by omega) dX7_top_32 rfl ?_
          have ld_32 := hb.xsc i (by omega) (by omega)
          refine i_mmax (q := 36) C (by omega) (by omega) (List.mem_of_getElem? (i := 4) rfl) (List.mem_of_getElem? (i := 5) rfl) (List.mem_of_getElem? (i := 6) rfl) (List.mem_of_getElem? (i := 7) rfl) ⟨Nat.le_of_ble_eq_true rfl, Nat.le_of_ble_eq_true rfl⟩ ⟨Nat.le_of_ble_eq_true rfl, Nat.le_of_ble_eq_true rfl⟩ dX7_top_33 rfl ?_
          refine i_istore_n (q := 37) (lv' := [(1, vI (max m (sc i))), (0, vP (ax 0)), (2, vI i)]) C rfl (by decide) rfl dX7_top_36 rfl ?_
          refine i_iinc (j := 2) (q := 40) (lv' := [(2, vI (i + 1)), (1, vI (max m (sc i))), (0, vP (ax 0))]) C rfl (by decide) rfl dX7_top_37 rfl ?_
          refine i_goto (q := 4) C dX7_top_40 (by decide) ?_
          refine V.lv [2, 1, 0] rfl ?_
          exact ih_4 (i + 1) (max m (sc i)) (by omega) (by omega) (by
            rw [fo_tk _ hi.1 (by omega)]
            first
              | (rw [fo_n (fun z => h_20 (cB0.mp z))]; exact hv)
              | (have hsi := hb.xsc i (by omega) (by omega); rw [tpv_y (cB0.mpr h_20) (by omega), ← hv, ← hsi.2])) (by omega)
  refine V.lv [2, 1, 0] rfl ?_
  exact loop_4 _ (0) ((-1)) (Nat.lt_succ_self _) (by omega) (rfl) (by omega)

theorem lk_X7_under_10 : Cond.fieldLink RX7 10 (TX7 0).1 (TX7 0).2.1 (TX7 0).2.2.1 ∈ wsX7_under := List.mem_of_getElem? (i := 1) rfl
theorem hi_X7_under_X7 : ∀ w ∈ u_ws RX7 TX7 9, w ∈ wsX7_under := by decide +kernel
theorem lk_X7_under_139 : Cond.fieldLink RX7 139 (TX0 6).1 (TX0 6).2.1 (TX0 6).2.2.1 ∈ wsX7_under := List.mem_of_getElem? (i := 2) rfl
theorem hi_X7_under_X0 : ∀ w ∈ u_ws RX0 TX0 10, w ∈ wsX7_under := by decide +kernel
set_option maxHeartbeats 400000 in
set_option maxRecDepth 100000 in
theorem c_X7_under (K : KT) (l : Launch) (ax : Nat → Nat) (ap : Nat → Nat) (al : Nat → Nat) (ao : Nat → Nat) (ck : Int) (ba : Int) (no : Int) (fu : Int) (t : List Int) (ab : Nat → Nat) (nu : Int → Int) (wo : Int → Int) (sc : Int → Int) (me : Int → Int) (us : Int → Int) (la : Int → Int) (ct : Int) (gv : Int) (kd : Int) (sl : Int) (ak : Int → Nat → Nat) (nx : Int) (pc : Int) (Bs : Int → Bk) (by_ : Int → Int) (ve : Int → Int) (ow : Int → Int) (fi : Int → Int) (se : Int → Int) (le : Int) (oc : Int) (pl : Int) (fa : Int) (so : Int → Int) (ra : Int → Int) (lc : Int) (o : Bo) (h : List Bo) (tx : List Int) (N : Int) (hC : okC N nu wo sc me us la ct gv kd sl Bs nx pc ((pck t : Nat) : Int) ck ba no fu by_ le (o, h, t, ck, tx, ba, no, fu)) : Mt K l yX7_under wsX7_under ({ frames := 5, cells := 0, slots := 0, locals := 108 }) [vP (ax 0)] [boW ax ab ap al ao (((pck t : Nat) : Int), ck, ba, no, fu), bkW ab (nu, wo, sc, me, us, la, ct, gv, kd, sl)] 0 0 (fun v w => v = some (vI (und t o.1)) ∧ w = [boW ax ab ap al ao (((pck t : Nat) : Int), ck, ba, no, fu), bkW ab (nu, wo, sc, me, us, la, ct, gv, kd, sl)]) := by
  refine Mt.of (own := RX7) (cc := cX7_under) (maxL := 3) (ret := (some .int)) (lv0 := [(0, vP (ax 0))]) (by decide) rfl rfl (Nat.le_of_ble_eq_true rfl) rfl (fun X C hR hNm => ?_)
  have hb := hC.hb
  have hct := hb.xct
  have hgv := hb.xgv
  have hkd := hb.xkd
  have hsl := hb.xsl
  obtain ⟨ht, hlt⟩ := hC.ht
  have hNN := hC.hN
  have hhx := hC.hh.1
  have hhp := hC.hh.2.1
  have hhl := hC.hh.2.2.1
  have hck := hC.hck
  have hTx := hC.hx
  refine i_iconst (q := 1) C dX7_under_0 rfl ?_
  refine i_istore_n (q := 2) (lv' := [(1, vI 0), (0, vP (ax 0))]) C rfl (by decide) rfl dX7_under_1 rfl ?_
  refine i_iconst (q := 3) C dX7_under_2 rfl ?_
  refine i_istore_n (q := 4) (lv' := [(2, vI 0), (1, vI 0), (0, vP (ax 0))]) C rfl (by decide) rfl dX7_under_3 rfl ?_
  have loop_4 : ∀ (fuel : Nat) (i : Int) (m : Int), ((ct - i).toNat) < fuel → (0 ≤ i ∧ i ≤ ct) → (m = (((o.1.take i.toNat).filter (fun x : Ph => bgs t x.2.1)).length : Int)) → V X 0 0 4 [(0, vP (ax 0)), (1, vI m), (2, vI i)] [] [boW ax ab ap al ao (((pck t : Nat) : Int), ck, ba, no, fu), bkW ab (nu, wo, sc, me, us, la, ct, gv, kd, sl)] := by
    intro fuel
    induction fuel with
    | zero => intro i m hz; exact absurd hz (Nat.not_lt_zero _)
    | succ fuel ih_4 =>
      intro i m hfu_4 hi hv
      refine i_iload_n (j := 2) (q := 5) C rfl rfl dX7_under_4 rfl ?_
      refine i_aload_n (j := 0) (q := 6) C rfl rfl dX7_under_5 rfl ?_
      refine i_get (i := 0) (j := 0) (f := 0) (q := 9) C rfl rfl rfl hi_X7_under_X7 (by decide) lk_X7_under_10 rfl dX7_under_6 rfl ?_
      refine i_get (i := 1) (j := 0) (f := 6) (q := 12) C rfl rfl rfl hi_X7_under_X0 (by decide) lk_X7_under_139 rfl dX7_under_9 rfl ?_
      refine i_icmp_ge (tgt := 32) (q := 15) C (by omega) (by omega) dX7_under_12 (by decide) rfl (fun c_12 => ?_) (fun c_12 => ?_)
      · skip
        refine i_iload_n (j := 1) (q := 33) C rfl rfl dX7_under_32 rfl ?_
        refine i_iret C hR dX7_under_33 ?_
        have hall : o.1.take i.toNat = o.1 := tk_all (by omega)
        rw [hall] at hv
        exact ⟨by rw [hv]; rfl, rfl⟩
      · skip
        refine i_aload_n (j := 0) (q := 16) C rfl rfl dX7_under_15 rfl ?_
        refine i_iload_n (j := 2) (q := 17) C rfl rfl dX7_under_16 rfl ?_
        refine i_callV (wr := []) (As := [vI i]) (st := []) (i := 0) (j := 0) (q := 20) C (c_X7_beginsSo K l (ax) (ap) (al) (ao) (ck) (ba) (no) (fu) (t) (ab) (nu) (wo) (sc) (me) (us) (la) (ct) (gv) (kd) (sl) (24 * N) (o) (i) (by first | assumption | omega) (by first | assumption | omega) (by first | assumption | omega) (by first | assumption | omega)) gX7_under_X7_beginsSo rfl hd_X7_beginsSo ⟨Nat.le_of_ble_eq_true rfl, Nat.le_of_ble_eq_true rfl⟩ ⟨rfl, rfl⟩ ⟨Nat.le_of_ble_eq_true rfl, Nat.le_of_ble_eq_true rfl⟩ (permBy [0, 1] (by decide) rfl rfl) rfl rfl rfl rfl (Nat.le_of_ble_eq_true rfl) dX7_under_17 rfl (fun v w hq => ?_)
        obtain ⟨rfl, rfl⟩ := hq
        show V X 0 0 20 [(0, vP (ax 0)), (1, vI m), (2, vI i)] [vI (if bgs t (atP o.1 i).2.1 = true then 1 else 0)] [boW ax ab ap al ao (((pck t : Nat) : Int), ck, ba, no, fu), bkW ab (nu, wo, sc, me, us, la, ct, gv, kd, sl)]
        refine i_if_eq (tgt := 26) (q := 23) C (if01) dX7_under_20 (by decide) rfl (fun c_20 => ?_) (fun c_20 => ?_)
        · skip
          have h_20 := if0 c_20
          refine i_iinc (j := 2) (q := 29) (lv' := [(2, vI (i + 1)), (0, vP (ax 0)), (1, vI m)]) C rfl (by decide) rfl dX7_under_26 rfl ?_
          refine i_goto (q := 4) C dX7_under_29 (by decide) ?_
          refine V.lv [1, 2, 0] rfl ?_
          exact ih_4 (i + 1) (m) (by omega) (by omega) (by
            rw [fil_tk _ hi.1 (by omega), ← hv]
            first
              | exact (by rw [if_neg h_20]; omega)
              | exact (by rw [if_pos h_20]))
        · skip
          have h_20 := ifn0 c_20
          refine i_iinc (j := 1) (q := 26) (lv' := [(1, vI (m + 1)), (0, vP (ax 0)), (2, vI i)]) C rfl (by decide) rfl dX7_under_23 rfl ?_
          refine i_iinc (j := 2) (q := 29) (lv' := [(2, vI (i + 1)), (1, vI (m + 1)), (0, vP (ax 0))]) C rfl (by decide) rfl dX7_under_26 rfl ?_
          refine i_goto (q := 4) C dX7_under_29 (by decide) ?_
          refine V.lv [2, 1, 0] rfl ?_
          exact ih_4 (i + 1) (m + 1) (by omega) (by omega) (by
            rw [fil_tk _ hi.1 (by omega), ← hv]
            first
              | exact (by rw [if_neg h_20]; omega)
              | exact (by rw [if_pos h_20]))
  refine V.lv [2, 1, 0] rfl ?_
  exact loop_4 _ (0) (0) (Nat.lt_succ_self _) (by omega) (rfl)

theorem lk_X7_close_10 : Cond.fieldLink RX7 10 (TX7 0).1 (TX7 0).2.1 (TX7 0).2.2.1 ∈ wsX7_close := List.mem_of_getElem? (i := 1) rfl
theorem hi_X7_close_X7 : ∀ w ∈ u_ws RX7 TX7 9, w ∈ wsX7_close := by decide +kernel
theorem lk_X7_close_139 : Cond.fieldLink RX7 139 (TX0 6).1 (TX0 6).2.1 (TX0 6).2.2.1 ∈ wsX7_close := List.mem_of_getElem? (i := 2) rfl
theorem hi_X7_close_X0 : ∀ w ∈ u_ws RX0 TX0 10, w ∈ wsX7_close := by decide +kernel
theorem hd_X7_isClose : yX7_isClose.cls = RX7 ∧ yX7_isClose.cls ≠ "java/lang/invoke/MethodHandle" ∧ yX7_isClose.cls ≠ "java/lang/invoke/VarHandle" ∧ (parseMethodDescriptor yX7_isClose.desc).map (fun d => d.parameters.length) = some 1 := by decide +kernel
set_option maxHeartbeats 400000 in
set_option maxRecDepth 100000 in
theorem c_X7_close (K : KT) (l : Launch) (ax : Nat → Nat) (ap : Nat → Nat) (al : Nat → Nat) (ao : Nat → Nat) (ck : Int) (ba : Int) (no : Int) (fu : Int) (t : List Int) (ab : Nat → Nat) (nu : Int → Int) (wo : Int → Int) (sc : Int → Int) (me : Int → Int) (us : Int → Int) (la : Int → Int) (ct : Int) (gv : Int) (kd : Int) (sl : Int) (ak : Int → Nat → Nat) (nx : Int) (pc : Int) (Bs : Int → Bk) (by_ : Int → Int) (ve : Int → Int) (ow : Int → Int) (fi : Int → Int) (se : Int → Int) (le : Int) (oc : Int) (pl : Int) (fa : Int) (so : Int → Int) (ra : Int → Int) (lc : Int) (o : Bo) (h : List Bo) (tx : List Int) (N : Int) (hC : okC N nu wo sc me us la ct gv kd sl Bs nx pc ((pck t : Nat) : Int) ck ba no fu by_ le (o, h, t, ck, tx, ba, no, fu)) : Mt K l yX7_close wsX7_close ({ frames := 6, cells := 0, slots := 0, locals := 135 }) [vP (ax 0)] [boW ax ab ap al ao (((pck t : Nat) : Int), ck, ba, no, fu), bkW ab (nu, wo, sc, me, us, la, ct, gv, kd, sl)] 0 0 (fun v w => v = some (vI (cls t o.1)) ∧ w = [boW ax ab ap al ao (((pck t : Nat) : Int), ck, ba, no, fu), bkW ab (nu, wo, sc, me, us, la, ct, gv, kd, sl)]) := by
  refine Mt.of (own := RX7) (cc := cX7_close) (maxL := 3) (ret := (some .int)) (lv0 := [(0, vP (ax 0))]) (by decide) rfl rfl (Nat.le_of_ble_eq_true rfl) rfl (fun X C hR hNm => ?_)
  have hb := hC.hb
  have hct := hb.xct
  have hgv := hb.xgv
  have hkd := hb.xkd
  have hsl := hb.xsl
  obtain ⟨ht, hlt⟩ := hC.ht
  have hNN := hC.hN
  have hhx := hC.hh.1
  have hhp := hC.hh.2.1
  have hhl := hC.hh.2.2.1
  have hck := hC.hck
  have hTx := hC.hx
  refine i_iconst (q := 1) C dX7_close_0 rfl ?_
  refine i_istore_n (q := 2) (lv' := [(1, vI 0), (0, vP (ax 0))]) C rfl (by decide) rfl dX7_close_1 rfl ?_
  refine i_iconst (q := 3) C dX7_close_2 rfl ?_
  refine i_istore_n (q := 4) (lv' := [(2, vI 0), (1, vI 0), (0, vP (ax 0))]) C rfl (by decide) rfl dX7_close_3 rfl ?_
  have loop_4 : ∀ (fuel : Nat) (i : Int) (m : Int), ((ct - i).toNat) < fuel → (0 ≤ i ∧ i ≤ ct) → (m = (((o.1.take i.toNat).filter (fun x : Ph => clo t x.2.1)).length : Int)) → V X 0 0 4 [(0, vP (ax 0)), (1, vI m), (2, vI i)] [] [boW ax ab ap al ao (((pck t : Nat) : Int), ck, ba, no, fu), bkW ab (nu, wo, sc, me, us, la, ct, gv, kd, sl)] := by
    intro fuel
    induction fuel with
    | zero => intro i m hz; exact absurd hz (Nat.not_lt_zero _)
    | succ fuel ih_4 =>
      intro i m hfu_4 hi hv
      refine i_iload_n (j := 2) (q := 5) C rfl rfl dX7_close_4 rfl ?_
      refine i_aload_n (j := 0) (q := 6) C rfl rfl dX7_close_5 rfl ?_
      refine i_get (i := 0) (j := 0) (f := 0) (q := 9) C rfl rfl rfl hi_X7_close_X7 (by decide) lk_X7_close_10 rfl dX7_close_6 rfl ?_
      refine i_get (i := 1) (j := 0) (f := 6) (q := 12) C rfl rfl rfl hi_X7_close_X0 (by decide) lk_X7_close_139 rfl dX7_close_9 rfl ?_
      refine i_icmp_ge (tgt := 32) (q := 15) C (by omega) (by omega) dX7_close_12 (by decide) rfl (fun c_12 => ?_) (fun c_12 => ?_)
      · skip
        refine i_iload_n (j := 1) (q := 33) C rfl rfl dX7_close_32 rfl ?_
        refine i_iret C hR dX7_close_33 ?_
        have hall : o.1.take i.toNat = o.1 := tk_all (by omega)
        rw [hall] at hv
        exact ⟨by rw [hv]; rfl, rfl⟩
      · skip
        refine i_aload_n (j := 0) (q := 16) C rfl rfl dX7_close_15 rfl ?_
        refine i_iload_n (j := 2) (q := 17) C rfl rfl dX7_close_16 rfl ?_
        refine i_callV (wr := []) (As := [vI i]) (st := []) (i := 0) (j := 0) (q := 20) C (c_X7_isClose K l (ax) (ap) (al) (ao) (ck) (ba) (no) (fu) (t) (ab) (nu) (wo) (sc) (me) (us) (la) (ct) (gv) (kd) (sl) (24 * N) (o) (i) (by first | assumption | omega) (by first | assumption | omega) (by first | assumption | omega) (by first | assumption | omega)) gX7_close_X7_isClose rfl hd_X7_isClose ⟨Nat.le_of_ble_eq_true rfl, Nat.le_of_ble_eq_true rfl⟩ ⟨rfl, rfl⟩ ⟨Nat.le_of_ble_eq_true rfl, Nat.le_of_ble_eq_true rfl⟩ (permBy [0, 1] (by decide) rfl rfl) rfl rfl rfl rfl (Nat.le_of_ble_eq_true rfl) dX7_close_17 rfl (fun v w hq => ?_)
        obtain ⟨rfl, rfl⟩ := hq
        show V X 0 0 20 [(0, vP (ax 0)), (1, vI m), (2, vI i)] [vI (if clo t (atP o.1 i).2.1 = true then 1 else 0)] [boW ax ab ap al ao (((pck t : Nat) : Int), ck, ba, no, fu), bkW ab (nu, wo, sc, me, us, la, ct, gv, kd, sl)]
        refine i_if_eq (tgt := 26) (q := 23) C (if01) dX7_close_20 (by decide) rfl (fun c_20 => ?_) (fun c_20 => ?_)
        · skip
          have h_20 := if0 c_20
          refine i_iinc (j := 2) (q := 29) (lv' := [(2, vI (i + 1)), (0, vP (ax 0)), (1, vI m)]) C rfl (by decide) rfl dX7_close_26 rfl ?_
          refine i_goto (q := 4) C dX7_close_29 (by decide) ?_
          refine V.lv [1, 2, 0] rfl ?_
          exact ih_4 (i + 1) (m) (by omega) (by omega) (by
            rw [fil_tk _ hi.1 (by omega), ← hv]
            first
              | exact (by rw [if_neg h_20]; omega)
              | exact (by rw [if_pos h_20]))
        · skip
          have h_20 := ifn0 c_20
          refine i_iinc (j := 1) (q := 26) (lv' := [(1, vI (m + 1)), (0, vP (ax 0)), (2, vI i)]) C rfl (by decide) rfl dX7_close_23 rfl ?_
          refine i_iinc (j := 2) (q := 29) (lv' := [(2, vI (i + 1)), (1, vI (m + 1)), (0, vP (ax 0))]) C rfl (by decide) rfl dX7_close_26 rfl ?_
          refine i_goto (q := 4) C dX7_close_29 (by decide) ?_
          refine V.lv [2, 1, 0] rfl ?_
          exact ih_4 (i + 1) (m + 1) (by omega) (by omega) (by
            rw [fil_tk _ hi.1 (by omega), ← hv]
            first
              | exact (by rw [if_neg h_20]; omega)
              | exact (by rw [if_pos h_20]))
  refine V.lv [2, 1, 0] rfl ?_
  exact loop_4 _ (0) (0) (Nat.lt_succ_self _) (by omega) (rfl)

theorem lk_X7_ahead_37 : Cond.fieldLink RX7 37 (TX7 4).1 (TX7 4).2.1 (TX7 4).2.2.1 ∈ wsX7_ahead := List.mem_of_getElem? (i := 1) rfl
theorem hi_X7_ahead_X7 : ∀ w ∈ u_ws RX7 TX7 9, w ∈ wsX7_ahead := by decide +kernel
theorem lk_X7_ahead_10 : Cond.fieldLink RX7 10 (TX7 0).1 (TX7 0).2.1 (TX7 0).2.2.1 ∈ wsX7_ahead := List.mem_of_getElem? (i := 2) rfl
theorem lk_X7_ahead_139 : Cond.fieldLink RX7 139 (TX0 6).1 (TX0 6).2.1 (TX0 6).2.2.1 ∈ wsX7_ahead := List.mem_of_getElem? (i := 3) rfl
theorem hi_X7_ahead_X0 : ∀ w ∈ u_ws RX0 TX0 10, w ∈ wsX7_ahead := by decide +kernel
theorem lk_X7_ahead_92 : Cond.fieldLink RX7 92 (TX0 1).1 (TX0 1).2.1 (TX0 1).2.2.1 ∈ wsX7_ahead := List.mem_of_getElem? (i := 4) rfl
set_option maxHeartbeats 400000 in
set_option maxRecDepth 100000 in
theorem c_X7_ahead (K : KT) (l : Launch) (ax : Nat → Nat) (ap : Nat → Nat) (al : Nat → Nat) (ao : Nat → Nat) (ck : Int) (ba : Int) (no : Int) (fu : Int) (t : List Int) (ab : Nat → Nat) (nu : Int → Int) (wo : Int → Int) (sc : Int → Int) (me : Int → Int) (us : Int → Int) (la : Int → Int) (ct : Int) (gv : Int) (kd : Int) (sl : Int) (ak : Int → Nat → Nat) (nx : Int) (pc : Int) (Bs : Int → Bk) (by_ : Int → Int) (ve : Int → Int) (ow : Int → Int) (fi : Int → Int) (se : Int → Int) (le : Int) (oc : Int) (pl : Int) (fa : Int) (so : Int → Int) (ra : Int → Int) (lc : Int) (o : Bo) (h : List Bo) (tx : List Int) (N : Int) (hC : okC N nu wo sc me us la ct gv kd sl Bs nx pc ((pck t : Nat) : Int) ck ba no fu by_ le (o, h, t, ck, tx, ba, no, fu)) : Mt K l yX7_ahead wsX7_ahead ({ frames := 5, cells := 0, slots := 0, locals := 108 }) [vP (ax 0)] [boW ax ab ap al ao (((pck t : Nat) : Int), ck, ba, no, fu), bkW ab (nu, wo, sc, me, us, la, ct, gv, kd, sl)] 0 0 (fun v w => v = some (vI (ahd t o.1)) ∧ w = [boW ax ab ap al ao (((pck t : Nat) : Int), ck, ba, no, fu), bkW ab (nu, wo, sc, me, us, la, ct, gv, kd, sl)]) := by
  refine Mt.of (own := RX7) (cc := cX7_ahead) (maxL := 4) (ret := (some .int)) (lv0 := [(0, vP (ax 0))]) (by decide) rfl rfl (Nat.le_of_ble_eq_true rfl) rfl (fun X C hR hNm => ?_)
  have hb := hC.hb
  have hct := hb.xct
  have hgv := hb.xgv
  have hkd := hb.xkd
  have hsl := hb.xsl
  obtain ⟨ht, hlt⟩ := hC.ht
  have hNN := hC.hN
  have hhx := hC.hh.1
  have hhp := hC.hh.2.1
  have hhl := hC.hh.2.2.1
  have hck := hC.hck
  have hTx := hC.hx
  refine i_aload_n (j := 0) (q := 1) C rfl rfl dX7_ahead_0 rfl ?_
  refine i_get (i := 0) (j := 0) (f := 4) (q := 4) C rfl rfl rfl hi_X7_ahead_X7 (by decide) lk_X7_ahead_37 rfl dX7_ahead_1 rfl ?_
  refine i_callS (wr := [boW ax ab ap al ao (((pck t : Nat) : Int), ck, ba, no, fu), bkW ab (nu, wo, sc, me, us, la, ct, gv, kd, sl)]) (As := [vJ (((pck t : Nat) : Int))]) (st := []) (q := 7) C (c_X6_lengthOf K l (t) (by first | assumption | omega) (by first | assumption | omega)) gX7_ahead_X6_lengthOf rfl hd_X6_lengthOf ⟨Nat.le_of_ble_eq_true rfl, Nat.le_of_ble_eq_true rfl⟩ ⟨rfl, rfl⟩ ⟨Nat.le_of_ble_eq_true rfl, Nat.le_of_ble_eq_true rfl⟩ (permBy [0, 1] (by decide) rfl rfl) rfl (Nat.le_of_ble_eq_true rfl) dX7_ahead_4 rfl (fun v w hq => ?_)
  obtain ⟨rfl, rfl⟩ := hq
  show V X 0 0 7 [(0, vP (ax 0))] [vI (((t.length : Nat) : Int))] [boW ax ab ap al ao (((pck t : Nat) : Int), ck, ba, no, fu), bkW ab (nu, wo, sc, me, us, la, ct, gv, kd, sl)]
  refine i_istore_n (q := 8) (lv' := [(1, vI (((t.length : Nat) : Int))), (0, vP (ax 0))]) C rfl (by decide) rfl dX7_ahead_7 rfl ?_
  refine i_iconst (q := 9) C dX7_ahead_8 rfl ?_
  refine i_istore_n (q := 10) (lv' := [(2, vI ((-1))), (1, vI (((t.length : Nat) : Int))), (0, vP (ax 0))]) C rfl (by decide) rfl dX7_ahead_9 rfl ?_
  refine i_iconst (q := 11) C dX7_ahead_10 rfl ?_
  refine i_istore_n (q := 12) (lv' := [(3, vI 0), (2, vI ((-1))), (1, vI (((t.length : Nat) : Int))), (0, vP (ax 0))]) C rfl (by decide) rfl dX7_ahead_11 rfl ?_
  have loop_12 : ∀ (fuel : Nat) (i : Int) (f : Int), ((ct - i).toNat) < fuel → (0 ≤ i ∧ i ≤ ct) → ((f = -1 ∧ fo (cB t (t.length + 1)) (o.1.take (i).toNat) = none) ∨ (0 ≤ f ∧ f < i ∧ fo (cB t (t.length + 1)) (o.1.take (i).toNat) = some (atP o.1 f))) → V X 0 0 12 [(0, vP (ax 0)), (1, vI (((t.length : Nat) : Int))), (2, vI f), (3, vI i)] [] [boW ax ab ap al ao (((pck t : Nat) : Int), ck, ba, no, fu), bkW ab (nu, wo, sc, me, us, la, ct, gv, kd, sl)] := by
    intro fuel
    induction fuel with
    | zero => intro i f hz; exact absurd hz (Nat.not_lt_zero _)
    | succ fuel ih_12 =>
      intro i f hfu_12 hi hv
      refine i_iload_n (j := 3) (q := 13) C rfl rfl dX7_ahead_12 rfl ?_
      refine i_aload_n (j := 0) (q := 14) C rfl rfl dX7_ahead_13 rfl ?_
      refine i_get (i := 0) (j := 0) (f := 0) (q := 17) C rfl rfl rfl hi_X7_ahead_X7 (by decide) lk_X7_ahead_10 rfl dX7_ahead_14 rfl ?_
      refine i_get (i := 1) (j := 0) (f := 6) (q := 20) C rfl rfl rfl hi_X7_ahead_X0 (by decide) lk_X7_ahead_139 rfl dX7_ahead_17 rfl ?_
      refine i_icmp_ge (tgt := 72) (q := 23) C (by omega) (by omega) dX7_ahead_20 (by decide) rfl (fun c_20 => ?_) (fun c_20 => ?_)
      · skip
        refine i_iload_n (j := 2) (q := 73) C rfl rfl dX7_ahead_72 rfl ?_
        refine i_iconst (q := 74) C dX7_ahead_73 rfl ?_
        refine i_icmp_ne (tgt := 81) (q := 77) C (by rcases hv with h | h <;> omega) (by omega) dX7_ahead_74 (by decide) rfl (fun c_74 => ?_) (fun c_74 => ?_)
        · skip
          refine i_aload_n (j := 0) (q := 82) C rfl rfl dX7_ahead_81 rfl ?_
          refine i_get (i := 0) (j := 0) (f := 0) (q := 85) C rfl rfl rfl hi_X7_ahead_X7 (by decide) lk_X7_ahead_10 rfl dX7_ahead_82 rfl ?_
          refine i_get (i := 1) (j := 0) (f := 1) (q := 88) C rfl rfl rfl hi_X7_ahead_X0 (by decide) lk_X7_ahead_92 rfl dX7_ahead_85 rfl ?_
          have hf0 : 0 ≤ f ∧ f < i ∧ fo (cB t (t.length + 1)) (o.1.take i.toNat) = some (atP o.1 f) := by
            rcases hv with h | h
            · omega
            · exact h
          refine i_iload_n (j := 2) (q := 89) C rfl rfl dX7_ahead_88 rfl ?_
          refine i_lald (i := 1) (j := 2) (q := 90) C rfl rfl (by omega) dX7_ahead_89 rfl ?_
          refine V.topJ (b := ((pck ((atP o.1 f).2.1) : Nat) : Int)) ((hb.xwo f (by omega) (by omega)).1) ?_
          refine i_iload_n (j := 1) (q := 91) C rfl rfl dX7_ahead_90 rfl ?_
          refine i_callS (wr := [boW ax ab ap al ao (((pck t : Nat) : Int), ck, ba, no, fu), bkW ab (nu, wo, sc, me, us, la, ct, gv, kd, sl)]) (As := [vJ (((pck ((atP o.1 f).2.1) : Nat) : Int)), vI (((t.length : Nat) : Int))]) (st := []) (q := 94) C (c_X6_letterAt K l ((atP o.1 f).2.1) (((t.length : Nat) : Int)) ((hb.xwo f (by omega) (by omega)).2.1) (by have := hb.xwo f (by omega) (by omega); omega) (by omega)) gX7_ahead_X6_letterAt rfl hd_X6_letterAt ⟨Nat.le_of_ble_eq_true rfl, Nat.le_of_ble_eq_true rfl⟩ ⟨rfl, rfl⟩ ⟨Nat.le_of_ble_eq_true rfl, Nat.le_of_ble_eq_true rfl⟩ (permBy [0, 1] (by decide) rfl rfl) rfl (Nat.le_of_ble_eq_true rfl) dX7_ahead_91 rfl (fun v w hq => ?_)
          obtain ⟨rfl, rfl⟩ := hq
          show V X 0 0 94 [(0, vP (ax 0)), (1, vI (((t.length : Nat) : Int))), (2, vI f), (3, vI i)] [vI (((atP o.1 f).2.1).getD (((t.length : Nat) : Int)).toNat (-1))] [boW ax ab ap al ao (((pck t : Nat) : Int), ck, ba, no, fu), bkW ab (nu, wo, sc, me, us, la, ct, gv, kd, sl)]
          refine i_iret C hR dX7_ahead_94 ?_
          have hall : o.1.take i.toNat = o.1 := tk_all (by omega)
          rw [hall] at hf0
          exact ⟨by unfold ahd; rw [hf0.2.2]; rfl, rfl⟩
        · skip
          refine i_iconst (q := 78) C dX7_ahead_77 rfl ?_
          refine i_goto (q := 94) C dX7_ahead_78 (by decide) ?_
          refine i_iret C hR dX7_ahead_94 ?_
          have hall : o.1.take i.toNat = o.1 := tk_all (by omega)
          exact ⟨by
            unfold ahd
            rcases hv with h | h
            · rw [hall] at h; rw [h.2]
            · omega, rfl⟩
      · skip
        refine i_aload_n (j := 0) (q := 24) C rfl rfl dX7_ahead_23 rfl ?_
        refine i_iload_n (j := 3) (q := 25) C rfl rfl dX7_ahead_24 rfl ?_
        refine i_callV (wr := []) (As := [vI i]) (st := []) (i := 0) (j := 0) (q := 28) C (c_X7_beginsSo K l (ax) (ap) (al) (ao) (ck) (ba) (no) (fu) (t) (ab) (nu) (wo) (sc) (me) (us) (la) (ct) (gv) (kd) (sl) (24 * N) (o) (i) (by first | assumption | omega) (by first | assumption | omega) (by first | assumption | omega) (by first | assumption | omega)) gX7_ahead_X7_beginsSo rfl hd_X7_beginsSo ⟨Nat.le_of_ble_eq_true rfl, Nat.le_of_ble_eq_true rfl⟩ ⟨rfl, rfl⟩ ⟨Nat.le_of_ble_eq_true rfl, Nat.le_of_ble_eq_true rfl⟩ (permBy [0, 1] (by decide) rfl rfl) rfl rfl rfl rfl (Nat.le_of_ble_eq_true rfl) dX7_ahead_25 rfl (fun v w hq => ?_)
        obtain ⟨rfl, rfl⟩ := hq
        show V X 0 0 28 [(0, vP (ax 0)), (1, vI (((t.length : Nat) : Int))), (2, vI f), (3, vI i)] [vI (if bgs t (atP o.1 i).2.1 = true then 1 else 0)] [boW ax ab ap al ao (((pck t : Nat) : Int), ck, ba, no, fu), bkW ab (nu, wo, sc, me, us, la, ct, gv, kd, sl)]
        refine i_if_eq (tgt := 66) (q := 31) C (if01) dX7_ahead_28 (by decide) rfl (fun c_28 => ?_) (fun c_28 => ?_)
        · skip
          have h_28 := if0 c_28
          refine i_iinc (j := 3) (q := 69) (lv' := [(3, vI (i + 1)), (0, vP (ax 0)), (1, vI (((t.length : Nat) : Int))), (2, vI f)]) C rfl (by decide) rfl dX7_ahead_66 rfl ?_
          refine i_goto (q := 12) C dX7_ahead_69 (by decide) ?_
          refine V.lv [1, 2, 3, 0] rfl ?_
          exact ih_12 (i + 1) (f) (by omega) (by omega) (by
            rw [fo_tk _ hi.1 (by omega)]
            first
              | (rw [fo_n (fun z => h_28 (cB1.mp z).2)]; rcases hv with h | h; exact Or.inl h; exact Or.inr ⟨h.1, by omega, h.2.2⟩)
              | (rw [fo_n (fun z => absurd (cB1.mp z).1 (by omega))]; rcases hv with h | h; exact Or.inl h; exact Or.inr ⟨h.1, by omega, h.2.2⟩)
              | (have hci : cB t (t.length + 1) (atP o.1 i) = true := cB1.mpr ⟨by omega, h_28⟩
                 rcases hv with h | h
                 · rw [h.2]; simp only [fo1d]; rw [if_pos hci]
                   first | exact Or.inr ⟨by omega, by omega, rfl⟩ | omega
                 · rw [h.2.2]; simp only [fo1d]
                   have s1 := hb.xsc i (by omega) (by omega)
                   have s2 := hb.xsc f (by omega) (by omega)
                   first
                     | omega
                     | (rw [if_pos ⟨hci, by omega⟩]; exact Or.inr ⟨by omega, by omega, rfl⟩)
                     | (rw [if_neg (fun z => absurd z.2 (by omega))]; exact Or.inr ⟨by omega, by omega, rfl⟩)))
        · skip
          have h_28 := ifn0 c_28
          refine i_aload_n (j := 0) (q := 32) C rfl rfl dX7_ahead_31 rfl ?_
          refine i_get (i := 0) (j := 0) (f := 0) (q := 35) C rfl rfl rfl hi_X7_ahead_X7 (by decide) lk_X7_ahead_10 rfl dX7_ahead_32 rfl ?_
          refine i_get (i := 1) (j := 0) (f := 1) (q := 38) C rfl rfl rfl hi_X7_ahead_X0 (by decide) lk_X7_ahead_92 rfl dX7_ahead_35 rfl ?_
          refine i_iload_n (j := 3) (q := 39) C rfl rfl dX7_ahead_38 rfl ?_
          refine i_lald (i := 1) (j := 2) (q := 40) C rfl rfl (by omega) dX7_ahead_39 rfl ?_
          refine V.topJ (b := ((pck ((atP o.1 i).2.1) : Nat) : Int)) ((hb.xwo i (by omega) (by omega)).1) ?_
          refine i_callS (wr := [boW ax ab ap al ao (((pck t : Nat) : Int), ck, ba, no, fu), bkW ab (nu, wo, sc, me, us, la, ct, gv, kd, sl)]) (As := [vJ (((pck ((atP o.1 i).2.1) : Nat) : Int))]) (st := []) (q := 43) C (c_X6_lengthOf K l ((atP o.1 i).2.1) ((hb.xwo i (by omega) (by omega)).2.1) (by have := hb.xwo i (by omega) (by omega); omega)) gX7_ahead_X6_lengthOf rfl hd_X6_lengthOf ⟨Nat.le_of_ble_eq_true rfl, Nat.le_of_ble_eq_true rfl⟩ ⟨rfl, rfl⟩ ⟨Nat.le_of_ble_eq_true rfl, Nat.le_of_ble_eq_true rfl⟩ (permBy [0, 1] (by decide) rfl rfl) rfl (Nat.le_of_ble_eq_true rfl) dX7_ahead_40 rfl (fun v w hq => ?_)
          obtain ⟨rfl, rfl⟩ := hq
          show V X 0 0 43 [(0, vP (ax 0)), (1, vI (((t.length : Nat) : Int))), (2, vI f), (3, vI i)] [vI (((((atP o.1 i).2.1).length : Nat) : Int))] [boW ax ab ap al ao (((pck t : Nat) : Int), ck, ba, no, fu), bkW ab (nu, wo, sc, me, us, la, ct, gv, kd, sl)]
          refine i_iload_n (j := 1) (q := 44) C rfl rfl dX7_ahead_43 rfl ?_
          refine i_icmp_le (tgt := 66) (q := 47) C (by have := hb.xwo i (by omega) (by omega); omega) (by omega) dX7_ahead_44 (by decide) rfl (fun c_44 => ?_) (fun c_44 => ?_)
          · skip
            refine i_iinc (j := 3) (q := 69) (lv' := [(3, vI (i + 1)), (0, vP (ax 0)), (1, vI (((t.length : Nat) : Int))), (2, vI f)]) C rfl (by decide) rfl dX7_ahead_66 rfl ?_
            refine i_goto (q := 12) C dX7_ahead_69 (by decide) ?_
            refine V.lv [1, 2, 3, 0] rfl ?_
            exact ih_12 (i + 1) (f) (by omega) (by omega) (by
              rw [fo_tk _ hi.1 (by omega)]
              first
                | (rw [fo_n (fun z => h_28 (cB1.mp z).2)]; rcases hv with h | h; exact Or.inl h; exact Or.inr ⟨h.1, by omega, h.2.2⟩)
                | (rw [fo_n (fun z => absurd (cB1.mp z).1 (by omega))]; rcases hv with h | h; exact Or.inl h; exact Or.inr ⟨h.1, by omega, h.2.2⟩)
                | (have hci : cB t (t.length + 1) (atP o.1 i) = true := cB1.mpr ⟨by omega, h_28⟩
                   rcases hv with h | h
                   · rw [h.2]; simp only [fo1d]; rw [if_pos hci]
                     first | exact Or.inr ⟨by omega, by omega, rfl⟩ | omega
                   · rw [h.2.2]; simp only [fo1d]
                     have s1 := hb.xsc i (by omega) (by omega)
                     have s2 := hb.xsc f (by omega) (by omega)
                     first
                       | omega
                       | (rw [if_pos ⟨hci, by omega⟩]; exact Or.inr ⟨by omega, by omega, rfl⟩)
                       | (rw [if_neg (fun z => absurd z.2 (by omega))]; exact Or.inr ⟨by omega, by omega, rfl⟩)))
          · skip
            refine i_iload_n (j := 2) (q := 48) C rfl rfl dX7_ahead_47 rfl ?_
            refine i_iconst (q := 49) C dX7_ahead_48 rfl ?_
            refine i_icmp_eq (tgt := 64) (q := 52) C (by rcases hv with h | h <;> omega) (by omega) dX7_ahead_49 (by decide) rfl (fun c_49 => ?_) (fun c_49 => ?_)
            · skip
              refine i_iload_n (j := 3) (q := 65) C rfl rfl dX7_ahead_64 rfl ?_
              refine i_istore_n (q := 66) (lv' := [(2, vI i), (0, vP (ax 0)), (1, vI (((t.length : Nat) : Int))), (3, vI i)]) C rfl (by decide) rfl dX7_ahead_65 rfl ?_
              refine i_iinc (j := 3) (q := 69) (lv' := [(3, vI (i + 1)), (2, vI i), (0, vP (ax 0)), (1, vI (((t.length : Nat) : Int)))]) C rfl (by decide) rfl dX7_ahead_66 rfl ?_
              refine i_goto (q := 12) C dX7_ahead_69 (by decide) ?_
              refine V.lv [2, 3, 1, 0] rfl ?_
              exact ih_12 (i + 1) (i) (by omega) (by omega) (by
                rw [fo_tk _ hi.1 (by omega)]
                first
                  | (rw [fo_n (fun z => h_28 (cB1.mp z).2)]; rcases hv with h | h; exact Or.inl h; exact Or.inr ⟨h.1, by omega, h.2.2⟩)
                  | (rw [fo_n (fun z => absurd (cB1.mp z).1 (by omega))]; rcases hv with h | h; exact Or.inl h; exact Or.inr ⟨h.1, by omega, h.2.2⟩)
                  | (have hci : cB t (t.length + 1) (atP o.1 i) = true := cB1.mpr ⟨by omega, h_28⟩
                     rcases hv with h | h
                     · rw [h.2]; simp only [fo1d]; rw [if_pos hci]
                       first | exact Or.inr ⟨by omega, by omega, rfl⟩ | omega
                     · rw [h.2.2]; simp only [fo1d]
                       have s1 := hb.xsc i (by omega) (by omega)
                       have s2 := hb.xsc f (by omega) (by omega)
                       first
                         | omega
                         | (rw [if_pos ⟨hci, by omega⟩]; exact Or.inr ⟨by omega, by omega, rfl⟩)
                         | (rw [if_neg (fun z => absurd z.2 (by omega))]; exact Or.inr ⟨by omega, by omega, rfl⟩)))
            · skip
              have hf0 : 0 ≤ f ∧ f < i ∧ fo (cB t (t.length + 1)) (o.1.take i.toNat) = some (atP o.1 f) := by
                rcases hv with h | h
                · omega
                · exact h
              refine i_aload_n (j := 0) (q := 53) C rfl rfl dX7_ahead_52 rfl ?_
              refine i_get (i := 0) (j := 0) (f := 0) (q := 56) C rfl rfl rfl hi_X7_ahead_X7 (by decide) lk_X7_ahead_10 rfl dX7_ahead_53 rfl ?_
              refine i_iload_n (j := 3) (q := 57) C rfl rfl dX7_ahead_56 rfl ?_
              refine i_iload_n (j := 2) (q := 58) C rfl rfl dX7_ahead_57 rfl ?_
              refine i_callV (wr := [boW ax ab ap al ao (((pck t : Nat) : Int), ck, ba, no, fu)]) (As := [vI i, vI f]) (st := []) (i := 0) (j := 0) (q := 61) C (c_X0_isBefore K l (ab) (nu) (wo) (sc) (me) (us) (la) (ct) (gv) (kd) (sl) (i) (f) (by omega) (by omega) (by omega) (fun j g0 g1 => by have := hb.xsc j g0 g1; omega)) gX7_ahead_X0_isBefore rfl hd_X0_isBefore ⟨Nat.le_of_ble_eq_true rfl, Nat.le_of_ble_eq_true rfl⟩ ⟨rfl, rfl⟩ ⟨Nat.le_of_ble_eq_true rfl, Nat.le_of_ble_eq_true rfl⟩ (permBy [1, 0] (by decide) rfl rfl) rfl rfl rfl rfl (Nat.le_of_ble_eq_true rfl) dX7_ahead_58 rfl (fun v w hq => ?_)
              obtain ⟨rfl, rfl⟩ := hq
              show V X 0 0 61 [(0, vP (ax 0)), (1, vI (((t.length : Nat) : Int))), (2, vI f), (3, vI i)] [vI (if sc f < sc i ∨ (sc i = sc f ∧ i < f) then 1 else 0)] [bkW ab (nu, wo, sc, me, us, la, ct, gv, kd, sl), boW ax ab ap al ao (((pck t : Nat) : Int), ck, ba, no, fu)]
              refine V.perm (cs' := [boW ax ab ap al ao (((pck t : Nat) : Int), ck, ba, no, fu), bkW ab (nu, wo, sc, me, us, la, ct, gv, kd, sl)]) (permBy [1, 0] (by decide) rfl rfl) ?_
              refine i_if_eq (tgt := 66) (q := 64) C (if01) dX7_ahead_61 (by decide) rfl (fun c_61 => ?_) (fun c_61 => ?_)
              · skip
                have h_61 := if0 c_61
                refine i_iinc (j := 3) (q := 69) (lv' := [(3, vI (i + 1)), (0, vP (ax 0)), (1, vI (((t.length : Nat) : Int))), (2, vI f)]) C rfl (by decide) rfl dX7_ahead_66 rfl ?_
                refine i_goto (q := 12) C dX7_ahead_69 (by decide) ?_
                refine V.lv [1, 2, 3, 0] rfl ?_
                exact ih_12 (i + 1) (f) (by omega) (by omega) (by
                  rw [fo_tk _ hi.1 (by omega)]
                  first
                    | (rw [fo_n (fun z => h_28 (cB1.mp z).2)]; rcases hv with h | h; exact Or.inl h; exact Or.inr ⟨h.1, by omega, h.2.2⟩)
                    | (rw [fo_n (fun z => absurd (cB1.mp z).1 (by omega))]; rcases hv with h | h; exact Or.inl h; exact Or.inr ⟨h.1, by omega, h.2.2⟩)
                    | (have hci : cB t (t.length + 1) (atP o.1 i) = true := cB1.mpr ⟨by omega, h_28⟩
                       rcases hv with h | h
                       · rw [h.2]; simp only [fo1d]; rw [if_pos hci]
                         first | exact Or.inr ⟨by omega, by omega, rfl⟩ | omega
                       · rw [h.2.2]; simp only [fo1d]
                         have s1 := hb.xsc i (by omega) (by omega)
                         have s2 := hb.xsc f (by omega) (by omega)
                         first
                           | omega
                           | (rw [if_pos ⟨hci, by omega⟩]; exact Or.inr ⟨by omega, by omega, rfl⟩)
                           | (rw [if_neg (fun z => absurd z.2 (by omega))]; exact Or.inr ⟨by omega, by omega, rfl⟩)))
              · skip
                have h_61 := ifn0 c_61
                refine i_iload_n (j := 3) (q := 65) C rfl rfl dX7_ahead_64 rfl ?_
                refine i_istore_n (q := 66) (lv' := [(2, vI i), (0, vP (ax 0)), (1, vI (((t.length : Nat) : Int))), (3, vI i)]) C rfl (by decide) rfl dX7_ahead_65 rfl ?_
                refine i_iinc (j := 3) (q := 69) (lv' := [(3, vI (i + 1)), (2, vI i), (0, vP (ax 0)), (1, vI (((t.length : Nat) : Int)))]) C rfl (by decide) rfl dX7_ahead_66 rfl ?_
                refine i_goto (q := 12) C dX7_ahead_69 (by decide) ?_
                refine V.lv [2, 3, 1, 0] rfl ?_
                exact ih_12 (i + 1) (i) (by omega) (by omega) (by
                  rw [fo_tk _ hi.1 (by omega)]
                  first
                    | (rw [fo_n (fun z => h_28 (cB1.mp z).2)]; rcases hv with h | h; exact Or.inl h; exact Or.inr ⟨h.1, by omega, h.2.2⟩)
                    | (rw [fo_n (fun z => absurd (cB1.mp z).1 (by omega))]; rcases hv with h | h; exact Or.inl h; exact Or.inr ⟨h.1, by omega, h.2.2⟩)
                    | (have hci : cB t (t.length + 1) (atP o.1 i) = true := cB1.mpr ⟨by omega, h_28⟩
                       rcases hv with h | h
                       · rw [h.2]; simp only [fo1d]; rw [if_pos hci]
                         first | exact Or.inr ⟨by omega, by omega, rfl⟩ | omega
                       · rw [h.2.2]; simp only [fo1d]
                         have s1 := hb.xsc i (by omega) (by omega)
                         have s2 := hb.xsc f (by omega) (by omega)
                         first
                           | omega
                           | (rw [if_pos ⟨hci, by omega⟩]; exact Or.inr ⟨by omega, by omega, rfl⟩)
                           | (rw [if_neg (fun z => absurd z.2 (by omega))]; exact Or.inr ⟨by omega, by omega, rfl⟩)))
  refine V.lv [3, 2, 1, 0] rfl ?_
  exact loop_12 _ (0) ((-1)) (Nat.lt_succ_self _) (by omega) (Or.inl ⟨rfl, rfl⟩)

theorem lk_X7_common_10 : Cond.fieldLink RX7 10 (TX7 0).1 (TX7 0).2.1 (TX7 0).2.2.1 ∈ wsX7_common := List.mem_of_getElem? (i := 1) rfl
theorem hi_X7_common_X7 : ∀ w ∈ u_ws RX7 TX7 9, w ∈ wsX7_common := by decide +kernel
theorem lk_X7_common_139 : Cond.fieldLink RX7 139 (TX0 6).1 (TX0 6).2.1 (TX0 6).2.2.1 ∈ wsX7_common := List.mem_of_getElem? (i := 2) rfl
theorem hi_X7_common_X0 : ∀ w ∈ u_ws RX0 TX0 10, w ∈ wsX7_common := by decide +kernel
theorem lk_X7_common_37 : Cond.fieldLink RX7 37 (TX7 4).1 (TX7 4).2.1 (TX7 4).2.2.1 ∈ wsX7_common := List.mem_of_getElem? (i := 8) rfl
theorem lk_X7_common_92 : Cond.fieldLink RX7 92 (TX0 1).1 (TX0 1).2.1 (TX0 1).2.2.1 ∈ wsX7_common := List.mem_of_getElem? (i := 3) rfl
set_option maxHeartbeats 400000 in
set_option maxRecDepth 100000 in
theorem c_X7_common (K : KT) (l : Launch) (ax : Nat → Nat) (ap : Nat → Nat) (al : Nat → Nat) (ao : Nat → Nat) (ck : Int) (ba : Int) (no : Int) (fu : Int) (t : List Int) (ab : Nat → Nat) (nu : Int → Int) (wo : Int → Int) (sc : Int → Int) (me : Int → Int) (us : Int → Int) (la : Int → Int) (ct : Int) (gv : Int) (kd : Int) (sl : Int) (ak : Int → Nat → Nat) (nx : Int) (pc : Int) (Bs : Int → Bk) (by_ : Int → Int) (ve : Int → Int) (ow : Int → Int) (fi : Int → Int) (se : Int → Int) (le : Int) (oc : Int) (pl : Int) (fa : Int) (so : Int → Int) (ra : Int → Int) (lc : Int) (o : Bo) (h : List Bo) (tx : List Int) (N : Int) (hC : okC N nu wo sc me us la ct gv kd sl Bs nx pc ((pck t : Nat) : Int) ck ba no fu by_ le (o, h, t, ck, tx, ba, no, fu)) : Mt K l yX7_common wsX7_common ({ frames := 5, cells := 0, slots := 0, locals := 108 }) [vP (ax 0)] [boW ax ab ap al ao (((pck t : Nat) : Int), ck, ba, no, fu), bkW ab (nu, wo, sc, me, us, la, ct, gv, kd, sl)] 0 0 (fun v w => v = some (vI (cmn t o.1)) ∧ w = [boW ax ab ap al ao (((pck t : Nat) : Int), ck, ba, no, fu), bkW ab (nu, wo, sc, me, us, la, ct, gv, kd, sl)]) := by
  refine Mt.of (own := RX7) (cc := cX7_common) (maxL := 4) (ret := (some .int)) (lv0 := [(0, vP (ax 0))]) (by decide) rfl rfl (Nat.le_of_ble_eq_true rfl) rfl (fun X C hR hNm => ?_)
  have hb := hC.hb
  have hct := hb.xct
  have hgv := hb.xgv
  have hkd := hb.xkd
  have hsl := hb.xsl
  obtain ⟨ht, hlt⟩ := hC.ht
  have hNN := hC.hN
  have hhx := hC.hh.1
  have hhp := hC.hh.2.1
  have hhl := hC.hh.2.2.1
  have hck := hC.hck
  have hTx := hC.hx
  refine i_iconst (q := 1) C dX7_common_0 rfl ?_
  refine i_istore_n (q := 2) (lv' := [(1, vI ((-1))), (0, vP (ax 0))]) C rfl (by decide) rfl dX7_common_1 rfl ?_
  refine i_iconst (q := 3) C dX7_common_2 rfl ?_
  refine i_istore_n (q := 4) (lv' := [(2, vI 0), (1, vI ((-1))), (0, vP (ax 0))]) C rfl (by decide) rfl dX7_common_3 rfl ?_
  refine i_iconst (q := 5) C dX7_common_4 rfl ?_
  refine i_istore_n (q := 6) (lv' := [(3, vI 0), (2, vI 0), (1, vI ((-1))), (0, vP (ax 0))]) C rfl (by decide) rfl dX7_common_5 rfl ?_
  have loop_6 : ∀ (fuel : Nat) (i : Int) (f : Int) (m : Int), ((ct - i).toNat) < fuel → (0 ≤ i ∧ i ≤ ct) → ((f = -1 ∧ m = 0 ∧ ∀ x ∈ o.1.take (i).toNat, ¬ bgs t x.2.1 = true) ∨ (0 ≤ f ∧ f < i ∧ bgs t (atP o.1 f).2.1 = true ∧ m = (o.1.take (i).toNat).foldl (cmn1 t (atP o.1 f).2.1) ((atP o.1 f).2.1.length : Int))) → (0 ≤ m ∧ m ≤ 8) → V X 0 0 6 [(0, vP (ax 0)), (1, vI f), (2, vI m), (3, vI i)] [] [boW ax ab ap al ao (((pck t : Nat) : Int), ck, ba, no, fu), bkW ab (nu, wo, sc, me, us, la, ct, gv, kd, sl)] := by
    intro fuel
    induction fuel with
    | zero => intro i f m hz; exact absurd hz (Nat.not_lt_zero _)
    | succ fuel ih_6 =>
      intro i f m hfu_6 hi hv hm
      refine i_iload_n (j := 3) (q := 7) C rfl rfl dX7_common_6 rfl ?_
      refine i_aload_n (j := 0) (q := 8) C rfl rfl dX7_common_7 rfl ?_
      refine i_get (i := 0) (j := 0) (f := 0) (q := 11) C rfl rfl rfl hi_X7_common_X7 (by decide) lk_X7_common_10 rfl dX7_common_8 rfl ?_
      refine i_get (i := 1) (j := 0) (f := 6) (q := 14) C rfl rfl rfl hi_X7_common_X0 (by decide) lk_X7_common_139 rfl dX7_common_11 rfl ?_
      refine i_icmp_ge (tgt := 80) (q := 17) C (by omega) (by omega) dX7_common_14 (by decide) rfl (fun c_14 => ?_) (fun c_14 => ?_)
      · skip
        refine i_iload_n (j := 1) (q := 81) C rfl rfl dX7_common_80 rfl ?_
        refine i_iconst (q := 82) C dX7_common_81 rfl ?_
        refine i_icmp_ne (tgt := 89) (q := 85) C (by rcases hv with h | h <;> omega) (by omega) dX7_common_82 (by decide) rfl (fun c_82 => ?_) (fun c_82 => ?_)
        · skip
          have hf0 : 0 ≤ f ∧ f < i ∧ bgs t (atP o.1 f).2.1 = true ∧ m = (o.1.take i.toNat).foldl (cmn1 t (atP o.1 f).2.1) ((atP o.1 f).2.1.length : Int) := by
            rcases hv with h | h
            · omega
            · exact h
          refine i_iload_n (j := 2) (q := 90) C rfl rfl dX7_common_89 rfl ?_
          refine i_aload_n (j := 0) (q := 91) C rfl rfl dX7_common_90 rfl ?_
          refine i_get (i := 0) (j := 0) (f := 4) (q := 94) C rfl rfl rfl hi_X7_common_X7 (by decide) lk_X7_common_37 rfl dX7_common_91 rfl ?_
          refine i_callS (wr := [boW ax ab ap al ao (((pck t : Nat) : Int), ck, ba, no, fu), bkW ab (nu, wo, sc, me, us, la, ct, gv, kd, sl)]) (As := [vJ (((pck t : Nat) : Int))]) (st := [vI m]) (q := 97) C (c_X6_lengthOf K l (t) (by first | assumption | omega) (by first | assumption | omega)) gX7_common_X6_lengthOf rfl hd_X6_lengthOf ⟨Nat.le_of_ble_eq_true rfl, Nat.le_of_ble_eq_true rfl⟩ ⟨rfl, rfl⟩ ⟨Nat.le_of_ble_eq_true rfl, Nat.le_of_ble_eq_true rfl⟩ (permBy [0, 1] (by decide) rfl rfl) rfl (Nat.le_of_ble_eq_true rfl) dX7_common_94 rfl (fun v w hq => ?_)
          obtain ⟨rfl, rfl⟩ := hq
          show V X 0 0 97 [(0, vP (ax 0)), (1, vI f), (2, vI m), (3, vI i)] [vI (((t.length : Nat) : Int)), vI m] [boW ax ab ap al ao (((pck t : Nat) : Int), ck, ba, no, fu), bkW ab (nu, wo, sc, me, us, la, ct, gv, kd, sl)]
          refine i_isub (q := 98) C dX7_common_97 rfl ?_
          refine i_iret C hR dX7_common_98 ?_
          have hall : o.1.take i.toNat = o.1 := tk_all (by omega)
          rw [hall] at hf0
          exact ⟨by rw [cmn_of (atP_mem hf0.1 (by omega)) hf0.2.2.1, ← hf0.2.2.2], rfl⟩
        · skip
          refine i_iconst (q := 86) C dX7_common_85 rfl ?_
          refine i_goto (q := 98) C dX7_common_86 (by decide) ?_
          refine i_iret C hR dX7_common_98 ?_
          have hall : o.1.take i.toNat = o.1 := tk_all (by omega)
          exact ⟨by
            rcases hv with h | h
            · rw [hall] at h; rw [cmn_no h.2.2]
            · omega, rfl⟩
      · skip
        refine i_aload_n (j := 0) (q := 18) C rfl rfl dX7_common_17 rfl ?_
        refine i_iload_n (j := 3) (q := 19) C rfl rfl dX7_common_18 rfl ?_
        refine i_callV (wr := []) (As := [vI i]) (st := []) (i := 0) (j := 0) (q := 22) C (c_X7_beginsSo K l (ax) (ap) (al) (ao) (ck) (ba) (no) (fu) (t) (ab) (nu) (wo) (sc) (me) (us) (la) (ct) (gv) (kd) (sl) (24 * N) (o) (i) (by first | assumption | omega) (by first | assumption | omega) (by first | assumption | omega) (by first | assumption | omega)) gX7_common_X7_beginsSo rfl hd_X7_beginsSo ⟨Nat.le_of_ble_eq_true rfl, Nat.le_of_ble_eq_true rfl⟩ ⟨rfl, rfl⟩ ⟨Nat.le_of_ble_eq_true rfl, Nat.le_of_ble_eq_true rfl⟩ (permBy [0, 1] (by decide) rfl rfl) rfl rfl rfl rfl (Nat.le_of_ble_eq_true rfl) dX7_common_19 rfl (fun v w hq => ?_)
        obtain ⟨rfl, rfl⟩ := hq
        show V X 0 0 22 [(0, vP (ax 0)), (1, vI f), (2, vI m), (3, vI i)] [vI (if bgs t (atP o.1 i).2.1 = true then 1 else 0)] [boW ax ab ap al ao (((pck t : Nat) : Int), ck, ba, no, fu), bkW ab (nu, wo, sc, me, us, la, ct, gv, kd, sl)]
        refine i_if_eq (tgt := 74) (q := 25) C (if01) dX7_common_22 (by decide) rfl (fun c_22 => ?_) (fun c_22 => ?_)
        · skip
          have h_22 := if0 c_22
          refine i_iinc (j := 3) (q := 77) (lv' := [(3, vI (i + 1)), (0, vP (ax 0)), (1, vI f), (2, vI m)]) C rfl (by decide) rfl dX7_common_74 rfl ?_
          refine i_goto (q := 6) C dX7_common_77 (by decide) ?_
          refine V.lv [1, 2, 3, 0] rfl ?_
          exact ih_6 (i + 1) (f) (m) (by omega) (by omega) (by
            first
              | (rcases hv with h | h
                 · refine Or.inl ⟨h.1, h.2.1, fun x hx => ?_⟩
                   rw [tk_s hi.1 (by omega), List.mem_append] at hx
                   rcases hx with hx | hx
                   · exact h.2.2 x hx
                   · rw [List.mem_singleton.mp hx]; exact h_22
                 · refine Or.inr ⟨h.1, by omega, h.2.2.1, ?_⟩
                   rw [fold_tk _ _ hi.1 (by omega), ← h.2.2.2]; unfold cmn1; exact (if_neg h_22).symm)
              | (rcases hv with h | h
                 · refine Or.inr ⟨by omega, by omega, h_22, ?_⟩
                   rw [fold_tk _ _ hi.1 (by omega), cmn_skip h.2.2]; unfold cmn1; rw [if_pos h_22, cp_self]; omega
                 · omega)
              | (refine Or.inr ⟨hf0.1, by omega, hf0.2.2.1, ?_⟩
                 rw [fold_tk _ _ hi.1 (by omega), ← hf0.2.2.2]; unfold cmn1; exact (if_pos h_22).symm)) (by omega)
        · skip
          have h_22 := ifn0 c_22
          refine i_iload_n (j := 1) (q := 26) C rfl rfl dX7_common_25 rfl ?_
          refine i_iconst (q := 27) C dX7_common_26 rfl ?_
          refine i_icmp_ne (tgt := 48) (q := 30) C (by rcases hv with h | h <;> omega) (by omega) dX7_common_27 (by decide) rfl (fun c_27 => ?_) (fun c_27 => ?_)
          · skip
            have hf0 : 0 ≤ f ∧ f < i ∧ bgs t (atP o.1 f).2.1 = true ∧ m = (o.1.take i.toNat).foldl (cmn1 t (atP o.1 f).2.1) ((atP o.1 f).2.1.length : Int) := by
              rcases hv with h | h
              · omega
              · exact h
            refine i_iload_n (j := 2) (q := 49) C rfl rfl dX7_common_48 rfl ?_
            refine i_aload_n (j := 0) (q := 50) C rfl rfl dX7_common_49 rfl ?_
            refine i_get (i := 0) (j := 0) (f := 0) (q := 53) C rfl rfl rfl hi_X7_common_X7 (by decide) lk_X7_common_10 rfl dX7_common_50 rfl ?_
            refine i_get (i := 1) (j := 0) (f := 1) (q := 56) C rfl rfl rfl hi_X7_common_X0 (by decide) lk_X7_common_92 rfl dX7_common_53 rfl ?_
            refine i_iload_n (j := 1) (q := 57) C rfl rfl dX7_common_56 rfl ?_
            refine i_lald (i := 1) (j := 2) (q := 58) C rfl rfl (by omega) dX7_common_57 rfl ?_
            refine V.topJ (b := ((pck ((atP o.1 f).2.1) : Nat) : Int)) ((hb.xwo f (by omega) (by omega)).1) ?_
            refine i_aload_n (j := 0) (q := 59) C rfl rfl dX7_common_58 rfl ?_
            refine i_get (i := 0) (j := 0) (f := 0) (q := 62) C rfl rfl rfl hi_X7_common_X7 (by decide) lk_X7_common_10 rfl dX7_common_59 rfl ?_
            refine i_get (i := 1) (j := 0) (f := 1) (q := 65) C rfl rfl rfl hi_X7_common_X0 (by decide) lk_X7_common_92 rfl dX7_common_62 rfl ?_
            refine i_iload_n (j := 3) (q := 66) C rfl rfl dX7_common_65 rfl ?_
            refine i_lald (i := 1) (j := 2) (q := 67) C rfl rfl (by omega) dX7_common_66 rfl ?_
            refine V.topJ (b := ((pck ((atP o.1 i).2.1) : Nat) : Int)) ((hb.xwo i (by omega) (by omega)).1) ?_
            refine i_callS (wr := [boW ax ab ap al ao (((pck t : Nat) : Int), ck, ba, no, fu), bkW ab (nu, wo, sc, me, us, la, ct, gv, kd, sl)]) (As := [vJ (((pck ((atP o.1 f).2.1) : Nat) : Int)), vJ (((pck ((atP o.1 i).2.1) : Nat) : Int))]) (st := [vI m]) (q := 70) C (c_X6_sameAtFirst K l ((atP o.1 f).2.1) ((atP o.1 i).2.1) ((hb.xwo f (by omega) (by omega)).2.1) (by have := hb.xwo f (by omega) (by omega); omega) ((hb.xwo i (by omega) (by omega)).2.1) (by have := hb.xwo i (by omega) (by omega); omega)) gX7_common_X6_sameAtFirst rfl hd_X6_sameAtFirst ⟨Nat.le_of_ble_eq_true rfl, Nat.le_of_ble_eq_true rfl⟩ ⟨rfl, rfl⟩ ⟨Nat.le_of_ble_eq_true rfl, Nat.le_of_ble_eq_true rfl⟩ (permBy [0, 1] (by decide) rfl rfl) rfl (Nat.le_of_ble_eq_true rfl) dX7_common_67 rfl (fun v w hq => ?_)
            obtain ⟨rfl, rfl⟩ := hq
            show V X 0 0 70 [(0, vP (ax 0)), (1, vI f), (2, vI m), (3, vI i)] [vI (((cp ((atP o.1 f).2.1) ((atP o.1 i).2.1) : Nat) : Int)), vI m] [boW ax ab ap al ao (((pck t : Nat) : Int), ck, ba, no, fu), bkW ab (nu, wo, sc, me, us, la, ct, gv, kd, sl)]
            refine i_mmin (q := 73) C (by omega) (by have := cp_le (atP o.1 f).2.1 (atP o.1 i).2.1; have := hb.xwo i (by omega) (by omega); omega) (List.mem_of_getElem? (i := 4) rfl) (List.mem_of_getElem? (i := 5) rfl) (List.mem_of_getElem? (i := 6) rfl) (List.mem_of_getElem? (i := 7) rfl) ⟨Nat.le_of_ble_eq_true rfl, Nat.le_of_ble_eq_true rfl⟩ ⟨Nat.le_of_ble_eq_true rfl, Nat.le_of_ble_eq_true rfl⟩ dX7_common_70 rfl ?_
            have hcp := cp_le (atP o.1 f).2.1 (atP o.1 i).2.1
            have hwi := hb.xwo i (by omega) (by omega)
            refine i_istore_n (q := 74) (lv' := [(2, vI (min m ((cp ((atP o.1 f).2.1) ((atP o.1 i).2.1) : Nat) : Int))), (0, vP (ax 0)), (1, vI f), (3, vI i)]) C rfl (by decide) rfl dX7_common_73 rfl ?_
            refine i_iinc (j := 3) (q := 77) (lv' := [(3, vI (i + 1)), (2, vI (min m ((cp ((atP o.1 f).2.1) ((atP o.1 i).2.1) : Nat) : Int))), (0, vP (ax 0)), (1, vI f)]) C rfl (by decide) rfl dX7_common_74 rfl ?_
            refine i_goto (q := 6) C dX7_common_77 (by decide) ?_
            refine V.lv [2, 3, 1, 0] rfl ?_
            exact ih_6 (i + 1) (f) (min m ((cp ((atP o.1 f).2.1) ((atP o.1 i).2.1) : Nat) : Int)) (by omega) (by omega) (by
              first
                | (rcases hv with h | h
                   · refine Or.inl ⟨h.1, h.2.1, fun x hx => ?_⟩
                     rw [tk_s hi.1 (by omega), List.mem_append] at hx
                     rcases hx with hx | hx
                     · exact h.2.2 x hx
                     · rw [List.mem_singleton.mp hx]; exact h_22
                   · refine Or.inr ⟨h.1, by omega, h.2.2.1, ?_⟩
                     rw [fold_tk _ _ hi.1 (by omega), ← h.2.2.2]; unfold cmn1; exact (if_neg h_22).symm)
                | (rcases hv with h | h
                   · refine Or.inr ⟨by omega, by omega, h_22, ?_⟩
                     rw [fold_tk _ _ hi.1 (by omega), cmn_skip h.2.2]; unfold cmn1; rw [if_pos h_22, cp_self]; omega
                   · omega)
                | (refine Or.inr ⟨hf0.1, by omega, hf0.2.2.1, ?_⟩
                   rw [fold_tk _ _ hi.1 (by omega), ← hf0.2.2.2]; unfold cmn1; exact (if_pos h_22).symm)) (by omega)
          · skip
            refine i_iload_n (j := 3) (q := 31) C rfl rfl dX7_common_30 rfl ?_
            refine i_istore_n (q := 32) (lv' := [(1, vI i), (0, vP (ax 0)), (2, vI m), (3, vI i)]) C rfl (by decide) rfl dX7_common_31 rfl ?_
            refine i_aload_n (j := 1) (q := 33) C rfl rfl dX7_common_32 rfl ?_
            refine i_get (i := 0) (j := 0) (f := 0) (q := 36) C rfl rfl rfl hi_X7_common_X7 (by decide) lk_X7_common_10 rfl dX7_common_33 rfl ?_
            refine i_get (i := 1) (j := 0) (f := 1) (q := 39) C rfl rfl rfl hi_X7_common_X0 (by decide) lk_X7_common_92 rfl dX7_common_36 rfl ?_
            refine i_iload_n (j := 3) (q := 40) C rfl rfl dX7_common_39 rfl ?_
            refine i_lald (i := 1) (j := 2) (q := 41) C rfl rfl (by omega) dX7_common_40 rfl ?_
            refine V.topJ (b := ((pck ((atP o.1 i).2.1) : Nat) : Int)) ((hb.xwo i (by omega) (by omega)).1) ?_
            have hwi := hb.xwo i (by omega) (by omega)
            refine i_callS (wr := [boW ax ab ap al ao (((pck t : Nat) : Int), ck, ba, no, fu), bkW ab (nu, wo, sc, me, us, la, ct, gv, kd, sl)]) (As := [vJ (((pck ((atP o.1 i).2.1) : Nat) : Int))]) (st := []) (q := 44) C (c_X6_lengthOf K l ((atP o.1 i).2.1) ((hb.xwo i (by omega) (by omega)).2.1) (by have := hb.xwo i (by omega) (by omega); omega)) gX7_common_X6_lengthOf rfl hd_X6_lengthOf ⟨Nat.le_of_ble_eq_true rfl, Nat.le_of_ble_eq_true rfl⟩ ⟨rfl, rfl⟩ ⟨Nat.le_of_ble_eq_true rfl, Nat.le_of_ble_eq_true rfl⟩ (permBy [0, 1] (by decide) rfl rfl) rfl (Nat.le_of_ble_eq_true rfl) dX7_common_41 rfl (fun v w hq => ?_)
            obtain ⟨rfl, rfl⟩ := hq
            show V X 0 0 44 [(1, vI i), (0, vP (ax 0)), (2, vI m), (3, vI i)] [vI (((((atP o.1 i).2.1).length : Nat) : Int))] [boW ax ab ap al ao (((pck t : Nat) : Int), ck, ba, no, fu), bkW ab (nu, wo, sc, me, us, la, ct, gv, kd, sl)]
            refine i_istore_n (q := 45) (lv' := [(2, vI (((((atP o.1 i).2.1).length : Nat) : Int))), (1, vI i), (0, vP (ax 0)), (3, vI i)]) C rfl (by decide) rfl dX7_common_44 rfl ?_
            refine i_goto (q := 74) C dX7_common_45 (by decide) ?_
            refine i_iinc (j := 3) (q := 77) (lv' := [(3, vI (i + 1)), (2, vI (((((atP o.1 i).2.1).length : Nat) : Int))), (1, vI i), (0, vP (ax 0))]) C rfl (by decide) rfl dX7_common_74 rfl ?_
            refine i_goto (q := 6) C dX7_common_77 (by decide) ?_
            refine V.lv [3, 2, 1, 0] rfl ?_
            exact ih_6 (i + 1) (i) (((((atP o.1 i).2.1).length : Nat) : Int)) (by omega) (by omega) (by
              first
                | (rcases hv with h | h
                   · refine Or.inl ⟨h.1, h.2.1, fun x hx => ?_⟩
                     rw [tk_s hi.1 (by omega), List.mem_append] at hx
                     rcases hx with hx | hx
                     · exact h.2.2 x hx
                     · rw [List.mem_singleton.mp hx]; exact h_22
                   · refine Or.inr ⟨h.1, by omega, h.2.2.1, ?_⟩
                     rw [fold_tk _ _ hi.1 (by omega), ← h.2.2.2]; unfold cmn1; exact (if_neg h_22).symm)
                | (rcases hv with h | h
                   · refine Or.inr ⟨by omega, by omega, h_22, ?_⟩
                     rw [fold_tk _ _ hi.1 (by omega), cmn_skip h.2.2]; unfold cmn1; rw [if_pos h_22, cp_self]; omega
                   · omega)
                | (refine Or.inr ⟨hf0.1, by omega, hf0.2.2.1, ?_⟩
                   rw [fold_tk _ _ hi.1 (by omega), ← hf0.2.2.2]; unfold cmn1; exact (if_pos h_22).symm)) (by omega)
  refine V.lv [3, 2, 1, 0] rfl ?_
  exact loop_6 _ (0) ((-1)) (0) (Nat.lt_succ_self _) (by omega) (Or.inl ⟨rfl, rfl, fun x hx => by simp at hx⟩) (by omega)

theorem lk_X7_find_10 : Cond.fieldLink RX7 10 (TX7 0).1 (TX7 0).2.1 (TX7 0).2.2.1 ∈ wsX7_find := List.mem_of_getElem? (i := 1) rfl
theorem hi_X7_find_X7 : ∀ w ∈ u_ws RX7 TX7 9, w ∈ wsX7_find := by decide +kernel
theorem lk_X7_find_37 : Cond.fieldLink RX7 37 (TX7 4).1 (TX7 4).2.1 (TX7 4).2.2.1 ∈ wsX7_find := List.mem_of_getElem? (i := 2) rfl
theorem lk_X7_find_197 : Cond.fieldLink RX7 197 (TX0 0).1 (TX0 0).2.1 (TX0 0).2.2.1 ∈ wsX7_find := List.mem_of_getElem? (i := 3) rfl
theorem hi_X7_find_X0 : ∀ w ∈ u_ws RX0 TX0 10, w ∈ wsX7_find := by decide +kernel
set_option maxHeartbeats 400000 in
set_option maxRecDepth 100000 in
theorem c_X7_find (K : KT) (l : Launch) (ax : Nat → Nat) (ap : Nat → Nat) (al : Nat → Nat) (ao : Nat → Nat) (ck : Int) (ba : Int) (no : Int) (fu : Int) (t : List Int) (ab : Nat → Nat) (nu : Int → Int) (wo : Int → Int) (sc : Int → Int) (me : Int → Int) (us : Int → Int) (la : Int → Int) (ct : Int) (gv : Int) (kd : Int) (sl : Int) (ak : Int → Nat → Nat) (nx : Int) (pc : Int) (Bs : Int → Bk) (by_ : Int → Int) (ve : Int → Int) (ow : Int → Int) (fi : Int → Int) (se : Int → Int) (le : Int) (oc : Int) (pl : Int) (fa : Int) (so : Int → Int) (ra : Int → Int) (lc : Int) (o : Bo) (h : List Bo) (tx : List Int) (N : Int) (hC : okC N nu wo sc me us la ct gv kd sl Bs nx pc ((pck t : Nat) : Int) ck ba no fu by_ le (o, h, t, ck, tx, ba, no, fu)) : Mt K l yX7_find wsX7_find ({ frames := 1, cells := 0, slots := 0, locals := 23 }) [vP (ax 0)] [boW ax ab ap al ao (((pck t : Nat) : Int), ck, ba, no, fu), bkW ab (nu, wo, sc, me, us, la, ct, gv, kd, sl)] 0 0 (fun v w => v = some (vI (fnds t o.1)) ∧ w = [boW ax ab ap al ao (((pck t : Nat) : Int), ck, ba, no, fu), bkW ab (nu, wo, sc, me, us, la, ct, gv, kd, sl)]) := by
  refine Mt.of (own := RX7) (cc := cX7_find) (maxL := 2) (ret := (some .int)) (lv0 := [(0, vP (ax 0))]) (by decide) rfl rfl (Nat.le_of_ble_eq_true rfl) rfl (fun X C hR hNm => ?_)
  have hb := hC.hb
  have hct := hb.xct
  have hgv := hb.xgv
  have hkd := hb.xkd
  have hsl := hb.xsl
  obtain ⟨ht, hlt⟩ := hC.ht
  have hNN := hC.hN
  have hhx := hC.hh.1
  have hhp := hC.hh.2.1
  have hhl := hC.hh.2.2.1
  have hck := hC.hck
  have hTx := hC.hx
  have bw := pck_b ht (by omega)
  refine i_aload_n (j := 0) (q := 1) C rfl rfl dX7_find_0 rfl ?_
  refine i_get (i := 0) (j := 0) (f := 0) (q := 4) C rfl rfl rfl hi_X7_find_X7 (by decide) lk_X7_find_10 rfl dX7_find_1 rfl ?_
  refine i_aload_n (j := 0) (q := 5) C rfl rfl dX7_find_4 rfl ?_
  refine i_get (i := 0) (j := 0) (f := 4) (q := 8) C rfl rfl rfl hi_X7_find_X7 (by decide) lk_X7_find_37 rfl dX7_find_5 rfl ?_
  refine i_callV (wr := [boW ax ab ap al ao (((pck t : Nat) : Int), ck, ba, no, fu)]) (As := [vJ (((pck t : Nat) : Int))]) (st := []) (i := 0) (j := 0) (q := 11) C (c_X0_slotSpelled K l (ab) (nu) (wo) (sc) (me) (us) (la) (ct) (gv) (kd) (sl) (((pck t : Nat) : Int)) (by omega) (fun j g0 g1 => hb.rL j g0 g1) (by omega)) gX7_find_X0_slotSpelled rfl hd_X0_slotSpelled ⟨Nat.le_of_ble_eq_true rfl, Nat.le_of_ble_eq_true rfl⟩ ⟨rfl, rfl⟩ ⟨Nat.le_of_ble_eq_true rfl, Nat.le_of_ble_eq_true rfl⟩ (permBy [1, 0] (by decide) rfl rfl) rfl rfl rfl rfl (Nat.le_of_ble_eq_true rfl) dX7_find_8 rfl (fun v w hq => ?_)
  obtain ⟨r_8, rfl, rfl, hr_8⟩ := hq
  show V X 0 0 11 [(0, vP (ax 0))] [vI r_8] [bkW ab (nu, wo, sc, me, us, la, ct, gv, kd, sl), boW ax ab ap al ao (((pck t : Nat) : Int), ck, ba, no, fu)]
  refine V.perm (cs' := [boW ax ab ap al ao (((pck t : Nat) : Int), ck, ba, no, fu), bkW ab (nu, wo, sc, me, us, la, ct, gv, kd, sl)]) (permBy [1, 0] (by decide) rfl rfl) ?_
  have hr6 := hb.has ht hr_8
  refine i_istore_n (q := 12) (lv' := [(1, vI r_8), (0, vP (ax 0))]) C rfl (by decide) rfl dX7_find_11 rfl ?_
  refine i_iload_n (j := 0) (q := 13) C rfl rfl dX7_find_12 rfl ?_
  refine i_iconst (q := 14) C dX7_find_13 rfl ?_
  refine i_icmp_ne (tgt := 21) (q := 17) C (by rcases hr6 with h | h <;> omega) (by omega) dX7_find_14 (by decide) rfl (fun c_14 => ?_) (fun c_14 => ?_)
  · skip
    refine i_aload_n (j := 1) (q := 22) C rfl rfl dX7_find_21 rfl ?_
    refine i_get (i := 0) (j := 0) (f := 0) (q := 25) C rfl rfl rfl hi_X7_find_X7 (by decide) lk_X7_find_10 rfl dX7_find_22 rfl ?_
    refine i_get (i := 1) (j := 0) (f := 0) (q := 28) C rfl rfl rfl hi_X7_find_X0 (by decide) lk_X7_find_197 rfl dX7_find_25 rfl ?_
    refine i_iload_n (j := 0) (q := 29) C rfl rfl dX7_find_28 rfl ?_
    refine i_iald (i := 1) (j := 1) (q := 30) C rfl rfl (by rcases hr6 with h | h <;> omega) dX7_find_29 rfl ?_
    refine i_iret C hR dX7_find_30 ?_
    exact ⟨by
      rcases hr6 with h | h
      · omega
      · have hw := hb.xwo r_8 h.1 h.2.1
        rw [fnds_at hb.1.2.2.2.2.2.2.2 (atP_mem h.1 (by omega)) h.2.2.2 (by omega), (hb.xnu r_8 h.1 h.2.1).2], rfl⟩
  · skip
    refine i_iconst (q := 18) C dX7_find_17 rfl ?_
    refine i_goto (q := 30) C dX7_find_18 (by decide) ?_
    refine i_iret C hR dX7_find_30 ?_
    exact ⟨by
      rcases hr6 with h | h
      · rw [fnds_no h.2]
      · omega, rfl⟩

theorem lk_X7_keys_10 : Cond.fieldLink RX7 10 (TX7 0).1 (TX7 0).2.1 (TX7 0).2.2.1 ∈ wsX7_keys := List.mem_of_getElem? (i := 1) rfl
theorem hi_X7_keys_X7 : ∀ w ∈ u_ws RX7 TX7 9, w ∈ wsX7_keys := by decide +kernel
theorem hd_X7_lettersTillFirst : yX7_lettersTillFirst.cls = RX7 ∧ yX7_lettersTillFirst.cls ≠ "java/lang/invoke/MethodHandle" ∧ yX7_lettersTillFirst.cls ≠ "java/lang/invoke/VarHandle" ∧ (parseMethodDescriptor yX7_lettersTillFirst.desc).map (fun d => d.parameters.length) = some 1 := by decide +kernel
set_option maxHeartbeats 400000 in
set_option maxRecDepth 100000 in
theorem c_X7_keys (K : KT) (l : Launch) (ax : Nat → Nat) (ap : Nat → Nat) (al : Nat → Nat) (ao : Nat → Nat) (ck : Int) (ba : Int) (no : Int) (fu : Int) (t : List Int) (ab : Nat → Nat) (nu : Int → Int) (wo : Int → Int) (sc : Int → Int) (me : Int → Int) (us : Int → Int) (la : Int → Int) (ct : Int) (gv : Int) (kd : Int) (sl : Int) (ak : Int → Nat → Nat) (nx : Int) (pc : Int) (Bs : Int → Bk) (by_ : Int → Int) (ve : Int → Int) (ow : Int → Int) (fi : Int → Int) (se : Int → Int) (le : Int) (oc : Int) (pl : Int) (fa : Int) (so : Int → Int) (ra : Int → Int) (lc : Int) (o : Bo) (h : List Bo) (tx : List Int) (N : Int) (x : Int) (hC : okC N nu wo sc me us la ct gv kd sl Bs nx pc ((pck t : Nat) : Int) ck ba no fu by_ le (o, h, t, ck, tx, ba, no, fu)) (hN : N < 512) (hx : rI x) : Mt K l yX7_keys wsX7_keys ({ frames := 5, cells := 0, slots := 0, locals := 110 }) [vP (ax 0), vI x] [boW ax ab ap al ao (((pck t : Nat) : Int), ck, ba, no, fu), bkW ab (nu, wo, sc, me, us, la, ct, gv, kd, sl)] 0 0 (fun v w => ∃ ba3 : Int, v = some (vI ((sp_keys x (o, h, t, ck, tx, ba, no, fu)).1)) ∧ w = [boW ax ab ap al ao (((pck t : Nat) : Int), ck, ba3, no, fu), bkW ab (nu, wo, sc, me, us, la, ct, gv, kd, sl)] ∧ (okC (N + 1) nu wo sc me us la ct gv kd sl Bs nx pc ((pck t : Nat) : Int) ck ba3 no fu by_ le (sp_keys x (o, h, t, ck, tx, ba, no, fu)).2)) := by
  refine Mt.of (own := RX7) (cc := cX7_keys) (maxL := 3) (ret := (some .int)) (lv0 := [(0, vP (ax 0)), (1, vI x)]) (by decide) rfl rfl (Nat.le_of_ble_eq_true rfl) rfl (fun X C hR hNm => ?_)
  have hb := hC.hb
  have hct := hb.xct
  have hgv := hb.xgv
  have hkd := hb.xkd
  have hsl := hb.xsl
  obtain ⟨ht, hlt⟩ := hC.ht
  have hNN := hC.hN
  have hhx := hC.hh.1
  have hhp := hC.hh.2.1
  have hhl := hC.hh.2.2.1
  have hck := hC.hck
  have hTx := hC.hx
  refine i_aload_n (j := 0) (q := 1) C rfl rfl dX7_keys_0 rfl ?_
  refine i_get (i := 0) (j := 0) (f := 0) (q := 4) C rfl rfl rfl hi_X7_keys_X7 (by decide) lk_X7_keys_10 rfl dX7_keys_1 rfl ?_
  refine i_iload_n (j := 1) (q := 5) C rfl rfl dX7_keys_4 rfl ?_
  refine i_callV (wr := [boW ax ab ap al ao (((pck t : Nat) : Int), ck, ba, no, fu)]) (As := [vI x]) (st := []) (i := 0) (j := 0) (q := 8) C (c_X0_slotOf K l (ab) (nu) (wo) (sc) (me) (us) (la) (ct) (gv) (kd) (sl) (x) (by omega) (fun j g0 g1 => by have := hb.xnu j g0 g1; omega) (by first | assumption | omega)) gX7_keys_X0_slotOf rfl hd_X0_slotOf ⟨Nat.le_of_ble_eq_true rfl, Nat.le_of_ble_eq_true rfl⟩ ⟨rfl, rfl⟩ ⟨Nat.le_of_ble_eq_true rfl, Nat.le_of_ble_eq_true rfl⟩ (permBy [1, 0] (by decide) rfl rfl) rfl rfl rfl rfl (Nat.le_of_ble_eq_true rfl) dX7_keys_5 rfl (fun v w hq => ?_)
  obtain ⟨r_5, rfl, rfl, hr_5⟩ := hq
  show V X 0 0 8 [(0, vP (ax 0)), (1, vI x)] [vI r_5] [bkW ab (nu, wo, sc, me, us, la, ct, gv, kd, sl), boW ax ab ap al ao (((pck t : Nat) : Int), ck, ba, no, fu)]
  refine V.perm (cs' := [boW ax ab ap al ao (((pck t : Nat) : Int), ck, ba, no, fu), bkW ab (nu, wo, sc, me, us, la, ct, gv, kd, sl)]) (permBy [1, 0] (by decide) rfl rfl) ?_
  have hf := hb.find hr_5
  refine i_istore_n (q := 9) (lv' := [(2, vI r_5), (0, vP (ax 0)), (1, vI x)]) C rfl (by decide) rfl dX7_keys_8 rfl ?_
  refine i_iload_n (j := 0) (q := 10) C rfl rfl dX7_keys_9 rfl ?_
  refine i_iconst (q := 11) C dX7_keys_10 rfl ?_
  refine i_icmp_ne (tgt := 21) (q := 14) C (by rcases hr_5 with h | h <;> omega) (by omega) dX7_keys_11 (by decide) rfl (fun c_11 => ?_) (fun c_11 => ?_)
  · skip
    obtain ⟨g1, g2, g3, hfs⟩ : 0 ≤ r_5 ∧ r_5 < ct ∧ nu r_5 = x ∧ fnd o x = some (atP o.1 r_5) := by
      rcases hf with h | h
      · omega
      · exact h
    refine i_aload_n (j := 1) (q := 22) C rfl rfl dX7_keys_21 rfl ?_
    refine i_iload_n (j := 0) (q := 23) C rfl rfl dX7_keys_22 rfl ?_
    refine i_callV (wr := []) (As := [vI r_5]) (st := []) (i := 0) (j := 0) (q := 26) C (c_X7_lettersTillFirst K l (ax) (ap) (al) (ao) (ck) (ba) (no) (fu) (t) (ab) (nu) (wo) (sc) (me) (us) (la) (ct) (gv) (kd) (sl) (24 * N) (o) (r_5) (by first | assumption | omega) (by first | assumption | omega)) gX7_keys_X7_lettersTillFirst rfl hd_X7_lettersTillFirst ⟨Nat.le_of_ble_eq_true rfl, Nat.le_of_ble_eq_true rfl⟩ ⟨rfl, rfl⟩ ⟨Nat.le_of_ble_eq_true rfl, Nat.le_of_ble_eq_true rfl⟩ (permBy [0, 1] (by decide) rfl rfl) rfl rfl rfl rfl (Nat.le_of_ble_eq_true rfl) dX7_keys_23 rfl (fun v w hq => ?_)
    obtain ⟨rfl, rfl⟩ := hq
    show V X 0 0 26 [(2, vI r_5), (0, vP (ax 0)), (1, vI x)] [vI (kys o.1 (atP o.1 r_5))] [boW ax ab ap al ao (((pck t : Nat) : Int), ck, ba, no, fu), bkW ab (nu, wo, sc, me, us, la, ct, gv, kd, sl)]
    refine i_iret C hR dX7_keys_26 ?_
    have hsp : (sp_keys x (o, h, t, ck, tx, ba, no, fu)) = (kys o.1 (atP o.1 r_5), (o, h, t, ck, tx, ba, no, fu)) := by
      simp only [sp_keys]
      rw [hfs]
    exact ⟨ba, by rw [hsp], rfl, by rw [hsp]; exact hC.s hN⟩
  · skip
    have hfn : fnd o x = none := by
      rcases hf with h | h
      · exact h.2
      · omega
    refine i_aload_n (j := 1) (q := 15) C rfl rfl dX7_keys_14 rfl ?_
    refine i_callV (wr := [bkW ab (nu, wo, sc, me, us, la, ct, gv, kd, sl)]) (As := []) (st := []) (i := 0) (j := 0) (q := 18) C (c_X7_refuseBad K l (ab) (ax) (ap) (al) (ao) (((pck t : Nat) : Int)) (ck) (ba) (no) (fu) ) gX7_keys_X7_refuseBad rfl hd_X7_refuseBad ⟨Nat.le_of_ble_eq_true rfl, Nat.le_of_ble_eq_true rfl⟩ ⟨rfl, rfl⟩ ⟨Nat.le_of_ble_eq_true rfl, Nat.le_of_ble_eq_true rfl⟩ (permBy [0, 1] (by decide) rfl rfl) rfl rfl rfl rfl (Nat.le_of_ble_eq_true rfl) dX7_keys_15 rfl (fun v w hq => ?_)
    obtain ⟨rfl, rfl⟩ := hq
    show V X 0 0 18 [(2, vI r_5), (0, vP (ax 0)), (1, vI x)] [vI (-2)] [boW ax ab ap al ao (((pck t : Nat) : Int), ck, ba + 1, no, fu), bkW ab (nu, wo, sc, me, us, la, ct, gv, kd, sl)]
    refine i_goto (q := 26) C dX7_keys_18 (by decide) ?_
    refine i_iret C hR dX7_keys_26 ?_
    have hsp : (sp_keys x (o, h, t, ck, tx, ba, no, fu)) = (-2, (o, h, t, ck, tx, ba + 1, no, fu)) := by
      simp only [sp_keys]
      rw [hfn]
      rfl
    exact ⟨ba + 1, by rw [hsp], rfl, by rw [hsp]; exact hC.bad hN⟩

theorem lk_X7_saved_10 : Cond.fieldLink RX7 10 (TX7 0).1 (TX7 0).2.1 (TX7 0).2.2.1 ∈ wsX7_saved := List.mem_of_getElem? (i := 1) rfl
theorem hi_X7_saved_X7 : ∀ w ∈ u_ws RX7 TX7 9, w ∈ wsX7_saved := by decide +kernel
theorem lk_X7_saved_139 : Cond.fieldLink RX7 139 (TX0 6).1 (TX0 6).2.1 (TX0 6).2.2.1 ∈ wsX7_saved := List.mem_of_getElem? (i := 2) rfl
theorem hi_X7_saved_X0 : ∀ w ∈ u_ws RX0 TX0 10, w ∈ wsX7_saved := by decide +kernel
theorem lk_X7_saved_92 : Cond.fieldLink RX7 92 (TX0 1).1 (TX0 1).2.1 (TX0 1).2.2.1 ∈ wsX7_saved := List.mem_of_getElem? (i := 3) rfl
set_option maxHeartbeats 400000 in
set_option maxRecDepth 100000 in
theorem c_X7_saved (K : KT) (l : Launch) (ax : Nat → Nat) (ap : Nat → Nat) (al : Nat → Nat) (ao : Nat → Nat) (ck : Int) (ba : Int) (no : Int) (fu : Int) (t : List Int) (ab : Nat → Nat) (nu : Int → Int) (wo : Int → Int) (sc : Int → Int) (me : Int → Int) (us : Int → Int) (la : Int → Int) (ct : Int) (gv : Int) (kd : Int) (sl : Int) (ak : Int → Nat → Nat) (nx : Int) (pc : Int) (Bs : Int → Bk) (by_ : Int → Int) (ve : Int → Int) (ow : Int → Int) (fi : Int → Int) (se : Int → Int) (le : Int) (oc : Int) (pl : Int) (fa : Int) (so : Int → Int) (ra : Int → Int) (lc : Int) (o : Bo) (h : List Bo) (tx : List Int) (N : Int) (hC : okC N nu wo sc me us la ct gv kd sl Bs nx pc ((pck t : Nat) : Int) ck ba no fu by_ le (o, h, t, ck, tx, ba, no, fu)) : Mt K l yX7_saved wsX7_saved ({ frames := 5, cells := 0, slots := 0, locals := 110 }) [vP (ax 0)] [boW ax ab ap al ao (((pck t : Nat) : Int), ck, ba, no, fu), bkW ab (nu, wo, sc, me, us, la, ct, gv, kd, sl)] 0 0 (fun v w => v = some (vI (svd o.1)) ∧ w = [boW ax ab ap al ao (((pck t : Nat) : Int), ck, ba, no, fu), bkW ab (nu, wo, sc, me, us, la, ct, gv, kd, sl)]) := by
  refine Mt.of (own := RX7) (cc := cX7_saved) (maxL := 4) (ret := (some .int)) (lv0 := [(0, vP (ax 0))]) (by decide) rfl rfl (Nat.le_of_ble_eq_true rfl) rfl (fun X C hR hNm => ?_)
  have hb := hC.hb
  have hct := hb.xct
  have hgv := hb.xgv
  have hkd := hb.xkd
  have hsl := hb.xsl
  obtain ⟨ht, hlt⟩ := hC.ht
  have hNN := hC.hN
  have hhx := hC.hh.1
  have hhp := hC.hh.2.1
  have hhl := hC.hh.2.2.1
  have hck := hC.hck
  have hTx := hC.hx
  refine i_iconst (q := 1) C dX7_saved_0 rfl ?_
  refine i_istore_n (q := 2) (lv' := [(1, vI 0), (0, vP (ax 0))]) C rfl (by decide) rfl dX7_saved_1 rfl ?_
  refine i_iconst (q := 3) C dX7_saved_2 rfl ?_
  refine i_istore_n (q := 4) (lv' := [(2, vI 0), (1, vI 0), (0, vP (ax 0))]) C rfl (by decide) rfl dX7_saved_3 rfl ?_
  have loop_4 : ∀ (fuel : Nat) (i : Int) (n : Int), ((ct - i).toNat) < fuel → (0 ≤ i ∧ i ≤ ct) → (n = (o.1.take i.toNat).foldl (svd1 o.1) 0) → V X 0 0 4 [(0, vP (ax 0)), (1, vI n), (2, vI i)] [] [boW ax ab ap al ao (((pck t : Nat) : Int), ck, ba, no, fu), bkW ab (nu, wo, sc, me, us, la, ct, gv, kd, sl)] := by
    intro fuel
    induction fuel with
    | zero => intro i n hz; exact absurd hz (Nat.not_lt_zero _)
    | succ fuel ih_4 =>
      intro i n hfu_4 hi hv
      refine i_iload_n (j := 2) (q := 5) C rfl rfl dX7_saved_4 rfl ?_
      refine i_aload_n (j := 0) (q := 6) C rfl rfl dX7_saved_5 rfl ?_
      refine i_get (i := 0) (j := 0) (f := 0) (q := 9) C rfl rfl rfl hi_X7_saved_X7 (by decide) lk_X7_saved_10 rfl dX7_saved_6 rfl ?_
      refine i_get (i := 1) (j := 0) (f := 6) (q := 12) C rfl rfl rfl hi_X7_saved_X0 (by decide) lk_X7_saved_139 rfl dX7_saved_9 rfl ?_
      refine i_icmp_ge (tgt := 49) (q := 15) C (by omega) (by omega) dX7_saved_12 (by decide) rfl (fun c_12 => ?_) (fun c_12 => ?_)
      · skip
        refine i_iload_n (j := 1) (q := 50) C rfl rfl dX7_saved_49 rfl ?_
        refine i_iret C hR dX7_saved_50 ?_
        have hall : o.1.take i.toNat = o.1 := tk_all (by omega)
        rw [hall] at hv
        exact ⟨by rw [hv]; rfl, rfl⟩
      · skip
        refine i_aload_n (j := 0) (q := 16) C rfl rfl dX7_saved_15 rfl ?_
        refine i_iload_n (j := 2) (q := 17) C rfl rfl dX7_saved_16 rfl ?_
        refine i_callV (wr := []) (As := [vI i]) (st := []) (i := 0) (j := 0) (q := 20) C (c_X7_lettersTillFirst K l (ax) (ap) (al) (ao) (ck) (ba) (no) (fu) (t) (ab) (nu) (wo) (sc) (me) (us) (la) (ct) (gv) (kd) (sl) (24 * N) (o) (i) (by first | assumption | omega) (by first | assumption | omega)) gX7_saved_X7_lettersTillFirst rfl hd_X7_lettersTillFirst ⟨Nat.le_of_ble_eq_true rfl, Nat.le_of_ble_eq_true rfl⟩ ⟨rfl, rfl⟩ ⟨Nat.le_of_ble_eq_true rfl, Nat.le_of_ble_eq_true rfl⟩ (permBy [0, 1] (by decide) rfl rfl) rfl rfl rfl rfl (Nat.le_of_ble_eq_true rfl) dX7_saved_17 rfl (fun v w hq => ?_)
        obtain ⟨rfl, rfl⟩ := hq
        show V X 0 0 20 [(0, vP (ax 0)), (1, vI n), (2, vI i)] [vI (kys o.1 (atP o.1 i))] [boW ax ab ap al ao (((pck t : Nat) : Int), ck, ba, no, fu), bkW ab (nu, wo, sc, me, us, la, ct, gv, kd, sl)]
        refine i_istore_n (q := 21) (lv' := [(3, vI (kys o.1 (atP o.1 i))), (0, vP (ax 0)), (1, vI n), (2, vI i)]) C rfl (by decide) rfl dX7_saved_20 rfl ?_
        refine i_iload_n (j := 0) (q := 22) C rfl rfl dX7_saved_21 rfl ?_
        refine i_iconst (q := 23) C dX7_saved_22 rfl ?_
        refine i_icmp_eq (tgt := 43) (q := 26) C (by have h7 := kys_in o.1 (atP o.1 i); have h9 := hb.xwo i (by omega) (by omega); omega) (by omega) dX7_saved_23 (by decide) rfl (fun c_23 => ?_) (fun c_23 => ?_)
        · skip
          refine i_iinc (j := 3) (q := 46) (lv' := [(2, vI (i + 1)), (3, vI (kys o.1 (atP o.1 i))), (0, vP (ax 0)), (1, vI n)]) C rfl (by decide) rfl dX7_saved_43 rfl ?_
          refine i_goto (q := 4) C dX7_saved_46 (by decide) ?_
          refine V.lv [2, 3, 0] rfl ?_
          exact ih_4 (i + 1) (n) (by omega) (by omega) (by
            rw [fold_tk _ _ hi.1 (by omega), ← hv]
            unfold svd1
            first
              | exact (by rw [if_pos c_23]; omega)
              | exact (by rw [if_neg c_23]))
        · skip
          refine i_iload_n (j := 2) (q := 27) C rfl rfl dX7_saved_26 rfl ?_
          refine i_aload_n (j := 1) (q := 28) C rfl rfl dX7_saved_27 rfl ?_
          refine i_get (i := 0) (j := 0) (f := 0) (q := 31) C rfl rfl rfl hi_X7_saved_X7 (by decide) lk_X7_saved_10 rfl dX7_saved_28 rfl ?_
          refine i_get (i := 1) (j := 0) (f := 1) (q := 34) C rfl rfl rfl hi_X7_saved_X0 (by decide) lk_X7_saved_92 rfl dX7_saved_31 rfl ?_
          refine i_iload_n (j := 3) (q := 35) C rfl rfl dX7_saved_34 rfl ?_
          refine i_lald (i := 1) (j := 2) (q := 36) C rfl rfl (by omega) dX7_saved_35 rfl ?_
          refine V.topJ (b := ((pck ((atP o.1 i).2.1) : Nat) : Int)) ((hb.xwo i (by omega) (by omega)).1) ?_
          refine i_callS (wr := [boW ax ab ap al ao (((pck t : Nat) : Int), ck, ba, no, fu), bkW ab (nu, wo, sc, me, us, la, ct, gv, kd, sl)]) (As := [vJ (((pck ((atP o.1 i).2.1) : Nat) : Int))]) (st := [vI n]) (q := 39) C (c_X6_lengthOf K l ((atP o.1 i).2.1) ((hb.xwo i (by omega) (by omega)).2.1) (by have := hb.xwo i (by omega) (by omega); omega)) gX7_saved_X6_lengthOf rfl hd_X6_lengthOf ⟨Nat.le_of_ble_eq_true rfl, Nat.le_of_ble_eq_true rfl⟩ ⟨rfl, rfl⟩ ⟨Nat.le_of_ble_eq_true rfl, Nat.le_of_ble_eq_true rfl⟩ (permBy [0, 1] (by decide) rfl rfl) rfl (Nat.le_of_ble_eq_true rfl) dX7_saved_36 rfl (fun v w hq => ?_)
          obtain ⟨rfl, rfl⟩ := hq
          show V X 0 0 39 [(3, vI (kys o.1 (atP o.1 i))), (0, vP (ax 0)), (1, vI n), (2, vI i)] [vI (((((atP o.1 i).2.1).length : Nat) : Int)), vI n] [boW ax ab ap al ao (((pck t : Nat) : Int), ck, ba, no, fu), bkW ab (nu, wo, sc, me, us, la, ct, gv, kd, sl)]
          refine i_iload_n (j := 0) (q := 40) C rfl rfl dX7_saved_39 rfl ?_
          refine i_isub (q := 41) C dX7_saved_40 rfl ?_
          refine i_iadd (q := 42) C dX7_saved_41 rfl ?_
          refine i_istore_n (q := 43) (lv' := [(1, vI (n + (((((atP o.1 i).2.1).length : Nat) : Int) - (kys o.1 (atP o.1 i))))), (3, vI (kys o.1 (atP o.1 i))), (0, vP (ax 0)), (2, vI i)]) C rfl (by decide) rfl dX7_saved_42 rfl ?_
          refine i_iinc (j := 3) (q := 46) (lv' := [(2, vI (i + 1)), (1, vI (n + (((((atP o.1 i).2.1).length : Nat) : Int) - (kys o.1 (atP o.1 i))))), (3, vI (kys o.1 (atP o.1 i))), (0, vP (ax 0))]) C rfl (by decide) rfl dX7_saved_43 rfl ?_
          refine i_goto (q := 4) C dX7_saved_46 (by decide) ?_
          refine V.lv [3, 1, 0] rfl ?_
          exact ih_4 (i + 1) (n + (((((atP o.1 i).2.1).length : Nat) : Int) - (kys o.1 (atP o.1 i)))) (by omega) (by omega) (by
            rw [fold_tk _ _ hi.1 (by omega), ← hv]
            unfold svd1
            first
              | exact (by rw [if_pos c_23]; omega)
              | exact (by rw [if_neg c_23]))
  refine V.lv [2, 1, 0] rfl ?_
  exact loop_4 _ (0) (0) (Nat.lt_succ_self _) (by omega) (rfl)

theorem lk_X7_twins_10 : Cond.fieldLink RX7 10 (TX7 0).1 (TX7 0).2.1 (TX7 0).2.2.1 ∈ wsX7_twins := List.mem_of_getElem? (i := 1) rfl
theorem hi_X7_twins_X7 : ∀ w ∈ u_ws RX7 TX7 9, w ∈ wsX7_twins := by decide +kernel
theorem lk_X7_twins_203 : Cond.fieldLink RX7 203 (TX0 3).1 (TX0 3).2.1 (TX0 3).2.2.1 ∈ wsX7_twins := List.mem_of_getElem? (i := 2) rfl
theorem hi_X7_twins_X0 : ∀ w ∈ u_ws RX0 TX0 10, w ∈ wsX7_twins := by decide +kernel
theorem lk_X7_twins_139 : Cond.fieldLink RX7 139 (TX0 6).1 (TX0 6).2.1 (TX0 6).2.2.1 ∈ wsX7_twins := List.mem_of_getElem? (i := 3) rfl
set_option maxHeartbeats 400000 in
set_option maxRecDepth 100000 in
theorem c_X7_twins (K : KT) (l : Launch) (ax : Nat → Nat) (ap : Nat → Nat) (al : Nat → Nat) (ao : Nat → Nat) (ck : Int) (ba : Int) (no : Int) (fu : Int) (t : List Int) (ab : Nat → Nat) (nu : Int → Int) (wo : Int → Int) (sc : Int → Int) (me : Int → Int) (us : Int → Int) (la : Int → Int) (ct : Int) (gv : Int) (kd : Int) (sl : Int) (ak : Int → Nat → Nat) (nx : Int) (pc : Int) (Bs : Int → Bk) (by_ : Int → Int) (ve : Int → Int) (ow : Int → Int) (fi : Int → Int) (se : Int → Int) (le : Int) (oc : Int) (pl : Int) (fa : Int) (so : Int → Int) (ra : Int → Int) (lc : Int) (o : Bo) (h : List Bo) (tx : List Int) (N : Int) (x : Int) (hC : okC N nu wo sc me us la ct gv kd sl Bs nx pc ((pck t : Nat) : Int) ck ba no fu by_ le (o, h, t, ck, tx, ba, no, fu)) (hN : N < 512) (hx : rI x) : Mt K l yX7_twins wsX7_twins ({ frames := 1, cells := 0, slots := 0, locals := 22 }) [vP (ax 0), vI x] [boW ax ab ap al ao (((pck t : Nat) : Int), ck, ba, no, fu), bkW ab (nu, wo, sc, me, us, la, ct, gv, kd, sl)] 0 0 (fun v w => ∃ ba3 : Int, v = some (vI ((sp_twins x (o, h, t, ck, tx, ba, no, fu)).1)) ∧ w = [boW ax ab ap al ao (((pck t : Nat) : Int), ck, ba3, no, fu), bkW ab (nu, wo, sc, me, us, la, ct, gv, kd, sl)] ∧ (okC (N + 1) nu wo sc me us la ct gv kd sl Bs nx pc ((pck t : Nat) : Int) ck ba3 no fu by_ le (sp_twins x (o, h, t, ck, tx, ba, no, fu)).2)) := by
  refine Mt.of (own := RX7) (cc := cX7_twins) (maxL := 6) (ret := (some .int)) (lv0 := [(0, vP (ax 0)), (1, vI x)]) (by decide) rfl rfl (Nat.le_of_ble_eq_true rfl) rfl (fun X C hR hNm => ?_)
  have hb := hC.hb
  have hct := hb.xct
  have hgv := hb.xgv
  have hkd := hb.xkd
  have hsl := hb.xsl
  obtain ⟨ht, hlt⟩ := hC.ht
  have hNN := hC.hN
  have hhx := hC.hh.1
  have hhp := hC.hh.2.1
  have hhl := hC.hh.2.2.1
  have hck := hC.hck
  have hTx := hC.hx
  refine i_aload_n (j := 0) (q := 1) C rfl rfl dX7_twins_0 rfl ?_
  refine i_get (i := 0) (j := 0) (f := 0) (q := 4) C rfl rfl rfl hi_X7_twins_X7 (by decide) lk_X7_twins_10 rfl dX7_twins_1 rfl ?_
  refine i_iload_n (j := 1) (q := 5) C rfl rfl dX7_twins_4 rfl ?_
  refine i_callV (wr := [boW ax ab ap al ao (((pck t : Nat) : Int), ck, ba, no, fu)]) (As := [vI x]) (st := []) (i := 0) (j := 0) (q := 8) C (c_X0_slotOf K l (ab) (nu) (wo) (sc) (me) (us) (la) (ct) (gv) (kd) (sl) (x) (by omega) (fun j g0 g1 => by have := hb.xnu j g0 g1; omega) (by first | assumption | omega)) gX7_twins_X0_slotOf rfl hd_X0_slotOf ⟨Nat.le_of_ble_eq_true rfl, Nat.le_of_ble_eq_true rfl⟩ ⟨rfl, rfl⟩ ⟨Nat.le_of_ble_eq_true rfl, Nat.le_of_ble_eq_true rfl⟩ (permBy [1, 0] (by decide) rfl rfl) rfl rfl rfl rfl (Nat.le_of_ble_eq_true rfl) dX7_twins_5 rfl (fun v w hq => ?_)
  obtain ⟨r_5, rfl, rfl, hr_5⟩ := hq
  show V X 0 0 8 [(0, vP (ax 0)), (1, vI x)] [vI r_5] [bkW ab (nu, wo, sc, me, us, la, ct, gv, kd, sl), boW ax ab ap al ao (((pck t : Nat) : Int), ck, ba, no, fu)]
  refine V.perm (cs' := [boW ax ab ap al ao (((pck t : Nat) : Int), ck, ba, no, fu), bkW ab (nu, wo, sc, me, us, la, ct, gv, kd, sl)]) (permBy [1, 0] (by decide) rfl rfl) ?_
  have hf := hb.find hr_5
  refine i_istore_n (q := 9) (lv' := [(2, vI r_5), (0, vP (ax 0)), (1, vI x)]) C rfl (by decide) rfl dX7_twins_8 rfl ?_
  refine i_iload_n (j := 0) (q := 10) C rfl rfl dX7_twins_9 rfl ?_
  refine i_iconst (q := 11) C dX7_twins_10 rfl ?_
  refine i_icmp_ne (tgt := 19) (q := 14) C (by rcases hr_5 with h | h <;> omega) (by omega) dX7_twins_11 (by decide) rfl (fun c_11 => ?_) (fun c_11 => ?_)
  · skip
    obtain ⟨g1, g2, g3, hfs⟩ : 0 ≤ r_5 ∧ r_5 < ct ∧ nu r_5 = x ∧ fnd o x = some (atP o.1 r_5) := by
      rcases hf with h | h
      · omega
      · exact h
    have hmr := hb.xme r_5 g1 g2
    refine i_aload_n (j := 1) (q := 20) C rfl rfl dX7_twins_19 rfl ?_
    refine i_get (i := 0) (j := 0) (f := 0) (q := 23) C rfl rfl rfl hi_X7_twins_X7 (by decide) lk_X7_twins_10 rfl dX7_twins_20 rfl ?_
    refine i_get (i := 1) (j := 0) (f := 3) (q := 26) C rfl rfl rfl hi_X7_twins_X0 (by decide) lk_X7_twins_203 rfl dX7_twins_23 rfl ?_
    refine i_iload_n (j := 0) (q := 27) C rfl rfl dX7_twins_26 rfl ?_
    refine i_iald (i := 1) (j := 4) (q := 28) C rfl rfl (by omega) dX7_twins_27 rfl ?_
    have ld_27 := hb.xme r_5 (by omega) (by omega)
    refine i_istore_n (q := 29) (lv' := [(3, vI (me r_5)), (2, vI r_5), (0, vP (ax 0)), (1, vI x)]) C rfl (by decide) rfl dX7_twins_28 rfl ?_
    refine i_iconst (q := 30) C dX7_twins_29 rfl ?_
    refine i_istore (q := 32) (lv' := [(4, vI 0), (3, vI (me r_5)), (2, vI r_5), (0, vP (ax 0)), (1, vI x)]) C (by decide) rfl dX7_twins_30 rfl ?_
    refine i_iconst (q := 33) C dX7_twins_32 rfl ?_
    refine i_istore (q := 35) (lv' := [(5, vI 0), (4, vI 0), (3, vI (me r_5)), (2, vI r_5), (0, vP (ax 0)), (1, vI x)]) C (by decide) rfl dX7_twins_33 rfl ?_
    have loop_35 : ∀ (fuel : Nat) (i : Int) (n : Int), ((ct - i).toNat) < fuel → (0 ≤ i ∧ i ≤ ct) → (n = (((o.1.take i.toNat).filter (fun y : Ph => !(y.1 == (atP o.1 r_5).1) && decide (0 < (atP o.1 r_5).2.2.2.1) && (y.2.2.2.1 == (atP o.1 r_5).2.2.2.1))).length : Int)) → V X 0 0 35 [(0, vP (ax 0)), (1, vI x), (2, vI r_5), (3, vI (me r_5)), (4, vI n), (5, vI i)] [] [boW ax ab ap al ao (((pck t : Nat) : Int), ck, ba, no, fu), bkW ab (nu, wo, sc, me, us, la, ct, gv, kd, sl)] := by
      intro fuel
      induction fuel with
      | zero => intro i n hz; exact absurd hz (Nat.not_lt_zero _)
      | succ fuel ih_35 =>
        intro i n hfu_35 hi hv
        refine i_iload (j := 5) (q := 37) C rfl dX7_twins_35 rfl ?_
        refine i_aload_n (j := 0) (q := 38) C rfl rfl dX7_twins_37 rfl ?_
        refine i_get (i := 0) (j := 0) (f := 0) (q := 41) C rfl rfl rfl hi_X7_twins_X7 (by decide) lk_X7_twins_10 rfl dX7_twins_38 rfl ?_
        refine i_get (i := 1) (j := 0) (f := 6) (q := 44) C rfl rfl rfl hi_X7_twins_X0 (by decide) lk_X7_twins_139 rfl dX7_twins_41 rfl ?_
        refine i_icmp_ge (tgt := 80) (q := 47) C (by omega) (by omega) dX7_twins_44 (by decide) rfl (fun c_44 => ?_) (fun c_44 => ?_)
        · skip
          refine i_iload (j := 4) (q := 82) C rfl dX7_twins_80 rfl ?_
          refine i_iret C hR dX7_twins_82 ?_
          have hsp : (sp_twins x (o, h, t, ck, tx, ba, no, fu)) = (n, (o, h, t, ck, tx, ba, no, fu)) := by
            simp only [sp_twins]
            rw [hfs]
            simp only
            have hall : o.1.take i.toNat = o.1 := tk_all (by omega)
            rw [hall] at hv
            rw [hv]
            rfl
          exact ⟨ba, by rw [hsp], rfl, by rw [hsp]; exact hC.s hN⟩
        · skip
          refine i_iload_n (j := 3) (q := 48) C rfl rfl dX7_twins_47 rfl ?_
          refine i_if_eq (tgt := 74) (q := 51) C (by omega) dX7_twins_48 (by decide) rfl (fun c_48 => ?_) (fun c_48 => ?_)
          · skip
            refine i_iinc (j := 5) (q := 77) (lv' := [(5, vI (i + 1)), (0, vP (ax 0)), (1, vI x), (2, vI r_5), (3, vI (me r_5)), (4, vI n)]) C rfl (by decide) rfl dX7_twins_74 rfl ?_
            refine i_goto (q := 35) C dX7_twins_77 (by decide) ?_
            refine V.lv [1, 2, 3, 4, 5, 0] rfl ?_
            exact ih_35 (i + 1) (n) (by omega) (by omega) (by
              rw [fil_tk _ hi.1 (by omega), ← hv]
              have n1 := hb.xnu i (by omega) (by omega)
              have n2 := hb.xnu r_5 g1 g2
              have m1 := hb.xme i (by omega) (by omega)
              have hne : i ≠ r_5 → ¬ (atP o.1 i).1 = (atP o.1 r_5).1 := fun e z => by
                rcases Int.lt_trichotomy i r_5 with q | q | q
                · have := hb.lt i r_5 hi.1 q g2; omega
                · exact e q
                · have := hb.lt r_5 i g1 q (by omega); omega
              have hcond : (fun y : Ph => !(y.1 == (atP o.1 r_5).1) && decide (0 < (atP o.1 r_5).2.2.2.1) && (y.2.2.2.1 == (atP o.1 r_5).2.2.2.1)) (atP o.1 i) = true ↔ (¬ me r_5 = 0 ∧ ¬ i = r_5 ∧ me i = me r_5) := by
                simp only [Bool.and_eq_true, Bool.not_eq_true', beq_eq_false_iff_ne, beq_iff_eq, decide_eq_true_eq]
                constructor
                · rintro ⟨⟨z1, z2⟩, z3⟩
                  exact ⟨by omega, fun e => z1 (by rw [e]), by omega⟩
                · rintro ⟨z1, z2, z3⟩
                  exact ⟨⟨hne z2, by omega⟩, by omega⟩
              first
                | (rw [if_neg (fun z => absurd (hcond.mp z) (by omega))]; omega)
                | (rw [if_pos (hcond.mpr ⟨by omega, by omega, by omega⟩)]))
          · skip
            refine i_iload (j := 5) (q := 53) C rfl dX7_twins_51 rfl ?_
            refine i_iload_n (j := 2) (q := 54) C rfl rfl dX7_twins_53 rfl ?_
            refine i_icmp_eq (tgt := 74) (q := 57) C (by omega) (by omega) dX7_twins_54 (by decide) rfl (fun c_54 => ?_) (fun c_54 => ?_)
            · skip
              refine i_iinc (j := 5) (q := 77) (lv' := [(5, vI (i + 1)), (0, vP (ax 0)), (1, vI x), (2, vI r_5), (3, vI (me r_5)), (4, vI n)]) C rfl (by decide) rfl dX7_twins_74 rfl ?_
              refine i_goto (q := 35) C dX7_twins_77 (by decide) ?_
              refine V.lv [1, 2, 3, 4, 5, 0] rfl ?_
              exact ih_35 (i + 1) (n) (by omega) (by omega) (by
                rw [fil_tk _ hi.1 (by omega), ← hv]
                have n1 := hb.xnu i (by omega) (by omega)
                have n2 := hb.xnu r_5 g1 g2
                have m1 := hb.xme i (by omega) (by omega)
                have hne : i ≠ r_5 → ¬ (atP o.1 i).1 = (atP o.1 r_5).1 := fun e z => by
                  rcases Int.lt_trichotomy i r_5 with q | q | q
                  · have := hb.lt i r_5 hi.1 q g2; omega
                  · exact e q
                  · have := hb.lt r_5 i g1 q (by omega); omega
                have hcond : (fun y : Ph => !(y.1 == (atP o.1 r_5).1) && decide (0 < (atP o.1 r_5).2.2.2.1) && (y.2.2.2.1 == (atP o.1 r_5).2.2.2.1)) (atP o.1 i) = true ↔ (¬ me r_5 = 0 ∧ ¬ i = r_5 ∧ me i = me r_5) := by
                  simp only [Bool.and_eq_true, Bool.not_eq_true', beq_eq_false_iff_ne, beq_iff_eq, decide_eq_true_eq]
                  constructor
                  · rintro ⟨⟨z1, z2⟩, z3⟩
                    exact ⟨by omega, fun e => z1 (by rw [e]), by omega⟩
                  · rintro ⟨z1, z2, z3⟩
                    exact ⟨⟨hne z2, by omega⟩, by omega⟩
                first
                  | (rw [if_neg (fun z => absurd (hcond.mp z) (by omega))]; omega)
                  | (rw [if_pos (hcond.mpr ⟨by omega, by omega, by omega⟩)]))
            · skip
              refine i_aload_n (j := 0) (q := 58) C rfl rfl dX7_twins_57 rfl ?_
              refine i_get (i := 0) (j := 0) (f := 0) (q := 61) C rfl rfl rfl hi_X7_twins_X7 (by decide) lk_X7_twins_10 rfl dX7_twins_58 rfl ?_
              refine i_get (i := 1) (j := 0) (f := 3) (q := 64) C rfl rfl rfl hi_X7_twins_X0 (by decide) lk_X7_twins_203 rfl dX7_twins_61 rfl ?_
              refine i_iload (j := 5) (q := 66) C rfl dX7_twins_64 rfl ?_
              refine i_iald (i := 1) (j := 4) (q := 67) C rfl rfl (by omega) dX7_twins_66 rfl ?_
              have ld_66 := hb.xme i (by omega) (by omega)
              refine i_iload_n (j := 3) (q := 68) C rfl rfl dX7_twins_67 rfl ?_
              refine i_icmp_ne (tgt := 74) (q := 71) C (by omega) (by omega) dX7_twins_68 (by decide) rfl (fun c_68 => ?_) (fun c_68 => ?_)
              · skip
                refine i_iinc (j := 5) (q := 77) (lv' := [(5, vI (i + 1)), (0, vP (ax 0)), (1, vI x), (2, vI r_5), (3, vI (me r_5)), (4, vI n)]) C rfl (by decide) rfl dX7_twins_74 rfl ?_
                refine i_goto (q := 35) C dX7_twins_77 (by decide) ?_
                refine V.lv [1, 2, 3, 4, 5, 0] rfl ?_
                exact ih_35 (i + 1) (n) (by omega) (by omega) (by
                  rw [fil_tk _ hi.1 (by omega), ← hv]
                  have n1 := hb.xnu i (by omega) (by omega)
                  have n2 := hb.xnu r_5 g1 g2
                  have m1 := hb.xme i (by omega) (by omega)
                  have hne : i ≠ r_5 → ¬ (atP o.1 i).1 = (atP o.1 r_5).1 := fun e z => by
                    rcases Int.lt_trichotomy i r_5 with q | q | q
                    · have := hb.lt i r_5 hi.1 q g2; omega
                    · exact e q
                    · have := hb.lt r_5 i g1 q (by omega); omega
                  have hcond : (fun y : Ph => !(y.1 == (atP o.1 r_5).1) && decide (0 < (atP o.1 r_5).2.2.2.1) && (y.2.2.2.1 == (atP o.1 r_5).2.2.2.1)) (atP o.1 i) = true ↔ (¬ me r_5 = 0 ∧ ¬ i = r_5 ∧ me i = me r_5) := by
                    simp only [Bool.and_eq_true, Bool.not_eq_true', beq_eq_false_iff_ne, beq_iff_eq, decide_eq_true_eq]
                    constructor
                    · rintro ⟨⟨z1, z2⟩, z3⟩
                      exact ⟨by omega, fun e => z1 (by rw [e]), by omega⟩
                    · rintro ⟨z1, z2, z3⟩
                      exact ⟨⟨hne z2, by omega⟩, by omega⟩
                  first
                    | (rw [if_neg (fun z => absurd (hcond.mp z) (by omega))]; omega)
                    | (rw [if_pos (hcond.mpr ⟨by omega, by omega, by omega⟩)]))
              · skip
                refine i_iinc (j := 4) (q := 74) (lv' := [(4, vI (n + 1)), (0, vP (ax 0)), (1, vI x), (2, vI r_5), (3, vI (me r_5)), (5, vI i)]) C rfl (by decide) rfl dX7_twins_71 rfl ?_
                refine i_iinc (j := 5) (q := 77) (lv' := [(5, vI (i + 1)), (4, vI (n + 1)), (0, vP (ax 0)), (1, vI x), (2, vI r_5), (3, vI (me r_5))]) C rfl (by decide) rfl dX7_twins_74 rfl ?_
                refine i_goto (q := 35) C dX7_twins_77 (by decide) ?_
                refine V.lv [2, 3, 4, 5, 1, 0] rfl ?_
                exact ih_35 (i + 1) (n + 1) (by omega) (by omega) (by
                  rw [fil_tk _ hi.1 (by omega), ← hv]
                  have n1 := hb.xnu i (by omega) (by omega)
                  have n2 := hb.xnu r_5 g1 g2
                  have m1 := hb.xme i (by omega) (by omega)
                  have hne : i ≠ r_5 → ¬ (atP o.1 i).1 = (atP o.1 r_5).1 := fun e z => by
                    rcases Int.lt_trichotomy i r_5 with q | q | q
                    · have := hb.lt i r_5 hi.1 q g2; omega
                    · exact e q
                    · have := hb.lt r_5 i g1 q (by omega); omega
                  have hcond : (fun y : Ph => !(y.1 == (atP o.1 r_5).1) && decide (0 < (atP o.1 r_5).2.2.2.1) && (y.2.2.2.1 == (atP o.1 r_5).2.2.2.1)) (atP o.1 i) = true ↔ (¬ me r_5 = 0 ∧ ¬ i = r_5 ∧ me i = me r_5) := by
                    simp only [Bool.and_eq_true, Bool.not_eq_true', beq_eq_false_iff_ne, beq_iff_eq, decide_eq_true_eq]
                    constructor
                    · rintro ⟨⟨z1, z2⟩, z3⟩
                      exact ⟨by omega, fun e => z1 (by rw [e]), by omega⟩
                    · rintro ⟨z1, z2, z3⟩
                      exact ⟨⟨hne z2, by omega⟩, by omega⟩
                  first
                    | (rw [if_neg (fun z => absurd (hcond.mp z) (by omega))]; omega)
                    | (rw [if_pos (hcond.mpr ⟨by omega, by omega, by omega⟩)]))
    refine V.lv [4, 5, 3, 2, 1, 0] rfl ?_
    exact loop_35 _ (0) (0) (Nat.lt_succ_self _) (by omega) (rfl)
  · skip
    have hfn : fnd o x = none := by
      rcases hf with h | h
      · exact h.2
      · omega
    refine i_aload_n (j := 1) (q := 15) C rfl rfl dX7_twins_14 rfl ?_
    refine i_callV (wr := [bkW ab (nu, wo, sc, me, us, la, ct, gv, kd, sl)]) (As := []) (st := []) (i := 0) (j := 0) (q := 18) C (c_X7_refuseBad K l (ab) (ax) (ap) (al) (ao) (((pck t : Nat) : Int)) (ck) (ba) (no) (fu) ) gX7_twins_X7_refuseBad rfl hd_X7_refuseBad ⟨Nat.le_of_ble_eq_true rfl, Nat.le_of_ble_eq_true rfl⟩ ⟨rfl, rfl⟩ ⟨Nat.le_of_ble_eq_true rfl, Nat.le_of_ble_eq_true rfl⟩ (permBy [0, 1] (by decide) rfl rfl) rfl rfl rfl rfl (Nat.le_of_ble_eq_true rfl) dX7_twins_15 rfl (fun v w hq => ?_)
    obtain ⟨rfl, rfl⟩ := hq
    show V X 0 0 18 [(2, vI r_5), (0, vP (ax 0)), (1, vI x)] [vI (-2)] [boW ax ab ap al ao (((pck t : Nat) : Int), ck, ba + 1, no, fu), bkW ab (nu, wo, sc, me, us, la, ct, gv, kd, sl)]
    refine i_iret C hR dX7_twins_18 ?_
    have hsp : (sp_twins x (o, h, t, ck, tx, ba, no, fu)) = (-2, (o, h, t, ck, tx, ba + 1, no, fu)) := by
      simp only [sp_twins]
      rw [hfn]
      rfl
    exact ⟨ba + 1, by rw [hsp], rfl, by rw [hsp]; exact hC.bad hN⟩

theorem lk_X7_alike_10 : Cond.fieldLink RX7 10 (TX7 0).1 (TX7 0).2.1 (TX7 0).2.2.1 ∈ wsX7_alike := List.mem_of_getElem? (i := 1) rfl
theorem hi_X7_alike_X7 : ∀ w ∈ u_ws RX7 TX7 9, w ∈ wsX7_alike := by decide +kernel
theorem lk_X7_alike_92 : Cond.fieldLink RX7 92 (TX0 1).1 (TX0 1).2.1 (TX0 1).2.2.1 ∈ wsX7_alike := List.mem_of_getElem? (i := 2) rfl
theorem hi_X7_alike_X0 : ∀ w ∈ u_ws RX0 TX0 10, w ∈ wsX7_alike := by decide +kernel
set_option maxHeartbeats 400000 in
set_option maxRecDepth 100000 in
theorem c_X7_alike (K : KT) (l : Launch) (ax : Nat → Nat) (ap : Nat → Nat) (al : Nat → Nat) (ao : Nat → Nat) (ck : Int) (ba : Int) (no : Int) (fu : Int) (t : List Int) (ab : Nat → Nat) (nu : Int → Int) (wo : Int → Int) (sc : Int → Int) (me : Int → Int) (us : Int → Int) (la : Int → Int) (ct : Int) (gv : Int) (kd : Int) (sl : Int) (ak : Int → Nat → Nat) (nx : Int) (pc : Int) (Bs : Int → Bk) (by_ : Int → Int) (ve : Int → Int) (ow : Int → Int) (fi : Int → Int) (se : Int → Int) (le : Int) (oc : Int) (pl : Int) (fa : Int) (so : Int → Int) (ra : Int → Int) (lc : Int) (o : Bo) (h : List Bo) (tx : List Int) (N : Int) (x : Int) (y : Int) (hC : okC N nu wo sc me us la ct gv kd sl Bs nx pc ((pck t : Nat) : Int) ck ba no fu by_ le (o, h, t, ck, tx, ba, no, fu)) (hN : N < 512) (hx : rI x) (hy : rI y) : Mt K l yX7_alike wsX7_alike ({ frames := 4, cells := 0, slots := 0, locals := 87 }) [vP (ax 0), vI x, vI y] [boW ax ab ap al ao (((pck t : Nat) : Int), ck, ba, no, fu), bkW ab (nu, wo, sc, me, us, la, ct, gv, kd, sl)] 0 0 (fun v w => ∃ ba3 : Int, v = some (vI ((sp_alike x y (o, h, t, ck, tx, ba, no, fu)).1)) ∧ w = [boW ax ab ap al ao (((pck t : Nat) : Int), ck, ba3, no, fu), bkW ab (nu, wo, sc, me, us, la, ct, gv, kd, sl)] ∧ (okC (N + 1) nu wo sc me us la ct gv kd sl Bs nx pc ((pck t : Nat) : Int) ck ba3 no fu by_ le (sp_alike x y (o, h, t, ck, tx, ba, no, fu)).2)) := by
  refine Mt.of (own := RX7) (cc := cX7_alike) (maxL := 5) (ret := (some .int)) (lv0 := [(0, vP (ax 0)), (1, vI x), (2, vI y)]) (by decide) rfl rfl (Nat.le_of_ble_eq_true rfl) rfl (fun X C hR hNm => ?_)
  have hb := hC.hb
  have hct := hb.xct
  have hgv := hb.xgv
  have hkd := hb.xkd
  have hsl := hb.xsl
  obtain ⟨ht, hlt⟩ := hC.ht
  have hNN := hC.hN
  have hhx := hC.hh.1
  have hhp := hC.hh.2.1
  have hhl := hC.hh.2.2.1
  have hck := hC.hck
  have hTx := hC.hx
  refine i_aload_n (j := 0) (q := 1) C rfl rfl dX7_alike_0 rfl ?_
  refine i_get (i := 0) (j := 0) (f := 0) (q := 4) C rfl rfl rfl hi_X7_alike_X7 (by decide) lk_X7_alike_10 rfl dX7_alike_1 rfl ?_
  refine i_iload_n (j := 1) (q := 5) C rfl rfl dX7_alike_4 rfl ?_
  refine i_callV (wr := [boW ax ab ap al ao (((pck t : Nat) : Int), ck, ba, no, fu)]) (As := [vI x]) (st := []) (i := 0) (j := 0) (q := 8) C (c_X0_slotOf K l (ab) (nu) (wo) (sc) (me) (us) (la) (ct) (gv) (kd) (sl) (x) (by omega) (fun j g0 g1 => by have := hb.xnu j g0 g1; omega) (by first | assumption | omega)) gX7_alike_X0_slotOf rfl hd_X0_slotOf ⟨Nat.le_of_ble_eq_true rfl, Nat.le_of_ble_eq_true rfl⟩ ⟨rfl, rfl⟩ ⟨Nat.le_of_ble_eq_true rfl, Nat.le_of_ble_eq_true rfl⟩ (permBy [1, 0] (by decide) rfl rfl) rfl rfl rfl rfl (Nat.le_of_ble_eq_true rfl) dX7_alike_5 rfl (fun v w hq => ?_)
  obtain ⟨r_5, rfl, rfl, hr_5⟩ := hq
  show V X 0 0 8 [(0, vP (ax 0)), (1, vI x), (2, vI y)] [vI r_5] [bkW ab (nu, wo, sc, me, us, la, ct, gv, kd, sl), boW ax ab ap al ao (((pck t : Nat) : Int), ck, ba, no, fu)]
  refine V.perm (cs' := [boW ax ab ap al ao (((pck t : Nat) : Int), ck, ba, no, fu), bkW ab (nu, wo, sc, me, us, la, ct, gv, kd, sl)]) (permBy [1, 0] (by decide) rfl rfl) ?_
  have hf := hb.find hr_5
  refine i_istore_n (q := 9) (lv' := [(3, vI r_5), (0, vP (ax 0)), (1, vI x), (2, vI y)]) C rfl (by decide) rfl dX7_alike_8 rfl ?_
  refine i_aload_n (j := 1) (q := 10) C rfl rfl dX7_alike_9 rfl ?_
  refine i_get (i := 0) (j := 0) (f := 0) (q := 13) C rfl rfl rfl hi_X7_alike_X7 (by decide) lk_X7_alike_10 rfl dX7_alike_10 rfl ?_
  refine i_iload_n (j := 3) (q := 14) C rfl rfl dX7_alike_13 rfl ?_
  refine i_callV (wr := [boW ax ab ap al ao (((pck t : Nat) : Int), ck, ba, no, fu)]) (As := [vI y]) (st := []) (i := 0) (j := 0) (q := 17) C (c_X0_slotOf K l (ab) (nu) (wo) (sc) (me) (us) (la) (ct) (gv) (kd) (sl) (y) (by omega) (fun j g0 g1 => by have := hb.xnu j g0 g1; omega) (by first | assumption | omega)) gX7_alike_X0_slotOf rfl hd_X0_slotOf ⟨Nat.le_of_ble_eq_true rfl, Nat.le_of_ble_eq_true rfl⟩ ⟨rfl, rfl⟩ ⟨Nat.le_of_ble_eq_true rfl, Nat.le_of_ble_eq_true rfl⟩ (permBy [1, 0] (by decide) rfl rfl) rfl rfl rfl rfl (Nat.le_of_ble_eq_true rfl) dX7_alike_14 rfl (fun v w hq => ?_)
  obtain ⟨r_14, rfl, rfl, hr_14⟩ := hq
  show V X 0 0 17 [(3, vI r_5), (0, vP (ax 0)), (1, vI x), (2, vI y)] [vI r_14] [bkW ab (nu, wo, sc, me, us, la, ct, gv, kd, sl), boW ax ab ap al ao (((pck t : Nat) : Int), ck, ba, no, fu)]
  refine V.perm (cs' := [boW ax ab ap al ao (((pck t : Nat) : Int), ck, ba, no, fu), bkW ab (nu, wo, sc, me, us, la, ct, gv, kd, sl)]) (permBy [1, 0] (by decide) rfl rfl) ?_
  have hfb := hb.find hr_14
  refine i_istore (q := 19) (lv' := [(4, vI r_14), (3, vI r_5), (0, vP (ax 0)), (1, vI x), (2, vI y)]) C (by decide) rfl dX7_alike_17 rfl ?_
  refine i_iload_n (j := 1) (q := 20) C rfl rfl dX7_alike_19 rfl ?_
  refine i_iconst (q := 21) C dX7_alike_20 rfl ?_
  refine i_icmp_eq (tgt := 30) (q := 24) C (by rcases hr_5 with h | h <;> omega) (by omega) dX7_alike_21 (by decide) rfl (fun c_21 => ?_) (fun c_21 => ?_)
  · skip
    have hfn : fnd o x = none := by
      rcases hf with h | h
      · exact h.2
      · omega
    refine i_aload_n (j := 2) (q := 31) C rfl rfl dX7_alike_30 rfl ?_
    refine i_callV (wr := [bkW ab (nu, wo, sc, me, us, la, ct, gv, kd, sl)]) (As := []) (st := []) (i := 0) (j := 0) (q := 34) C (c_X7_refuseBad K l (ab) (ax) (ap) (al) (ao) (((pck t : Nat) : Int)) (ck) (ba) (no) (fu) ) gX7_alike_X7_refuseBad rfl hd_X7_refuseBad ⟨Nat.le_of_ble_eq_true rfl, Nat.le_of_ble_eq_true rfl⟩ ⟨rfl, rfl⟩ ⟨Nat.le_of_ble_eq_true rfl, Nat.le_of_ble_eq_true rfl⟩ (permBy [0, 1] (by decide) rfl rfl) rfl rfl rfl rfl (Nat.le_of_ble_eq_true rfl) dX7_alike_31 rfl (fun v w hq => ?_)
    obtain ⟨rfl, rfl⟩ := hq
    show V X 0 0 34 [(4, vI r_14), (3, vI r_5), (0, vP (ax 0)), (1, vI x), (2, vI y)] [vI (-2)] [boW ax ab ap al ao (((pck t : Nat) : Int), ck, ba + 1, no, fu), bkW ab (nu, wo, sc, me, us, la, ct, gv, kd, sl)]
    refine i_iret C hR dX7_alike_34 ?_
    have hsp : (sp_alike x y (o, h, t, ck, tx, ba, no, fu)) = (-2, (o, h, t, ck, tx, ba + 1, no, fu)) := by
      simp only [sp_alike]
      rw [hfn]
      rfl
    exact ⟨ba + 1, by rw [hsp], rfl, by rw [hsp]; exact hC.bad hN⟩
  · skip
    obtain ⟨g1, g2, g3, hfs⟩ : 0 ≤ r_5 ∧ r_5 < ct ∧ nu r_5 = x ∧ fnd o x = some (atP o.1 r_5) := by
      rcases hf with h | h
      · omega
      · exact h
    refine i_iload (j := 0) (q := 26) C rfl dX7_alike_24 rfl ?_
    refine i_iconst (q := 27) C dX7_alike_26 rfl ?_
    refine i_icmp_ne (tgt := 35) (q := 30) C (by rcases hr_14 with h | h <;> omega) (by omega) dX7_alike_27 (by decide) rfl (fun c_27 => ?_) (fun c_27 => ?_)
    · skip
      obtain ⟨g1b, g2b, g3b, hfsb⟩ : 0 ≤ r_14 ∧ r_14 < ct ∧ nu r_14 = y ∧ fnd o y = some (atP o.1 r_14) := by
        rcases hfb with h | h
        · omega
        · exact h
      refine i_aload_n (j := 2) (q := 36) C rfl rfl dX7_alike_35 rfl ?_
      refine i_get (i := 0) (j := 0) (f := 0) (q := 39) C rfl rfl rfl hi_X7_alike_X7 (by decide) lk_X7_alike_10 rfl dX7_alike_36 rfl ?_
      refine i_get (i := 1) (j := 0) (f := 1) (q := 42) C rfl rfl rfl hi_X7_alike_X0 (by decide) lk_X7_alike_92 rfl dX7_alike_39 rfl ?_
      refine i_iload_n (j := 1) (q := 43) C rfl rfl dX7_alike_42 rfl ?_
      refine i_lald (i := 1) (j := 2) (q := 44) C rfl rfl (by omega) dX7_alike_43 rfl ?_
      refine V.topJ (b := ((pck ((atP o.1 r_5).2.1) : Nat) : Int)) ((hb.xwo r_5 (by omega) (by omega)).1) ?_
      refine i_aload_n (j := 2) (q := 45) C rfl rfl dX7_alike_44 rfl ?_
      refine i_get (i := 0) (j := 0) (f := 0) (q := 48) C rfl rfl rfl hi_X7_alike_X7 (by decide) lk_X7_alike_10 rfl dX7_alike_45 rfl ?_
      refine i_get (i := 1) (j := 0) (f := 1) (q := 51) C rfl rfl rfl hi_X7_alike_X0 (by decide) lk_X7_alike_92 rfl dX7_alike_48 rfl ?_
      refine i_iload (j := 0) (q := 53) C rfl dX7_alike_51 rfl ?_
      refine i_lald (i := 1) (j := 2) (q := 54) C rfl rfl (by omega) dX7_alike_53 rfl ?_
      refine V.topJ (b := ((pck ((atP o.1 r_14).2.1) : Nat) : Int)) ((hb.xwo r_14 (by omega) (by omega)).1) ?_
      refine i_callS (wr := [boW ax ab ap al ao (((pck t : Nat) : Int), ck, ba, no, fu), bkW ab (nu, wo, sc, me, us, la, ct, gv, kd, sl)]) (As := [vJ (((pck ((atP o.1 r_5).2.1) : Nat) : Int)), vJ (((pck ((atP o.1 r_14).2.1) : Nat) : Int))]) (st := []) (q := 57) C (c_X6_sameAtFirst K l ((atP o.1 r_5).2.1) ((atP o.1 r_14).2.1) ((hb.xwo r_5 (by omega) (by omega)).2.1) (by have := hb.xwo r_5 (by omega) (by omega); omega) ((hb.xwo r_14 g1b g2b).2.1) (by have := hb.xwo r_14 g1b g2b; omega)) gX7_alike_X6_sameAtFirst rfl hd_X6_sameAtFirst ⟨Nat.le_of_ble_eq_true rfl, Nat.le_of_ble_eq_true rfl⟩ ⟨rfl, rfl⟩ ⟨Nat.le_of_ble_eq_true rfl, Nat.le_of_ble_eq_true rfl⟩ (permBy [0, 1] (by decide) rfl rfl) rfl (Nat.le_of_ble_eq_true rfl) dX7_alike_54 rfl (fun v w hq => ?_)
      obtain ⟨rfl, rfl⟩ := hq
      show V X 0 0 57 [(4, vI r_14), (3, vI r_5), (0, vP (ax 0)), (1, vI x), (2, vI y)] [vI (((cp ((atP o.1 r_5).2.1) ((atP o.1 r_14).2.1) : Nat) : Int))] [boW ax ab ap al ao (((pck t : Nat) : Int), ck, ba, no, fu), bkW ab (nu, wo, sc, me, us, la, ct, gv, kd, sl)]
      refine i_iret C hR dX7_alike_57 ?_
      have hsp : (sp_alike x y (o, h, t, ck, tx, ba, no, fu)) = (((cp (atP o.1 r_5).2.1 (atP o.1 r_14).2.1 : Nat) : Int), (o, h, t, ck, tx, ba, no, fu)) := by
        simp only [sp_alike]
        rw [hfs]
        simp only
        rw [hfsb]
      exact ⟨ba, by rw [hsp], rfl, by rw [hsp]; exact hC.s hN⟩
    · skip
      have hfnb : fnd o y = none := by
        rcases hfb with h | h
        · exact h.2
        · omega
      refine i_aload_n (j := 2) (q := 31) C rfl rfl dX7_alike_30 rfl ?_
      refine i_callV (wr := [bkW ab (nu, wo, sc, me, us, la, ct, gv, kd, sl)]) (As := []) (st := []) (i := 0) (j := 0) (q := 34) C (c_X7_refuseBad K l (ab) (ax) (ap) (al) (ao) (((pck t : Nat) : Int)) (ck) (ba) (no) (fu) ) gX7_alike_X7_refuseBad rfl hd_X7_refuseBad ⟨Nat.le_of_ble_eq_true rfl, Nat.le_of_ble_eq_true rfl⟩ ⟨rfl, rfl⟩ ⟨Nat.le_of_ble_eq_true rfl, Nat.le_of_ble_eq_true rfl⟩ (permBy [0, 1] (by decide) rfl rfl) rfl rfl rfl rfl (Nat.le_of_ble_eq_true rfl) dX7_alike_31 rfl (fun v w hq => ?_)
      obtain ⟨rfl, rfl⟩ := hq
      show V X 0 0 34 [(4, vI r_14), (3, vI r_5), (0, vP (ax 0)), (1, vI x), (2, vI y)] [vI (-2)] [boW ax ab ap al ao (((pck t : Nat) : Int), ck, ba + 1, no, fu), bkW ab (nu, wo, sc, me, us, la, ct, gv, kd, sl)]
      refine i_iret C hR dX7_alike_34 ?_
      have hsp : (sp_alike x y (o, h, t, ck, tx, ba, no, fu)) = (-2, (o, h, t, ck, tx, ba + 1, no, fu)) := by
        simp only [sp_alike]
        rw [hfs]
        simp only
        rw [hfnb]
        rfl
      exact ⟨ba + 1, by rw [hsp], rfl, by rw [hsp]; exact hC.bad hN⟩

theorem lk_X7_write_33 : Cond.fieldLink RX7 33 (TX7 3).1 (TX7 3).2.1 (TX7 3).2.2.1 ∈ wsX7_write := List.mem_of_getElem? (i := 1) rfl
theorem hi_X7_write_X7 : ∀ w ∈ u_ws RX7 TX7 9, w ∈ wsX7_write := by decide +kernel
theorem hd_X3_append : yX3_append.cls = RX3 ∧ yX3_append.cls ≠ "java/lang/invoke/MethodHandle" ∧ yX3_append.cls ≠ "java/lang/invoke/VarHandle" ∧ (parseMethodDescriptor yX3_append.desc).map (fun d => d.parameters.length) = some 1 := by decide +kernel
theorem lk_X7_write_208 : Cond.fieldLink RX7 208 (TX3 1).1 (TX3 1).2.1 (TX3 1).2.2.1 ∈ wsX7_write := List.mem_of_getElem? (i := 2) rfl
theorem hi_X7_write_X3 : ∀ w ∈ u_ws RX3 TX3 9, w ∈ wsX7_write := by decide +kernel
set_option maxHeartbeats 400000 in
set_option maxRecDepth 100000 in
theorem c_X7_write (K : KT) (l : Launch) (ax : Nat → Nat) (ap : Nat → Nat) (al : Nat → Nat) (ao : Nat → Nat) (ck : Int) (ba : Int) (no : Int) (fu : Int) (t : List Int) (ab : Nat → Nat) (nu : Int → Int) (wo : Int → Int) (sc : Int → Int) (me : Int → Int) (us : Int → Int) (la : Int → Int) (ct : Int) (gv : Int) (kd : Int) (sl : Int) (ak : Int → Nat → Nat) (nx : Int) (pc : Int) (Bs : Int → Bk) (by_ : Int → Int) (ve : Int → Int) (ow : Int → Int) (fi : Int → Int) (se : Int → Int) (le : Int) (oc : Int) (pl : Int) (fa : Int) (so : Int → Int) (ra : Int → Int) (lc : Int) (o : Bo) (h : List Bo) (tx : List Int) (N : Int) (x : Int) (hC : okC N nu wo sc me us la ct gv kd sl Bs nx pc ((pck t : Nat) : Int) ck ba no fu by_ le (o, h, t, ck, tx, ba, no, fu)) (hN : N < 512) (hx : rI x) : Mt K l yX7_write wsX7_write ({ frames := 1, cells := 0, slots := 0, locals := 22 }) [vP (ax 0), vI x] [boW ax ab ap al ao (((pck t : Nat) : Int), ck, ba, no, fu), odW ao (by_, ve, ow, fi, se, le, oc, pl, fa)] 0 0 (fun v w => ∃ ba3 : Int, ∃ fu3 : Int, ∃ by_3 : Int → Int, ∃ le3 : Int, v = some (vI ((sp_write x (o, h, t, ck, tx, ba, no, fu)).1)) ∧ w = [boW ax ab ap al ao (((pck t : Nat) : Int), ck, ba3, no, fu3), odW ao (by_3, ve, ow, fi, se, le3, oc, pl, fa)] ∧ (okC (N + 1) nu wo sc me us la ct gv kd sl Bs nx pc ((pck t : Nat) : Int) ck ba3 no fu3 by_3 le3 (sp_write x (o, h, t, ck, tx, ba, no, fu)).2)) := by
  refine Mt.of (own := RX7) (cc := cX7_write) (maxL := 2) (ret := (some .int)) (lv0 := [(0, vP (ax 0)), (1, vI x)]) (by decide) rfl rfl (Nat.le_of_ble_eq_true rfl) rfl (fun X C hR hNm => ?_)
  have hb := hC.hb
  have hct := hb.xct
  have hgv := hb.xgv
  have hkd := hb.xkd
  have hsl := hb.xsl
  obtain ⟨ht, hlt⟩ := hC.ht
  have hNN := hC.hN
  have hhx := hC.hh.1
  have hhp := hC.hh.2.1
  have hhl := hC.hh.2.2.1
  have hck := hC.hck
  have hTx := hC.hx
  have hT0 := hTx.1
  have hxl : (tx.length : Int) = le := by rw [hTx.2.1, rg_len]; omega
  refine i_iload_n (j := 1) (q := 1) C rfl rfl dX7_write_0 rfl ?_
  refine i_iconst (q := 2) C dX7_write_1 rfl ?_
  refine i_bipush (q := 4) C (by decide) dX7_write_2 rfl ?_
  refine i_callS (wr := [boW ax ab ap al ao (((pck t : Nat) : Int), ck, ba, no, fu), odW ao (by_, ve, ow, fi, se, le, oc, pl, fa)]) (As := [vI x, vI 0, vI 127]) (st := []) (q := 7) C (c_X7_isWithin K l (x) (0) (127) (by first | assumption | omega) (by first | assumption | omega) (by first | assumption | omega)) gX7_write_X7_isWithin rfl hd_X7_isWithin ⟨Nat.le_of_ble_eq_true rfl, Nat.le_of_ble_eq_true rfl⟩ ⟨rfl, rfl⟩ ⟨Nat.le_of_ble_eq_true rfl, Nat.le_of_ble_eq_true rfl⟩ (permBy [0, 1] (by decide) rfl rfl) rfl (Nat.le_of_ble_eq_true rfl) dX7_write_4 rfl (fun v w hq => ?_)
  obtain ⟨rfl, rfl⟩ := hq
  show V X 0 0 7 [(0, vP (ax 0)), (1, vI x)] [vI (if 0 ≤ x ∧ x ≤ 127 then 1 else 0)] [boW ax ab ap al ao (((pck t : Nat) : Int), ck, ba, no, fu), odW ao (by_, ve, ow, fi, se, le, oc, pl, fa)]
  refine i_if_ne (tgt := 15) (q := 10) C (if01) dX7_write_7 (by decide) rfl (fun c_7 => ?_) (fun c_7 => ?_)
  · skip
    have h_7 := ifn0 c_7
    refine i_aload_n (j := 0) (q := 16) C rfl rfl dX7_write_15 rfl ?_
    refine i_get (i := 0) (j := 0) (f := 3) (q := 19) C rfl rfl rfl hi_X7_write_X7 (by decide) lk_X7_write_33 rfl dX7_write_16 rfl ?_
    refine i_iload_n (j := 1) (q := 20) C rfl rfl dX7_write_19 rfl ?_
    refine i_callV (wr := [boW ax ab ap al ao (((pck t : Nat) : Int), ck, ba, no, fu)]) (As := [vI x]) (st := []) (i := 0) (j := 0) (q := 23) C (c_X3_append K l (ao) (by_) (ve) (ow) (fi) (se) (le) (oc) (pl) (fa) (x) (by omega)) gX7_write_X3_append rfl hd_X3_append ⟨Nat.le_of_ble_eq_true rfl, Nat.le_of_ble_eq_true rfl⟩ ⟨rfl, rfl⟩ ⟨Nat.le_of_ble_eq_true rfl, Nat.le_of_ble_eq_true rfl⟩ (permBy [1, 0] (by decide) rfl rfl) rfl rfl rfl rfl (Nat.le_of_ble_eq_true rfl) dX7_write_20 rfl (fun v w hq => ?_)
    obtain ⟨rfl, rfl⟩ := hq
    show V X 0 0 23 [(0, vP (ax 0)), (1, vI x)] [vI (if le < 120 then 1 else 0)] [odW ao (if le < 120 then up by_ le x else by_, ve, ow, fi, se, if le < 120 then le + 1 else le, oc, pl, fa), boW ax ab ap al ao (((pck t : Nat) : Int), ck, ba, no, fu)]
    refine V.perm (cs' := [boW ax ab ap al ao (((pck t : Nat) : Int), ck, ba, no, fu), odW ao (if le < 120 then up by_ le x else by_, ve, ow, fi, se, if le < 120 then le + 1 else le, oc, pl, fa)]) (permBy [1, 0] (by decide) rfl rfl) ?_
    refine i_if_ne (tgt := 31) (q := 26) C (if01) dX7_write_23 (by decide) rfl (fun c_23 => ?_) (fun c_23 => ?_)
    · skip
      have h_23 := ifn0 c_23
      refine i_aload_n (j := 0) (q := 32) C rfl rfl dX7_write_31 rfl ?_
      refine i_get (i := 0) (j := 0) (f := 3) (q := 35) C rfl rfl rfl hi_X7_write_X7 (by decide) lk_X7_write_33 rfl dX7_write_32 rfl ?_
      refine i_get (i := 1) (j := 0) (f := 1) (q := 38) C rfl rfl rfl hi_X7_write_X3 (by decide) lk_X7_write_208 rfl dX7_write_35 rfl ?_
      refine i_iret C hR dX7_write_38 ?_
      have e1 : (if le < 120 then up by_ le x else by_) = up by_ le x := if_pos h_23
      have e2 : (if le < 120 then le + 1 else le) = le + 1 := if_pos h_23
      rw [e1, e2]
      have hsp : (sp_write x (o, h, t, ck, tx, ba, no, fu)) = (le + 1, (o, h, t, ck, tx ++ [x], ba, no, fu)) := by
        simp only [sp_write]
        rw [if_neg (fun z => z h_7), if_neg (by omega), hxl]
      exact ⟨ba, fu, up by_ le x, le + 1, by rw [hsp], rfl, by rw [hsp]; exact hC.upd hN (hC.hbG hN) (hC.hhG hN) ⟨ht, hlt⟩ hck ⟨by omega, by rw [hTx.2.1, rg_push _ (by omega)], fun k g0 g1 => by
        by_cases e : k = le
        · subst e; rw [up_s]; exact h_7
        · rw [up_n _ _ e]; exact hTx.2.2 k g0 (by omega)⟩⟩
    · skip
      have h_23 := if0 c_23
      refine i_aload_n (j := 0) (q := 27) C rfl rfl dX7_write_26 rfl ?_
      refine i_callV (wr := [odW ao (if le < 120 then up by_ le x else by_, ve, ow, fi, se, if le < 120 then le + 1 else le, oc, pl, fa)]) (As := []) (st := []) (i := 0) (j := 0) (q := 30) C (c_X7_refuseFull K l (ab) (ax) (ap) (al) (ao) (((pck t : Nat) : Int)) (ck) (ba) (no) (fu) ) gX7_write_X7_refuseFull rfl hd_X7_refuseFull ⟨Nat.le_of_ble_eq_true rfl, Nat.le_of_ble_eq_true rfl⟩ ⟨rfl, rfl⟩ ⟨Nat.le_of_ble_eq_true rfl, Nat.le_of_ble_eq_true rfl⟩ (permBy [0, 1] (by decide) rfl rfl) rfl rfl rfl rfl (Nat.le_of_ble_eq_true rfl) dX7_write_27 rfl (fun v w hq => ?_)
      obtain ⟨rfl, rfl⟩ := hq
      show V X 0 0 30 [(0, vP (ax 0)), (1, vI x)] [vI (-4)] [boW ax ab ap al ao (((pck t : Nat) : Int), ck, ba, no, fu + 1), odW ao (if le < 120 then up by_ le x else by_, ve, ow, fi, se, if le < 120 then le + 1 else le, oc, pl, fa)]
      refine i_iret C hR dX7_write_30 ?_
      have e1 : (if le < 120 then up by_ le x else by_) = by_ := if_neg h_23
      have e2 : (if le < 120 then le + 1 else le) = le := if_neg h_23
      rw [e1, e2]
      have hsp : (sp_write x (o, h, t, ck, tx, ba, no, fu)) = (-4, (o, h, t, ck, tx, ba, no, fu + 1)) := by
        simp only [sp_write]
        rw [if_neg (fun z => z h_7), if_pos (by omega)]
        rfl
      exact ⟨ba, fu + 1, by_, le, by rw [hsp], rfl, by rw [hsp]; exact hC.full hN⟩
  · skip
    have h_7 := if0 c_7
    refine i_aload_n (j := 0) (q := 11) C rfl rfl dX7_write_10 rfl ?_
    refine i_callV (wr := [odW ao (by_, ve, ow, fi, se, le, oc, pl, fa)]) (As := []) (st := []) (i := 0) (j := 0) (q := 14) C (c_X7_refuseBad K l (ab) (ax) (ap) (al) (ao) (((pck t : Nat) : Int)) (ck) (ba) (no) (fu) ) gX7_write_X7_refuseBad rfl hd_X7_refuseBad ⟨Nat.le_of_ble_eq_true rfl, Nat.le_of_ble_eq_true rfl⟩ ⟨rfl, rfl⟩ ⟨Nat.le_of_ble_eq_true rfl, Nat.le_of_ble_eq_true rfl⟩ (permBy [0, 1] (by decide) rfl rfl) rfl rfl rfl rfl (Nat.le_of_ble_eq_true rfl) dX7_write_11 rfl (fun v w hq => ?_)
    obtain ⟨rfl, rfl⟩ := hq
    show V X 0 0 14 [(0, vP (ax 0)), (1, vI x)] [vI (-2)] [boW ax ab ap al ao (((pck t : Nat) : Int), ck, ba + 1, no, fu), odW ao (by_, ve, ow, fi, se, le, oc, pl, fa)]
    refine i_iret C hR dX7_write_14 ?_
    have hsp : (sp_write x (o, h, t, ck, tx, ba, no, fu)) = (-2, (o, h, t, ck, tx, ba + 1, no, fu)) := by
      simp only [sp_write]
      rw [if_pos h_7]
      rfl
    exact ⟨ba + 1, fu, by_, le, by rw [hsp], rfl, by rw [hsp]; exact hC.bad hN⟩

theorem lk_X7_erase_33 : Cond.fieldLink RX7 33 (TX7 3).1 (TX7 3).2.1 (TX7 3).2.2.1 ∈ wsX7_erase := List.mem_of_getElem? (i := 1) rfl
theorem hi_X7_erase_X7 : ∀ w ∈ u_ws RX7 TX7 9, w ∈ wsX7_erase := by decide +kernel
theorem lk_X7_erase_208 : Cond.fieldLink RX7 208 (TX3 1).1 (TX3 1).2.1 (TX3 1).2.2.1 ∈ wsX7_erase := List.mem_of_getElem? (i := 2) rfl
theorem hi_X7_erase_X3 : ∀ w ∈ u_ws RX3 TX3 9, w ∈ wsX7_erase := by decide +kernel
set_option maxHeartbeats 400000 in
set_option maxRecDepth 100000 in
theorem c_X7_erase (K : KT) (l : Launch) (ax : Nat → Nat) (ap : Nat → Nat) (al : Nat → Nat) (ao : Nat → Nat) (ck : Int) (ba : Int) (no : Int) (fu : Int) (t : List Int) (ab : Nat → Nat) (nu : Int → Int) (wo : Int → Int) (sc : Int → Int) (me : Int → Int) (us : Int → Int) (la : Int → Int) (ct : Int) (gv : Int) (kd : Int) (sl : Int) (ak : Int → Nat → Nat) (nx : Int) (pc : Int) (Bs : Int → Bk) (by_ : Int → Int) (ve : Int → Int) (ow : Int → Int) (fi : Int → Int) (se : Int → Int) (le : Int) (oc : Int) (pl : Int) (fa : Int) (so : Int → Int) (ra : Int → Int) (lc : Int) (o : Bo) (h : List Bo) (tx : List Int) (N : Int) (hC : okC N nu wo sc me us la ct gv kd sl Bs nx pc ((pck t : Nat) : Int) ck ba no fu by_ le (o, h, t, ck, tx, ba, no, fu)) (hN : N < 512) : Mt K l yX7_erase wsX7_erase ({ frames := 1, cells := 0, slots := 0, locals := 20 }) [vP (ax 0)] [boW ax ab ap al ao (((pck t : Nat) : Int), ck, ba, no, fu), odW ao (by_, ve, ow, fi, se, le, oc, pl, fa)] 0 0 (fun v w => ∃ le3 : Int, v = some (vI ((sp_erase (o, h, t, ck, tx, ba, no, fu)).1)) ∧ w = [boW ax ab ap al ao (((pck t : Nat) : Int), ck, ba, no, fu), odW ao (by_, ve, ow, fi, se, le3, oc, pl, fa)] ∧ (okC (N + 1) nu wo sc me us la ct gv kd sl Bs nx pc ((pck t : Nat) : Int) ck ba no fu by_ le3 (sp_erase (o, h, t, ck, tx, ba, no, fu)).2)) := by
  refine Mt.of (own := RX7) (cc := cX7_erase) (maxL := 2) (ret := (some .int)) (lv0 := [(0, vP (ax 0))]) (by decide) rfl rfl (Nat.le_of_ble_eq_true rfl) rfl (fun X C hR hNm => ?_)
  have hb := hC.hb
  have hct := hb.xct
  have hgv := hb.xgv
  have hkd := hb.xkd
  have hsl := hb.xsl
  obtain ⟨ht, hlt⟩ := hC.ht
  have hNN := hC.hN
  have hhx := hC.hh.1
  have hhp := hC.hh.2.1
  have hhl := hC.hh.2.2.1
  have hck := hC.hck
  have hTx := hC.hx
  have hT0 := hTx.1
  have hxl : (tx.length : Int) = le := by rw [hTx.2.1, rg_len]; omega
  refine i_aload_n (j := 0) (q := 1) C rfl rfl dX7_erase_0 rfl ?_
  refine i_get (i := 0) (j := 0) (f := 3) (q := 4) C rfl rfl rfl hi_X7_erase_X7 (by decide) lk_X7_erase_33 rfl dX7_erase_1 rfl ?_
  refine i_get (i := 1) (j := 0) (f := 1) (q := 7) C rfl rfl rfl hi_X7_erase_X3 (by decide) lk_X7_erase_208 rfl dX7_erase_4 rfl ?_
  refine i_istore_n (q := 8) (lv' := [(1, vI le), (0, vP (ax 0))]) C rfl (by decide) rfl dX7_erase_7 rfl ?_
  refine i_aload_n (j := 1) (q := 9) C rfl rfl dX7_erase_8 rfl ?_
  refine i_get (i := 0) (j := 0) (f := 3) (q := 12) C rfl rfl rfl hi_X7_erase_X7 (by decide) lk_X7_erase_33 rfl dX7_erase_9 rfl ?_
  refine i_callV (wr := [boW ax ab ap al ao (((pck t : Nat) : Int), ck, ba, no, fu)]) (As := []) (st := []) (i := 0) (j := 0) (q := 15) C (c_X3_makeEmpty K l (ao) (by_) (ve) (ow) (fi) (se) (le) (oc) (pl) (fa) ) gX7_erase_X3_makeEmpty rfl hd_X3_makeEmpty ⟨Nat.le_of_ble_eq_true rfl, Nat.le_of_ble_eq_true rfl⟩ ⟨rfl, rfl⟩ ⟨Nat.le_of_ble_eq_true rfl, Nat.le_of_ble_eq_true rfl⟩ (permBy [1, 0] (by decide) rfl rfl) rfl rfl rfl rfl (Nat.le_of_ble_eq_true rfl) dX7_erase_12 rfl (fun v w hq => ?_)
  obtain ⟨rfl, rfl⟩ := hq
  show V X 0 0 15 [(1, vI le), (0, vP (ax 0))] [] [odW ao (by_, ve, ow, fi, se, 0, oc, pl, fa), boW ax ab ap al ao (((pck t : Nat) : Int), ck, ba, no, fu)]
  refine V.perm (cs' := [boW ax ab ap al ao (((pck t : Nat) : Int), ck, ba, no, fu), odW ao (by_, ve, ow, fi, se, 0, oc, pl, fa)]) (permBy [1, 0] (by decide) rfl rfl) ?_
  refine i_iload_n (j := 0) (q := 16) C rfl rfl dX7_erase_15 rfl ?_
  refine i_iret C hR dX7_erase_16 ?_
  have hsp : (sp_erase (o, h, t, ck, tx, ba, no, fu)) = (le, (o, h, t, ck, [], ba, no, fu)) := by
    simp only [sp_erase]
    rw [hxl]
  exact ⟨0, by rw [hsp], rfl, by rw [hsp]; exact hC.upd hN (hC.hbG hN) (hC.hhG hN) ⟨ht, hlt⟩ hck ⟨by omega, by rw [rg_0 _ (by omega)], fun k g0 g1 => by omega⟩⟩

theorem hd_X7_howMany : yX7_howMany.cls = RX7 ∧ yX7_howMany.cls ≠ "java/lang/invoke/MethodHandle" ∧ yX7_howMany.cls ≠ "java/lang/invoke/VarHandle" ∧ (parseMethodDescriptor yX7_howMany.desc).map (fun d => d.parameters.length) = some 1 := by decide +kernel
set_option maxHeartbeats 400000 in
set_option maxRecDepth 100000 in
theorem c_X7_told (K : KT) (l : Launch) (ax : Nat → Nat) (ap : Nat → Nat) (al : Nat → Nat) (ao : Nat → Nat) (ck : Int) (ba : Int) (no : Int) (fu : Int) (t : List Int) (ab : Nat → Nat) (nu : Int → Int) (wo : Int → Int) (sc : Int → Int) (me : Int → Int) (us : Int → Int) (la : Int → Int) (ct : Int) (gv : Int) (kd : Int) (sl : Int) (ak : Int → Nat → Nat) (nx : Int) (pc : Int) (Bs : Int → Bk) (by_ : Int → Int) (ve : Int → Int) (ow : Int → Int) (fi : Int → Int) (se : Int → Int) (le : Int) (oc : Int) (pl : Int) (fa : Int) (so : Int → Int) (ra : Int → Int) (lc : Int) (o : Bo) (h : List Bo) (tx : List Int) (N : Int) (x : Int) (hC : okC N nu wo sc me us la ct gv kd sl Bs nx pc ((pck t : Nat) : Int) ck ba no fu by_ le (o, h, t, ck, tx, ba, no, fu)) (hN : N < 512) (hx : rI x) : Mt K l yX7_told wsX7_told ({ frames := 4, cells := 0, slots := 0, locals := 85 }) [vP (ax 0), vI x] [boW ax ab ap al ao (((pck t : Nat) : Int), ck, ba, no, fu), bkW ab (nu, wo, sc, me, us, la, ct, gv, kd, sl), paW ap ak (nx, pc), odW ao (by_, ve, ow, fi, se, le, oc, pl, fa)] 0 0 (fun v w => ∃ ba3 : Int, v = some (vI ((sp_told x (o, h, t, ck, tx, ba, no, fu)).1)) ∧ w = [boW ax ab ap al ao (((pck t : Nat) : Int), ck, ba3, no, fu), bkW ab (nu, wo, sc, me, us, la, ct, gv, kd, sl), paW ap ak (nx, pc), odW ao (by_, ve, ow, fi, se, le, oc, pl, fa)] ∧ (okC (N + 1) nu wo sc me us la ct gv kd sl Bs nx pc ((pck t : Nat) : Int) ck ba3 no fu by_ le (sp_told x (o, h, t, ck, tx, ba, no, fu)).2)) := by
  refine Mt.of (own := RX7) (cc := cX7_told) (maxL := 2) (ret := (some .int)) (lv0 := [(0, vP (ax 0)), (1, vI x)]) (by decide) rfl rfl (Nat.le_of_ble_eq_true rfl) rfl (fun X C hR hNm => ?_)
  have hb := hC.hb
  have hct := hb.xct
  have hgv := hb.xgv
  have hkd := hb.xkd
  have hsl := hb.xsl
  obtain ⟨ht, hlt⟩ := hC.ht
  have hNN := hC.hN
  have hhx := hC.hh.1
  have hhp := hC.hh.2.1
  have hhl := hC.hh.2.2.1
  have hck := hC.hck
  have hTx := hC.hx
  refine i_iload_n (j := 1) (q := 1) C rfl rfl dX7_told_0 rfl ?_
  refine i_iconst (q := 2) C dX7_told_1 rfl ?_
  refine i_bipush (q := 4) C (by decide) dX7_told_2 rfl ?_
  refine i_callS (wr := [boW ax ab ap al ao (((pck t : Nat) : Int), ck, ba, no, fu), bkW ab (nu, wo, sc, me, us, la, ct, gv, kd, sl), paW ap ak (nx, pc), odW ao (by_, ve, ow, fi, se, le, oc, pl, fa)]) (As := [vI x, vI 0, vI 10]) (st := []) (q := 7) C (c_X7_isWithin K l (x) (0) (10) (by first | assumption | omega) (by first | assumption | omega) (by first | assumption | omega)) gX7_told_X7_isWithin rfl hd_X7_isWithin ⟨Nat.le_of_ble_eq_true rfl, Nat.le_of_ble_eq_true rfl⟩ ⟨rfl, rfl⟩ ⟨Nat.le_of_ble_eq_true rfl, Nat.le_of_ble_eq_true rfl⟩ (permBy [0, 1, 2, 3] (by decide) rfl rfl) rfl (Nat.le_of_ble_eq_true rfl) dX7_told_4 rfl (fun v w hq => ?_)
  obtain ⟨rfl, rfl⟩ := hq
  show V X 0 0 7 [(0, vP (ax 0)), (1, vI x)] [vI (if 0 ≤ x ∧ x ≤ 10 then 1 else 0)] [boW ax ab ap al ao (((pck t : Nat) : Int), ck, ba, no, fu), bkW ab (nu, wo, sc, me, us, la, ct, gv, kd, sl), paW ap ak (nx, pc), odW ao (by_, ve, ow, fi, se, le, oc, pl, fa)]
  refine i_if_eq (tgt := 18) (q := 10) C (if01) dX7_told_7 (by decide) rfl (fun c_7 => ?_) (fun c_7 => ?_)
  · skip
    have h_7 := if0 c_7
    refine i_aload_n (j := 0) (q := 19) C rfl rfl dX7_told_18 rfl ?_
    refine i_callV (wr := [bkW ab (nu, wo, sc, me, us, la, ct, gv, kd, sl), paW ap ak (nx, pc), odW ao (by_, ve, ow, fi, se, le, oc, pl, fa)]) (As := []) (st := []) (i := 0) (j := 0) (q := 22) C (c_X7_refuseBad K l (ab) (ax) (ap) (al) (ao) (((pck t : Nat) : Int)) (ck) (ba) (no) (fu) ) gX7_told_X7_refuseBad rfl hd_X7_refuseBad ⟨Nat.le_of_ble_eq_true rfl, Nat.le_of_ble_eq_true rfl⟩ ⟨rfl, rfl⟩ ⟨Nat.le_of_ble_eq_true rfl, Nat.le_of_ble_eq_true rfl⟩ (permBy [0, 1, 2, 3] (by decide) rfl rfl) rfl rfl rfl rfl (Nat.le_of_ble_eq_true rfl) dX7_told_19 rfl (fun v w hq => ?_)
    obtain ⟨rfl, rfl⟩ := hq
    show V X 0 0 22 [(0, vP (ax 0)), (1, vI x)] [vI (-2)] [boW ax ab ap al ao (((pck t : Nat) : Int), ck, ba + 1, no, fu), bkW ab (nu, wo, sc, me, us, la, ct, gv, kd, sl), paW ap ak (nx, pc), odW ao (by_, ve, ow, fi, se, le, oc, pl, fa)]
    refine i_iret C hR dX7_told_22 ?_
    have hsp : (sp_told x (o, h, t, ck, tx, ba, no, fu)) = (-2, (o, h, t, ck, tx, ba + 1, no, fu)) := by
      simp only [sp_told]
      rw [if_neg h_7]
      rfl
    exact ⟨ba + 1, by rw [hsp], rfl, by rw [hsp]; exact hC.bad hN⟩
  · skip
    have h_7 := ifn0 c_7
    refine i_aload_n (j := 0) (q := 11) C rfl rfl dX7_told_10 rfl ?_
    refine i_iload_n (j := 1) (q := 12) C rfl rfl dX7_told_11 rfl ?_
    refine i_callV (wr := []) (As := [vI x]) (st := []) (i := 0) (j := 0) (q := 15) C (c_X7_howMany K l (ax) (ap) (al) (ao) (ck) (ba) (no) (fu) (t) (ab) (nu) (wo) (sc) (me) (us) (la) (ct) (gv) (kd) (sl) (ak) (nx) (pc) (Bs) (by_) (ve) (ow) (fi) (se) (le) (oc) (pl) (fa) (so) (ra) (lc) (o) (h) (tx) (N) (x) (by first | assumption | omega) (by first | assumption | omega)) gX7_told_X7_howMany rfl hd_X7_howMany ⟨Nat.le_of_ble_eq_true rfl, Nat.le_of_ble_eq_true rfl⟩ ⟨rfl, rfl⟩ ⟨Nat.le_of_ble_eq_true rfl, Nat.le_of_ble_eq_true rfl⟩ (permBy [0, 1, 2, 3] (by decide) rfl rfl) rfl rfl rfl rfl (Nat.le_of_ble_eq_true rfl) dX7_told_12 rfl (fun v w hq => ?_)
    obtain ⟨rfl, rfl⟩ := hq
    show V X 0 0 15 [(0, vP (ax 0)), (1, vI x)] [vI (tld x (o, h, t, ck, tx, ba, no, fu))] [boW ax ab ap al ao (((pck t : Nat) : Int), ck, ba, no, fu), bkW ab (nu, wo, sc, me, us, la, ct, gv, kd, sl), paW ap ak (nx, pc), odW ao (by_, ve, ow, fi, se, le, oc, pl, fa)]
    refine i_goto (q := 22) C dX7_told_15 (by decide) ?_
    refine i_iret C hR dX7_told_22 ?_
    have hsp : (sp_told x (o, h, t, ck, tx, ba, no, fu)) = (tld x (o, h, t, ck, tx, ba, no, fu), (o, h, t, ck, tx, ba, no, fu)) := by
      simp only [sp_told]
      rw [if_pos h_7]
    exact ⟨ba, by rw [hsp], rfl, by rw [hsp]; exact hC.s hN⟩

theorem lk_X7_digest_10 : Cond.fieldLink RX7 10 (TX7 0).1 (TX7 0).2.1 (TX7 0).2.2.1 ∈ wsX7_digest := List.mem_of_getElem? (i := 3) rfl
theorem hi_X7_digest_X7 : ∀ w ∈ u_ws RX7 TX7 9, w ∈ wsX7_digest := by decide +kernel
theorem lk_X7_digest_139 : Cond.fieldLink RX7 139 (TX0 6).1 (TX0 6).2.1 (TX0 6).2.2.1 ∈ wsX7_digest := List.mem_of_getElem? (i := 4) rfl
theorem hi_X7_digest_X0 : ∀ w ∈ u_ws RX0 TX0 10, w ∈ wsX7_digest := by decide +kernel
theorem lk_X7_digest_37 : Cond.fieldLink RX7 37 (TX7 4).1 (TX7 4).2.1 (TX7 4).2.2.1 ∈ wsX7_digest := List.mem_of_getElem? (i := 7) rfl
theorem hd_X7_mixLetters : yX7_mixLetters.cls ≠ "java/lang/invoke/MethodHandle" ∧ yX7_mixLetters.cls ≠ "java/lang/invoke/VarHandle" ∧ (parseMethodDescriptor yX7_mixLetters.desc).map (fun d => d.parameters.length) = some 2 := by decide +kernel
theorem lk_X7_digest_197 : Cond.fieldLink RX7 197 (TX0 0).1 (TX0 0).2.1 (TX0 0).2.2.1 ∈ wsX7_digest := List.mem_of_getElem? (i := 5) rfl
theorem lk_X7_digest_92 : Cond.fieldLink RX7 92 (TX0 1).1 (TX0 1).2.1 (TX0 1).2.2.1 ∈ wsX7_digest := List.mem_of_getElem? (i := 6) rfl
set_option maxHeartbeats 400000 in
set_option maxRecDepth 100000 in
theorem c_X7_digest (K : KT) (l : Launch) (ax : Nat → Nat) (ap : Nat → Nat) (al : Nat → Nat) (ao : Nat → Nat) (ck : Int) (ba : Int) (no : Int) (fu : Int) (t : List Int) (ab : Nat → Nat) (nu : Int → Int) (wo : Int → Int) (sc : Int → Int) (me : Int → Int) (us : Int → Int) (la : Int → Int) (ct : Int) (gv : Int) (kd : Int) (sl : Int) (ak : Int → Nat → Nat) (nx : Int) (pc : Int) (Bs : Int → Bk) (by_ : Int → Int) (ve : Int → Int) (ow : Int → Int) (fi : Int → Int) (se : Int → Int) (le : Int) (oc : Int) (pl : Int) (fa : Int) (so : Int → Int) (ra : Int → Int) (lc : Int) (o : Bo) (h : List Bo) (tx : List Int) (N : Int) (hC : okC N nu wo sc me us la ct gv kd sl Bs nx pc ((pck t : Nat) : Int) ck ba no fu by_ le (o, h, t, ck, tx, ba, no, fu)) : Mt K l yX7_digest wsX7_digest ({ frames := 4, cells := 0, slots := 0, locals := 91 }) [vP (ax 0)] [boW ax ab ap al ao (((pck t : Nat) : Int), ck, ba, no, fu), bkW ab (nu, wo, sc, me, us, la, ct, gv, kd, sl), paW ap ak (nx, pc), odW ao (by_, ve, ow, fi, se, le, oc, pl, fa)] 0 0 (fun v w => v = some (vJ (dgs (o, h, t, ck, tx, ba, no, fu))) ∧ w = [boW ax ab ap al ao (((pck t : Nat) : Int), ck, ba, no, fu), bkW ab (nu, wo, sc, me, us, la, ct, gv, kd, sl), paW ap ak (nx, pc), odW ao (by_, ve, ow, fi, se, le, oc, pl, fa)]) := by
  refine Mt.of (own := RX7) (cc := cX7_digest) (maxL := 5) (ret := (some .long)) (lv0 := [(0, vP (ax 0))]) (by decide) rfl rfl (Nat.le_of_ble_eq_true rfl) rfl (fun X C hR hNm => ?_)
  have hb := hC.hb
  have hct := hb.xct
  have hgv := hb.xgv
  have hkd := hb.xkd
  have hsl := hb.xsl
  obtain ⟨ht, hlt⟩ := hC.ht
  have hNN := hC.hN
  have hhx := hC.hh.1
  have hhp := hC.hh.2.1
  have hhl := hC.hh.2.2.1
  have hck := hC.hck
  have hTx := hC.hx
  have hrf := hC.hrf
  have hT0 := hTx.1
  have hxl : (tx.length : Int) = le := by rw [hTx.2.1, rg_len]; omega
  refine i_ldc2 (z := 2003) (q := 3) C (List.mem_of_getElem? (i := 1) rfl) dX7_digest_0 rfl ?_
  refine i_lstore_n (q := 4) (lv' := [(1, vJ 2003), (0, vP (ax 0))]) C rfl (by decide) rfl dX7_digest_3 rfl ?_
  refine i_iconst (q := 5) C dX7_digest_4 rfl ?_
  refine i_istore_n (q := 6) (lv' := [(3, vI 0), (1, vJ 2003), (0, vP (ax 0))]) C rfl (by decide) rfl dX7_digest_5 rfl ?_
  have loop_6 : ∀ (fuel : Nat) (k : Int) (h1 : Int), ((11 - k).toNat) < fuel → (0 ≤ k ∧ k ≤ 11) → (h1 = dgT (o, h, t, ck, tx, ba, no, fu) k.toNat) → V X 0 0 6 [(0, vP (ax 0)), (1, vJ h1), (3, vI k)] [] [boW ax ab ap al ao (((pck t : Nat) : Int), ck, ba, no, fu), bkW ab (nu, wo, sc, me, us, la, ct, gv, kd, sl), paW ap ak (nx, pc), odW ao (by_, ve, ow, fi, se, le, oc, pl, fa)] := by
    intro fuel
    induction fuel with
    | zero => intro k h1 hz; exact absurd hz (Nat.not_lt_zero _)
    | succ fuel ih_6 =>
      intro k h1 hfu_6 hk hv1
      refine i_iload_n (j := 2) (q := 7) C rfl rfl dX7_digest_6 rfl ?_
      refine i_bipush (q := 9) C (by decide) dX7_digest_7 rfl ?_
      refine i_icmp_gt (tgt := 31) (q := 12) C (by omega) (by omega) dX7_digest_9 (by decide) rfl (fun c_9 => ?_) (fun c_9 => ?_)
      · skip
        refine i_iconst (q := 32) C dX7_digest_31 rfl ?_
        refine i_istore_n (q := 33) (lv' := [(3, vI 0), (0, vP (ax 0)), (1, vJ h1)]) C rfl (by decide) rfl dX7_digest_32 rfl ?_
        have loop_33 : ∀ (fuel : Nat) (i : Int) (h2 : Int), ((ct - i).toNat) < fuel → (0 ≤ i ∧ i ≤ ct) → (h2 = (o.1.take i.toNat).foldl dgP (dgT (o, h, t, ck, tx, ba, no, fu) 11)) → V X 0 0 33 [(0, vP (ax 0)), (1, vJ h2), (3, vI i)] [] [boW ax ab ap al ao (((pck t : Nat) : Int), ck, ba, no, fu), bkW ab (nu, wo, sc, me, us, la, ct, gv, kd, sl), paW ap ak (nx, pc), odW ao (by_, ve, ow, fi, se, le, oc, pl, fa)] := by
          intro fuel
          induction fuel with
          | zero => intro i h2 hz; exact absurd hz (Nat.not_lt_zero _)
          | succ fuel ih_33 =>
            intro i h2 hfu_33 hi hv2
            refine i_iload_n (j := 2) (q := 34) C rfl rfl dX7_digest_33 rfl ?_
            refine i_aload_n (j := 0) (q := 35) C rfl rfl dX7_digest_34 rfl ?_
            refine i_get (i := 0) (j := 0) (f := 0) (q := 38) C rfl rfl rfl hi_X7_digest_X7 (by decide) lk_X7_digest_10 rfl dX7_digest_35 rfl ?_
            refine i_get (i := 1) (j := 0) (f := 6) (q := 41) C rfl rfl rfl hi_X7_digest_X0 (by decide) lk_X7_digest_139 rfl dX7_digest_38 rfl ?_
            refine i_icmp_ge (tgt := 114) (q := 44) C (by omega) (by omega) dX7_digest_41 (by decide) rfl (fun c_41 => ?_) (fun c_41 => ?_)
            · skip
              refine i_lload_n (j := 1) (q := 115) C rfl rfl dX7_digest_114 rfl ?_
              refine i_aload_n (j := 0) (q := 116) C rfl rfl dX7_digest_115 rfl ?_
              refine i_get (i := 0) (j := 0) (f := 4) (q := 119) C rfl rfl rfl hi_X7_digest_X7 (by decide) lk_X7_digest_37 rfl dX7_digest_116 rfl ?_
              refine i_callS (wr := [boW ax ab ap al ao (((pck t : Nat) : Int), ck, ba, no, fu), bkW ab (nu, wo, sc, me, us, la, ct, gv, kd, sl), paW ap ak (nx, pc), odW ao (by_, ve, ow, fi, se, le, oc, pl, fa)]) (As := [vJ h2, vJ (((pck t : Nat) : Int))]) (st := []) (q := 122) C (c_X7_mixLetters K l (h2) (t) (by first | assumption | omega) (by omega)) gX7_digest_X7_mixLetters rfl hd_X7_mixLetters ⟨Nat.le_of_ble_eq_true rfl, Nat.le_of_ble_eq_true rfl⟩ ⟨rfl, rfl⟩ ⟨Nat.le_of_ble_eq_true rfl, Nat.le_of_ble_eq_true rfl⟩ (permBy [0, 1, 2, 3] (by decide) rfl rfl) rfl (Nat.le_of_ble_eq_true rfl) dX7_digest_119 rfl (fun v w hq => ?_)
              obtain ⟨rfl, rfl⟩ := hq
              show V X 0 0 122 [(0, vP (ax 0)), (1, vJ h2), (3, vI i)] [vJ (t.foldl mx h2)] [boW ax ab ap al ao (((pck t : Nat) : Int), ck, ba, no, fu), bkW ab (nu, wo, sc, me, us, la, ct, gv, kd, sl), paW ap ak (nx, pc), odW ao (by_, ve, ow, fi, se, le, oc, pl, fa)]
              refine i_lret C hR dX7_digest_122 ?_
              have hall : o.1.take i.toNat = o.1 := tk_all (by omega)
              rw [hall] at hv2
              exact ⟨by rw [hv2]; rfl, rfl⟩
            · skip
              refine i_ldc2 (z := 31) (q := 47) C (List.mem_of_getElem? (i := 2) rfl) dX7_digest_44 rfl ?_
              refine i_lload_n (j := 1) (q := 48) C rfl rfl dX7_digest_47 rfl ?_
              refine i_lmul (q := 49) C dX7_digest_48 rfl ?_
              refine i_aload_n (j := 0) (q := 50) C rfl rfl dX7_digest_49 rfl ?_
              refine i_get (i := 0) (j := 0) (f := 0) (q := 53) C rfl rfl rfl hi_X7_digest_X7 (by decide) lk_X7_digest_10 rfl dX7_digest_50 rfl ?_
              refine i_get (i := 1) (j := 0) (f := 0) (q := 56) C rfl rfl rfl hi_X7_digest_X0 (by decide) lk_X7_digest_197 rfl dX7_digest_53 rfl ?_
              refine i_iload_n (j := 2) (q := 57) C rfl rfl dX7_digest_56 rfl ?_
              refine i_iald (i := 1) (j := 1) (q := 58) C rfl rfl (by omega) dX7_digest_57 rfl ?_
              have ld_57 := hb.xnu i (by omega) (by omega)
              refine i_i2l (q := 59) C (by omega) dX7_digest_58 rfl ?_
              refine i_ladd (q := 60) C dX7_digest_59 rfl ?_
              refine i_lstore_n (q := 61) (lv' := [(1, vJ ((31 * h2) + (nu i))), (0, vP (ax 0)), (3, vI i)]) C rfl (by decide) rfl dX7_digest_60 rfl ?_
              refine i_iconst (q := 62) C dX7_digest_61 rfl ?_
              refine i_istore (q := 64) (lv' := [(4, vI 0), (1, vJ ((31 * h2) + (nu i))), (0, vP (ax 0)), (3, vI i)]) C (by decide) rfl dX7_digest_62 rfl ?_
              have loop_64 : ∀ (fuel : Nat) (j : Int) (h3 : Int), ((5 - j).toNat) < fuel → (0 ≤ j ∧ j ≤ 5) → (h3 = dgJ (atP o.1 i) (mx ((o.1.take i.toNat).foldl dgP (dgT (o, h, t, ck, tx, ba, no, fu) 11)) (atP o.1 i).1) j.toNat) → V X 0 0 64 [(0, vP (ax 0)), (1, vJ h3), (3, vI i), (4, vI j)] [] [boW ax ab ap al ao (((pck t : Nat) : Int), ck, ba, no, fu), bkW ab (nu, wo, sc, me, us, la, ct, gv, kd, sl), paW ap ak (nx, pc), odW ao (by_, ve, ow, fi, se, le, oc, pl, fa)] := by
                intro fuel
                induction fuel with
                | zero => intro j h3 hz; exact absurd hz (Nat.not_lt_zero _)
                | succ fuel ih_64 =>
                  intro j h3 hfu_64 hj hv3
                  refine i_iload (j := 3) (q := 66) C rfl dX7_digest_64 rfl ?_
                  refine i_iconst (q := 67) C dX7_digest_66 rfl ?_
                  refine i_icmp_gt (tgt := 94) (q := 70) C (by omega) (by omega) dX7_digest_67 (by decide) rfl (fun c_67 => ?_) (fun c_67 => ?_)
                  · skip
                    refine i_lload_n (j := 1) (q := 95) C rfl rfl dX7_digest_94 rfl ?_
                    refine i_aload_n (j := 0) (q := 96) C rfl rfl dX7_digest_95 rfl ?_
                    refine i_get (i := 0) (j := 0) (f := 0) (q := 99) C rfl rfl rfl hi_X7_digest_X7 (by decide) lk_X7_digest_10 rfl dX7_digest_96 rfl ?_
                    refine i_get (i := 1) (j := 0) (f := 1) (q := 102) C rfl rfl rfl hi_X7_digest_X0 (by decide) lk_X7_digest_92 rfl dX7_digest_99 rfl ?_
                    refine i_iload_n (j := 2) (q := 103) C rfl rfl dX7_digest_102 rfl ?_
                    refine i_lald (i := 1) (j := 2) (q := 104) C rfl rfl (by omega) dX7_digest_103 rfl ?_
                    refine V.topJ (b := ((pck ((atP o.1 i).2.1) : Nat) : Int)) ((hb.xwo i (by omega) (by omega)).1) ?_
                    refine i_callS (wr := [boW ax ab ap al ao (((pck t : Nat) : Int), ck, ba, no, fu), bkW ab (nu, wo, sc, me, us, la, ct, gv, kd, sl), paW ap ak (nx, pc), odW ao (by_, ve, ow, fi, se, le, oc, pl, fa)]) (As := [vJ h3, vJ (((pck ((atP o.1 i).2.1) : Nat) : Int))]) (st := []) (q := 107) C (c_X7_mixLetters K l (h3) ((atP o.1 i).2.1) ((hb.xwo i (by omega) (by omega)).2.1) (by have := hb.xwo i (by omega) (by omega); omega)) gX7_digest_X7_mixLetters rfl hd_X7_mixLetters ⟨Nat.le_of_ble_eq_true rfl, Nat.le_of_ble_eq_true rfl⟩ ⟨rfl, rfl⟩ ⟨Nat.le_of_ble_eq_true rfl, Nat.le_of_ble_eq_true rfl⟩ (permBy [0, 1, 2, 3] (by decide) rfl rfl) rfl (Nat.le_of_ble_eq_true rfl) dX7_digest_104 rfl (fun v w hq => ?_)
                    obtain ⟨rfl, rfl⟩ := hq
                    show V X 0 0 107 [(0, vP (ax 0)), (1, vJ h3), (3, vI i), (4, vI j)] [vJ (((atP o.1 i).2.1).foldl mx h3)] [boW ax ab ap al ao (((pck t : Nat) : Int), ck, ba, no, fu), bkW ab (nu, wo, sc, me, us, la, ct, gv, kd, sl), paW ap ak (nx, pc), odW ao (by_, ve, ow, fi, se, le, oc, pl, fa)]
                    refine i_lstore_n (q := 108) (lv' := [(1, vJ (((atP o.1 i).2.1).foldl mx h3)), (0, vP (ax 0)), (3, vI i), (4, vI j)]) C rfl (by decide) rfl dX7_digest_107 rfl ?_
                    refine i_iinc (j := 2) (q := 111) (lv' := [(3, vI (i + 1)), (1, vJ (((atP o.1 i).2.1).foldl mx h3)), (0, vP (ax 0)), (4, vI j)]) C rfl (by decide) rfl dX7_digest_108 rfl ?_
                    refine i_goto (q := 33) C dX7_digest_111 (by decide) ?_
                    refine V.lv [2, 1, 0] rfl ?_
                    exact ih_33 (i + 1) (((atP o.1 i).2.1).foldl mx h3) (by omega) (by omega) (by
                      rw [fold_tk _ _ hi.1 (by omega)]
                      unfold dgP
                      rw [hv3, show j = 5 by omega]
                      rfl)
                  · skip
                    refine i_ldc2 (z := 31) (q := 73) C (List.mem_of_getElem? (i := 2) rfl) dX7_digest_70 rfl ?_
                    refine i_lload_n (j := 1) (q := 74) C rfl rfl dX7_digest_73 rfl ?_
                    refine i_lmul (q := 75) C dX7_digest_74 rfl ?_
                    refine i_aload_n (j := 0) (q := 76) C rfl rfl dX7_digest_75 rfl ?_
                    refine i_get (i := 0) (j := 0) (f := 0) (q := 79) C rfl rfl rfl hi_X7_digest_X7 (by decide) lk_X7_digest_10 rfl dX7_digest_76 rfl ?_
                    refine i_iload_n (j := 2) (q := 80) C rfl rfl dX7_digest_79 rfl ?_
                    refine i_iload (j := 3) (q := 82) C rfl dX7_digest_80 rfl ?_
                    refine i_callV (wr := [boW ax ab ap al ao (((pck t : Nat) : Int), ck, ba, no, fu), paW ap ak (nx, pc), odW ao (by_, ve, ow, fi, se, le, oc, pl, fa)]) (As := [vI i, vI j]) (st := [vJ (31 * h3)]) (i := 0) (j := 0) (q := 85) C (c_X0_detail K l (ab) (nu) (wo) (sc) (me) (us) (la) (ct) (gv) (kd) (sl) (24 * N) (o) (i) (j) (by first | assumption | omega) (by first | assumption | omega) (by first | assumption | omega)) gX7_digest_X0_detail rfl hd_X0_detail ⟨Nat.le_of_ble_eq_true rfl, Nat.le_of_ble_eq_true rfl⟩ ⟨rfl, rfl⟩ ⟨Nat.le_of_ble_eq_true rfl, Nat.le_of_ble_eq_true rfl⟩ (permBy [1, 0, 2, 3] (by decide) rfl rfl) rfl rfl rfl rfl (Nat.le_of_ble_eq_true rfl) dX7_digest_82 rfl (fun v w hq => ?_)
                    obtain ⟨rfl, rfl⟩ := hq
                    show V X 0 0 85 [(0, vP (ax 0)), (1, vJ h3), (3, vI i), (4, vI j)] [vI (ofP (atP o.1 i) j), vJ (31 * h3)] [bkW ab (nu, wo, sc, me, us, la, ct, gv, kd, sl), boW ax ab ap al ao (((pck t : Nat) : Int), ck, ba, no, fu), paW ap ak (nx, pc), odW ao (by_, ve, ow, fi, se, le, oc, pl, fa)]
                    refine V.perm (cs' := [boW ax ab ap al ao (((pck t : Nat) : Int), ck, ba, no, fu), bkW ab (nu, wo, sc, me, us, la, ct, gv, kd, sl), paW ap ak (nx, pc), odW ao (by_, ve, ow, fi, se, le, oc, pl, fa)]) (permBy [1, 0, 2, 3] (by decide) rfl rfl) ?_
                    refine i_i2l (q := 86) C (by
                      have l1 := hb.xsc i (by omega) (by omega); have l2 := hb.xme i (by omega) (by omega); have l3 := hb.xwo i (by omega) (by omega); have l4 := hb.xus i (by omega) (by omega); have l5 := hb.xla i (by omega) (by omega)
                      unfold ofP; repeat' split
                      all_goals omega) dX7_digest_85 rfl ?_
                    refine i_ladd (q := 87) C dX7_digest_86 rfl ?_
                    refine i_lstore_n (q := 88) (lv' := [(1, vJ ((31 * h3) + (ofP (atP o.1 i) j))), (0, vP (ax 0)), (3, vI i), (4, vI j)]) C rfl (by decide) rfl dX7_digest_87 rfl ?_
                    refine i_iinc (j := 3) (q := 91) (lv' := [(4, vI (j + 1)), (1, vJ ((31 * h3) + (ofP (atP o.1 i) j))), (0, vP (ax 0)), (3, vI i)]) C rfl (by decide) rfl dX7_digest_88 rfl ?_
                    refine i_goto (q := 64) C dX7_digest_91 (by decide) ?_
                    refine V.lv [2, 1, 3, 0] rfl ?_
                    exact ih_64 (j + 1) ((31 * h3) + (ofP (atP o.1 i) j)) (by omega) (by omega) (by rw [dgJ_s _ _ hj.1, ← hv3]; rfl)
              refine V.lv [2, 1, 3, 0] rfl ?_
              exact loop_64 _ (0) ((31 * h2) + (nu i)) (Nat.lt_succ_self _) (by omega) (by
                have hni := hb.xnu i (by omega) (by omega)
                rw [hv2, hni.2]; rfl)
        refine V.lv [1, 2, 0] rfl ?_
        exact loop_33 _ (0) (h1) (Nat.lt_succ_self _) (by omega) (by rw [hv1, show k = 11 by omega]; rfl)
      · skip
        refine i_ldc2 (z := 31) (q := 15) C (List.mem_of_getElem? (i := 2) rfl) dX7_digest_12 rfl ?_
        refine i_lload_n (j := 1) (q := 16) C rfl rfl dX7_digest_15 rfl ?_
        refine i_lmul (q := 17) C dX7_digest_16 rfl ?_
        refine i_aload_n (j := 0) (q := 18) C rfl rfl dX7_digest_17 rfl ?_
        refine i_iload_n (j := 2) (q := 19) C rfl rfl dX7_digest_18 rfl ?_
        refine i_callV (wr := []) (As := [vI k]) (st := [vJ (31 * h1)]) (i := 0) (j := 0) (q := 22) C (c_X7_howMany K l (ax) (ap) (al) (ao) (ck) (ba) (no) (fu) (t) (ab) (nu) (wo) (sc) (me) (us) (la) (ct) (gv) (kd) (sl) (ak) (nx) (pc) (Bs) (by_) (ve) (ow) (fi) (se) (le) (oc) (pl) (fa) (so) (ra) (lc) (o) (h) (tx) (N) (k) (by first | assumption | omega) (by first | assumption | omega)) gX7_digest_X7_howMany rfl hd_X7_howMany ⟨Nat.le_of_ble_eq_true rfl, Nat.le_of_ble_eq_true rfl⟩ ⟨rfl, rfl⟩ ⟨Nat.le_of_ble_eq_true rfl, Nat.le_of_ble_eq_true rfl⟩ (permBy [0, 1, 2, 3] (by decide) rfl rfl) rfl rfl rfl rfl (Nat.le_of_ble_eq_true rfl) dX7_digest_19 rfl (fun v w hq => ?_)
        obtain ⟨rfl, rfl⟩ := hq
        show V X 0 0 22 [(0, vP (ax 0)), (1, vJ h1), (3, vI k)] [vI (tld k (o, h, t, ck, tx, ba, no, fu)), vJ (31 * h1)] [boW ax ab ap al ao (((pck t : Nat) : Int), ck, ba, no, fu), bkW ab (nu, wo, sc, me, us, la, ct, gv, kd, sl), paW ap ak (nx, pc), odW ao (by_, ve, ow, fi, se, le, oc, pl, fa)]
        refine i_i2l (q := 23) C (tldC_in hC k) dX7_digest_22 rfl ?_
        refine i_ladd (q := 24) C dX7_digest_23 rfl ?_
        refine i_lstore_n (q := 25) (lv' := [(1, vJ ((31 * h1) + (tld k (o, h, t, ck, tx, ba, no, fu)))), (0, vP (ax 0)), (3, vI k)]) C rfl (by decide) rfl dX7_digest_24 rfl ?_
        refine i_iinc (j := 2) (q := 28) (lv' := [(3, vI (k + 1)), (1, vJ ((31 * h1) + (tld k (o, h, t, ck, tx, ba, no, fu)))), (0, vP (ax 0))]) C rfl (by decide) rfl dX7_digest_25 rfl ?_
        refine i_goto (q := 6) C dX7_digest_28 (by decide) ?_
        refine V.lv [2, 1, 0] rfl ?_
        exact ih_6 (k + 1) ((31 * h1) + (tld k (o, h, t, ck, tx, ba, no, fu))) (by omega) (by omega) (by rw [dgT_s _ hk.1, ← hv1]; rfl)
  refine V.lv [2, 1, 0] rfl ?_
  exact loop_6 _ (0) (2003) (Nat.lt_succ_self _) (by omega) (rfl)
