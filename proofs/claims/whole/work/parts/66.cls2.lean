theorem lk_X7_comes_10 : Cond.fieldLink RX7 10 (TX7 0).1 (TX7 0).2.1 (TX7 0).2.2.1 ∈ wsX7_comes := List.mem_of_getElem? (i := 1) rfl
theorem hi_X7_comes_X7 : ∀ w ∈ u_ws RX7 TX7 9, w ∈ wsX7_comes := by decide +kernel
theorem hd_X0_slotSpelled : yX0_slotSpelled.cls = RX0 ∧ yX0_slotSpelled.cls ≠ "java/lang/invoke/MethodHandle" ∧ yX0_slotSpelled.cls ≠ "java/lang/invoke/VarHandle" ∧ (parseMethodDescriptor yX0_slotSpelled.desc).map (fun d => d.parameters.length) = some 1 := by decide +kernel
theorem hd_X0_append : yX0_append.cls = RX0 ∧ yX0_append.cls ≠ "java/lang/invoke/MethodHandle" ∧ yX0_append.cls ≠ "java/lang/invoke/VarHandle" ∧ (parseMethodDescriptor yX0_append.desc).map (fun d => d.parameters.length) = some 3 := by decide +kernel
set_option maxHeartbeats 400000 in
set_option maxRecDepth 100000 in
theorem c_X7_comes (K : KT) (l : Launch) (ax : Nat → Nat) (ap : Nat → Nat) (al : Nat → Nat) (ao : Nat → Nat) (ck : Int) (ba : Int) (no : Int) (fu : Int) (t : List Int) (ab : Nat → Nat) (nu : Int → Int) (wo : Int → Int) (sc : Int → Int) (me : Int → Int) (us : Int → Int) (la : Int → Int) (ct : Int) (gv : Int) (kd : Int) (sl : Int) (U : Int) (o : Bo) (wl : List Int) (y : Int) (z : Int) (hb : rpB U nu wo sc me us la ct gv kd sl o) (hwl : okL wl) (lwl : 1 ≤ wl.length ∧ wl.length ≤ 8) (hy : 0 ≤ y ∧ y ≤ 1000) (hz : 0 ≤ z ∧ z ≤ 9) : Mt K l yX7_comes wsX7_comes ({ frames := 2, cells := 0, slots := 0, locals := 44 }) [vP (ax 0), vJ (((pck wl : Nat) : Int)), vI y, vI z] [boW ax ab ap al ao (((pck t : Nat) : Int), ck, ba, no, fu), bkW ab (nu, wo, sc, me, us, la, ct, gv, kd, sl)] 0 0 (fun v w => ∃ nu3 : Int → Int, ∃ wo3 : Int → Int, ∃ sc3 : Int → Int, ∃ me3 : Int → Int, ∃ us3 : Int → Int, ∃ la3 : Int → Int, ∃ ct3 : Int, ∃ gv3 : Int, v = some (vI (if hasB o wl = false ∧ roomB o = true then 1 else 0)) ∧ w = [boW ax ab ap al ao (((pck t : Nat) : Int), ck, ba, no, fu), bkW ab (nu3, wo3, sc3, me3, us3, la3, ct3, gv3, kd, sl)] ∧ (rpB U nu3 wo3 sc3 me3 us3 la3 ct3 gv3 kd sl (if hasB o wl = false ∧ roomB o = true then addB o wl y z else o))) := by
  refine Mt.of (own := RX7) (cc := cX7_comes) (maxL := 5) (ret := (some .boolean)) (lv0 := [(0, vP (ax 0)), (1, vJ (((pck wl : Nat) : Int))), (3, vI y), (4, vI z)]) (by decide) rfl rfl (Nat.le_of_ble_eq_true rfl) rfl (fun X C hR hNm => ?_)
  have hct := hb.xct
  have hgv := hb.xgv
  have hrb : roomB o = true ↔ (ct < 40 ∧ gv < 200) := by
    unfold roomB
    rw [Bool.and_eq_true, decide_eq_true_eq, decide_eq_true_eq]
    omega
  have bw := pck_b hwl (by omega)
  refine i_aload_n (j := 0) (q := 1) C rfl rfl dX7_comes_0 rfl ?_
  refine i_get (i := 0) (j := 0) (f := 0) (q := 4) C rfl rfl rfl hi_X7_comes_X7 (by decide) lk_X7_comes_10 rfl dX7_comes_1 rfl ?_
  refine i_lload_n (j := 1) (q := 5) C rfl rfl dX7_comes_4 rfl ?_
  refine i_callV (wr := [boW ax ab ap al ao (((pck t : Nat) : Int), ck, ba, no, fu)]) (As := [vJ (((pck wl : Nat) : Int))]) (st := []) (i := 0) (j := 0) (q := 8) C (c_X0_slotSpelled K l (ab) (nu) (wo) (sc) (me) (us) (la) (ct) (gv) (kd) (sl) (((pck wl : Nat) : Int)) (by omega) (fun j g0 g1 => hb.rL j g0 g1) (by omega)) gX7_comes_X0_slotSpelled rfl hd_X0_slotSpelled ⟨Nat.le_of_ble_eq_true rfl, Nat.le_of_ble_eq_true rfl⟩ ⟨rfl, rfl⟩ ⟨Nat.le_of_ble_eq_true rfl, Nat.le_of_ble_eq_true rfl⟩ (permBy [1, 0] (by decide) rfl rfl) rfl rfl rfl rfl (Nat.le_of_ble_eq_true rfl) dX7_comes_5 rfl (fun v w hq => ?_)
  obtain ⟨r_5, rfl, rfl, hr_5⟩ := hq
  show V X 0 0 8 [(0, vP (ax 0)), (1, vJ (((pck wl : Nat) : Int))), (3, vI y), (4, vI z)] [vI r_5] [bkW ab (nu, wo, sc, me, us, la, ct, gv, kd, sl), boW ax ab ap al ao (((pck t : Nat) : Int), ck, ba, no, fu)]
  refine V.perm (cs' := [boW ax ab ap al ao (((pck t : Nat) : Int), ck, ba, no, fu), bkW ab (nu, wo, sc, me, us, la, ct, gv, kd, sl)]) (permBy [1, 0] (by decide) rfl rfl) ?_
  have hr6 := hb.has hwl hr_5
  refine i_iconst (q := 9) C dX7_comes_8 rfl ?_
  refine i_icmp_ne (tgt := 22) (q := 12) C (by rcases hr6 with h | h <;> omega) (by omega) dX7_comes_9 (by decide) rfl (fun c_9 => ?_) (fun c_9 => ?_)
  · skip
    refine i_iconst (q := 23) C dX7_comes_22 rfl ?_
    refine i_zret C hR (by omega) dX7_comes_23 ?_
    have hno : ¬ (hasB o wl = false ∧ roomB o = true) := fun z => by
      rcases hr6 with h | h
      · omega
      · rw [h.2.2.1] at z; exact absurd z.1 (by simp)
    exact ⟨nu, wo, sc, me, us, la, ct, gv, by rw [if_neg hno], rfl, by rw [if_neg hno]; exact hb⟩
  · skip
    refine i_aload_n (j := 0) (q := 13) C rfl rfl dX7_comes_12 rfl ?_
    refine i_get (i := 0) (j := 0) (f := 0) (q := 16) C rfl rfl rfl hi_X7_comes_X7 (by decide) lk_X7_comes_10 rfl dX7_comes_13 rfl ?_
    refine i_callV (wr := [boW ax ab ap al ao (((pck t : Nat) : Int), ck, ba, no, fu)]) (As := []) (st := []) (i := 0) (j := 0) (q := 19) C (c_X0_hasRoom K l (ab) (nu) (wo) (sc) (me) (us) (la) (ct) (gv) (kd) (sl) (by omega) (by omega)) gX7_comes_X0_hasRoom rfl hd_X0_hasRoom ⟨Nat.le_of_ble_eq_true rfl, Nat.le_of_ble_eq_true rfl⟩ ⟨rfl, rfl⟩ ⟨Nat.le_of_ble_eq_true rfl, Nat.le_of_ble_eq_true rfl⟩ (permBy [1, 0] (by decide) rfl rfl) rfl rfl rfl rfl (Nat.le_of_ble_eq_true rfl) dX7_comes_16 rfl (fun v w hq => ?_)
    obtain ⟨rfl, rfl⟩ := hq
    show V X 0 0 19 [(0, vP (ax 0)), (1, vJ (((pck wl : Nat) : Int))), (3, vI y), (4, vI z)] [vI (if ct < 40 ∧ gv < 200 then 1 else 0)] [bkW ab (nu, wo, sc, me, us, la, ct, gv, kd, sl), boW ax ab ap al ao (((pck t : Nat) : Int), ck, ba, no, fu)]
    refine V.perm (cs' := [boW ax ab ap al ao (((pck t : Nat) : Int), ck, ba, no, fu), bkW ab (nu, wo, sc, me, us, la, ct, gv, kd, sl)]) (permBy [1, 0] (by decide) rfl rfl) ?_
    refine i_if_ne (tgt := 24) (q := 22) C (if01) dX7_comes_19 (by decide) rfl (fun c_19 => ?_) (fun c_19 => ?_)
    · skip
      have h_19 := ifn0 c_19
      have hyes : hasB o wl = false ∧ roomB o = true := ⟨by
        rcases hr6 with h | h
        · exact h.2
        · omega, hrb.mpr h_19⟩
      refine i_aload_n (j := 0) (q := 25) C rfl rfl dX7_comes_24 rfl ?_
      refine i_get (i := 0) (j := 0) (f := 0) (q := 28) C rfl rfl rfl hi_X7_comes_X7 (by decide) lk_X7_comes_10 rfl dX7_comes_25 rfl ?_
      refine i_lload_n (j := 1) (q := 29) C rfl rfl dX7_comes_28 rfl ?_
      refine i_iload_n (j := 2) (q := 30) C rfl rfl dX7_comes_29 rfl ?_
      refine i_iload (j := 3) (q := 32) C rfl dX7_comes_30 rfl ?_
      refine i_callV (wr := [boW ax ab ap al ao (((pck t : Nat) : Int), ck, ba, no, fu)]) (As := [vJ (((pck wl : Nat) : Int)), vI y, vI z]) (st := []) (i := 0) (j := 0) (q := 35) C (c_X0_append K l (ab) (nu) (wo) (sc) (me) (us) (la) (ct) (gv) (kd) (sl) (((pck wl : Nat) : Int)) (y) (z) (by omega) (by omega)) gX7_comes_X0_append rfl hd_X0_append ⟨Nat.le_of_ble_eq_true rfl, Nat.le_of_ble_eq_true rfl⟩ ⟨rfl, rfl⟩ ⟨Nat.le_of_ble_eq_true rfl, Nat.le_of_ble_eq_true rfl⟩ (permBy [1, 0] (by decide) rfl rfl) rfl rfl rfl rfl (Nat.le_of_ble_eq_true rfl) dX7_comes_32 rfl (fun v w hq => ?_)
      obtain ⟨rfl, rfl⟩ := hq
      show V X 0 0 35 [(0, vP (ax 0)), (1, vJ (((pck wl : Nat) : Int))), (3, vI y), (4, vI z)] [vI gv] [bkW ab (up nu ct gv, up wo ct (((pck wl : Nat) : Int)), up sc ct y, up me ct z, up us ct 0, up la ct (-1), ct + 1, gv + 1, kd, sl), boW ax ab ap al ao (((pck t : Nat) : Int), ck, ba, no, fu)]
      refine V.perm (cs' := [boW ax ab ap al ao (((pck t : Nat) : Int), ck, ba, no, fu), bkW ab (up nu ct gv, up wo ct (((pck wl : Nat) : Int)), up sc ct y, up me ct z, up us ct 0, up la ct (-1), ct + 1, gv + 1, kd, sl)]) (permBy [1, 0] (by decide) rfl rfl) ?_
      refine i_pop (q := 36) C rfl dX7_comes_35 rfl ?_
      refine i_iconst (q := 37) C dX7_comes_36 rfl ?_
      refine i_zret C hR (by omega) dX7_comes_37 ?_
      exact ⟨up nu ct gv, up wo ct ((pck wl : Nat) : Int), up sc ct y, up me ct z, up us ct 0, up la ct (-1), ct + 1, gv + 1, by rw [if_pos hyes], rfl, by rw [if_pos hyes]; exact hb.add hwl lwl hyes.1 hyes.2 hy hz⟩
    · skip
      have h_19 := if0 c_19
      refine i_iconst (q := 23) C dX7_comes_22 rfl ?_
      refine i_zret C hR (by omega) dX7_comes_23 ?_
      have hno : ¬ (hasB o wl = false ∧ roomB o = true) := fun z => h_19 (hrb.mp z.2)
      exact ⟨nu, wo, sc, me, us, la, ct, gv, by rw [if_neg hno], rfl, by rw [if_neg hno]; exact hb⟩

theorem lk_X2_makeEmpty_18 : Cond.fieldLink RX2 18 (TX2 2).1 (TX2 2).2.1 (TX2 2).2.2.1 ∈ wsX2_makeEmpty := List.mem_of_getElem? (i := 1) rfl
theorem hi_X2_makeEmpty_X2 : ∀ w ∈ u_ws RX2 TX2 3, w ∈ wsX2_makeEmpty := by decide +kernel
set_option maxHeartbeats 400000 in
set_option maxRecDepth 100000 in
theorem c_X2_makeEmpty (K : KT) (l : Launch) (al : Nat → Nat) (so : Int → Int) (ra : Int → Int) (lc : Int)  : Mt K l yX2_makeEmpty wsX2_makeEmpty ({ frames := 0, cells := 0, slots := 0, locals := 0 }) [vP (al 0)] [liW al (so, ra, lc)] 0 0 (fun v w => v = none ∧ w = [liW al (so, ra, 0)]) := by
  refine Mt.of (own := RX2) (cc := cX2_makeEmpty) (maxL := 1) (ret := none) (lv0 := [(0, vP (al 0))]) (by decide) rfl rfl (Nat.le_of_ble_eq_true rfl) rfl (fun X C hR hNm => ?_)
  refine i_aload_n (j := 0) (q := 1) C rfl rfl dX2_makeEmpty_0 rfl ?_
  refine i_iconst (q := 2) C dX2_makeEmpty_1 rfl ?_
  refine i_putI (i := 0) (j := 0) (f := 2) (q := 5) (cs' := [liW al (so, ra, 0)]) C rfl rfl rfl hi_X2_makeEmpty_X2 tyX2 tyX2_ok nmX2 (by decide) (Nat.le_of_ble_eq_true rfl) lk_X2_makeEmpty_18 rfl rfl dX2_makeEmpty_2 rfl rfl ?_
  refine i_vret C hR dX2_makeEmpty_5 ?_
  exact ⟨rfl, rfl⟩

theorem lk_X2_insert_18 : Cond.fieldLink RX2 18 (TX2 2).1 (TX2 2).2.1 (TX2 2).2.2.1 ∈ wsX2_insert := List.mem_of_getElem? (i := 1) rfl
theorem hi_X2_insert_X2 : ∀ w ∈ u_ws RX2 TX2 3, w ∈ wsX2_insert := by decide +kernel
theorem lk_X2_insert_9 : Cond.fieldLink RX2 9 (TX2 0).1 (TX2 0).2.1 (TX2 0).2.2.1 ∈ wsX2_insert := List.mem_of_getElem? (i := 3) rfl
theorem lk_X2_insert_15 : Cond.fieldLink RX2 15 (TX2 1).1 (TX2 1).2.1 (TX2 1).2.2.1 ∈ wsX2_insert := List.mem_of_getElem? (i := 2) rfl
set_option maxHeartbeats 400000 in
set_option maxRecDepth 100000 in
theorem c_X2_insert (K : KT) (l : Launch) (al : Nat → Nat) (so : Int → Int) (ra : Int → Int) (lc : Int) (x : Int) (y : Int) (hlc : 0 ≤ lc ∧ lc < 40) (hra : ∀ j, 0 ≤ j → j < lc → rI (ra j)) (hy : rI y) : Mt K l yX2_insert wsX2_insert ({ frames := 0, cells := 0, slots := 0, locals := 0 }) [vP (al 0), vI x, vI y] [liW al (so, ra, lc)] 0 0 (fun v w => ∃ so3 : Int → Int, ∃ ra3 : Int → Int, ∃ a3 : Int, v = none ∧ w = [liW al (so3, ra3, lc + 1)] ∧ (inR so ra so3 ra3 lc a3 x y)) := by
  refine Mt.of (own := RX2) (cc := cX2_insert) (maxL := 4) (ret := none) (lv0 := [(0, vP (al 0)), (1, vI x), (2, vI y)]) (by decide) rfl rfl (Nat.le_of_ble_eq_true rfl) rfl (fun X C hR hNm => ?_)
  refine i_aload_n (j := 0) (q := 1) C rfl rfl dX2_insert_0 rfl ?_
  refine i_get (i := 0) (j := 0) (f := 2) (q := 4) C rfl rfl rfl hi_X2_insert_X2 (by decide) lk_X2_insert_18 rfl dX2_insert_1 rfl ?_
  refine i_bipush (q := 6) C (by decide) dX2_insert_4 rfl ?_
  refine i_icmp_lt (tgt := 10) (q := 9) C (by omega) (by omega) dX2_insert_6 (by decide) rfl (fun c_6 => ?_) (fun c_6 => ?_)
  · skip
    refine i_aload_n (j := 0) (q := 11) C rfl rfl dX2_insert_10 rfl ?_
    refine i_get (i := 0) (j := 0) (f := 2) (q := 14) C rfl rfl rfl hi_X2_insert_X2 (by decide) lk_X2_insert_18 rfl dX2_insert_11 rfl ?_
    refine i_istore_n (q := 15) (lv' := [(3, vI lc), (0, vP (al 0)), (1, vI x), (2, vI y)]) C rfl (by decide) rfl dX2_insert_14 rfl ?_
    have loop_15 : ∀ (fuel : Nat) (a : Int) (so4 : Int → Int) (ra4 : Int → Int), (a.toNat) < fuel → (0 ≤ a ∧ a ≤ lc) → (∀ j, 0 ≤ j → j < a → so4 j = so j ∧ ra4 j = ra j) → (∀ j, a < j → j ≤ lc → so4 j = so (j - 1) ∧ ra4 j = ra (j - 1)) → (∀ j, a ≤ j → j < lc → ra j < y) → V X 0 0 15 [(0, vP (al 0)), (1, vI x), (2, vI y), (3, vI a)] [] [liW al (so4, ra4, lc)] := by
      intro fuel
      induction fuel with
      | zero => intro a so4 ra4 hz; exact absurd hz (Nat.not_lt_zero _)
      | succ fuel ih_15 =>
        intro a so4 ra4 hfu_15 ha i1 i2 i3
        refine i_iload_n (j := 3) (q := 16) C rfl rfl dX2_insert_15 rfl ?_
        refine i_if_le (tgt := 65) (q := 19) C (by omega) dX2_insert_16 (by decide) rfl (fun c_16 => ?_) (fun c_16 => ?_)
        · skip
          refine i_aload_n (j := 0) (q := 66) C rfl rfl dX2_insert_65 rfl ?_
          refine i_get (i := 0) (j := 0) (f := 0) (q := 69) C rfl rfl rfl hi_X2_insert_X2 (by decide) lk_X2_insert_9 rfl dX2_insert_66 rfl ?_
          refine i_iload_n (j := 3) (q := 70) C rfl rfl dX2_insert_69 rfl ?_
          refine i_iload_n (j := 1) (q := 71) C rfl rfl dX2_insert_70 rfl ?_
          refine i_iast (i := 0) (j := 1) (q := 72) (cs' := [liW al (up so4 a x, ra4, lc)]) C rfl rfl (by omega) dX2_insert_71 rfl rfl ?_
          refine i_aload_n (j := 0) (q := 73) C rfl rfl dX2_insert_72 rfl ?_
          refine i_get (i := 0) (j := 0) (f := 1) (q := 76) C rfl rfl rfl hi_X2_insert_X2 (by decide) lk_X2_insert_15 rfl dX2_insert_73 rfl ?_
          refine i_iload_n (j := 3) (q := 77) C rfl rfl dX2_insert_76 rfl ?_
          refine i_iload_n (j := 2) (q := 78) C rfl rfl dX2_insert_77 rfl ?_
          refine i_iast (i := 0) (j := 2) (q := 79) (cs' := [liW al (up so4 a x, up ra4 a y, lc)]) C rfl rfl (by omega) dX2_insert_78 rfl rfl ?_
          refine i_aload_n (j := 0) (q := 80) C rfl rfl dX2_insert_79 rfl ?_
          refine i_dup (q := 81) C rfl dX2_insert_80 rfl ?_
          refine i_get (i := 0) (j := 0) (f := 2) (q := 84) C rfl rfl rfl hi_X2_insert_X2 (by decide) lk_X2_insert_18 rfl dX2_insert_81 rfl ?_
          refine i_iconst (q := 85) C dX2_insert_84 rfl ?_
          refine i_iadd (q := 86) C dX2_insert_85 rfl ?_
          refine i_putI (i := 0) (j := 0) (f := 2) (q := 89) (cs' := [liW al (up so4 a x, up ra4 a y, lc + 1)]) C rfl rfl rfl hi_X2_insert_X2 tyX2 tyX2_ok nmX2 (by decide) (Nat.le_of_ble_eq_true rfl) lk_X2_insert_18 rfl rfl dX2_insert_86 rfl rfl ?_
          refine i_vret C hR dX2_insert_89 ?_
          exact ⟨up so4 a x, up ra4 a y, a, rfl, rfl, by omega, fun j g0 g1 => by rw [up_n _ _ (by omega), up_n _ _ (by omega)]; exact i1 j g0 g1, ⟨up_s _ _ _, up_s _ _ _⟩, fun j g0 g1 => by rw [up_n _ _ (by omega), up_n _ _ (by omega)]; exact i2 j g0 g1, i3, fun g => by omega⟩
        · skip
          refine i_aload_n (j := 0) (q := 20) C rfl rfl dX2_insert_19 rfl ?_
          refine i_get (i := 0) (j := 0) (f := 1) (q := 23) C rfl rfl rfl hi_X2_insert_X2 (by decide) lk_X2_insert_15 rfl dX2_insert_20 rfl ?_
          refine i_iload_n (j := 3) (q := 24) C rfl rfl dX2_insert_23 rfl ?_
          refine i_iconst (q := 25) C dX2_insert_24 rfl ?_
          refine i_isub (q := 26) C dX2_insert_25 rfl ?_
          refine i_iald (i := 0) (j := 2) (q := 27) C rfl rfl (by omega) dX2_insert_26 rfl ?_
          have ld_26 := hra (a - 1) (by omega) (by omega)
          refine i_iload_n (j := 2) (q := 28) C rfl rfl dX2_insert_27 rfl ?_
          refine i_icmp_ge (tgt := 65) (q := 31) C (by rw [(i1 (a - 1) (by omega) (by omega)).2]; exact ld_26) (by omega) dX2_insert_28 (by decide) rfl (fun c_28 => ?_) (fun c_28 => ?_)
          · skip
            refine i_aload_n (j := 0) (q := 66) C rfl rfl dX2_insert_65 rfl ?_
            refine i_get (i := 0) (j := 0) (f := 0) (q := 69) C rfl rfl rfl hi_X2_insert_X2 (by decide) lk_X2_insert_9 rfl dX2_insert_66 rfl ?_
            refine i_iload_n (j := 3) (q := 70) C rfl rfl dX2_insert_69 rfl ?_
            refine i_iload_n (j := 1) (q := 71) C rfl rfl dX2_insert_70 rfl ?_
            refine i_iast (i := 0) (j := 1) (q := 72) (cs' := [liW al (up so4 a x, ra4, lc)]) C rfl rfl (by omega) dX2_insert_71 rfl rfl ?_
            refine i_aload_n (j := 0) (q := 73) C rfl rfl dX2_insert_72 rfl ?_
            refine i_get (i := 0) (j := 0) (f := 1) (q := 76) C rfl rfl rfl hi_X2_insert_X2 (by decide) lk_X2_insert_15 rfl dX2_insert_73 rfl ?_
            refine i_iload_n (j := 3) (q := 77) C rfl rfl dX2_insert_76 rfl ?_
            refine i_iload_n (j := 2) (q := 78) C rfl rfl dX2_insert_77 rfl ?_
            refine i_iast (i := 0) (j := 2) (q := 79) (cs' := [liW al (up so4 a x, up ra4 a y, lc)]) C rfl rfl (by omega) dX2_insert_78 rfl rfl ?_
            refine i_aload_n (j := 0) (q := 80) C rfl rfl dX2_insert_79 rfl ?_
            refine i_dup (q := 81) C rfl dX2_insert_80 rfl ?_
            refine i_get (i := 0) (j := 0) (f := 2) (q := 84) C rfl rfl rfl hi_X2_insert_X2 (by decide) lk_X2_insert_18 rfl dX2_insert_81 rfl ?_
            refine i_iconst (q := 85) C dX2_insert_84 rfl ?_
            refine i_iadd (q := 86) C dX2_insert_85 rfl ?_
            refine i_putI (i := 0) (j := 0) (f := 2) (q := 89) (cs' := [liW al (up so4 a x, up ra4 a y, lc + 1)]) C rfl rfl rfl hi_X2_insert_X2 tyX2 tyX2_ok nmX2 (by decide) (Nat.le_of_ble_eq_true rfl) lk_X2_insert_18 rfl rfl dX2_insert_86 rfl rfl ?_
            refine i_vret C hR dX2_insert_89 ?_
            exact ⟨up so4 a x, up ra4 a y, a, rfl, rfl, by omega, fun j g0 g1 => by rw [up_n _ _ (by omega), up_n _ _ (by omega)]; exact i1 j g0 g1, ⟨up_s _ _ _, up_s _ _ _⟩, fun j g0 g1 => by rw [up_n _ _ (by omega), up_n _ _ (by omega)]; exact i2 j g0 g1, i3, fun g => by rw [← (i1 (a - 1) (by omega) (by omega)).2]; exact c_28⟩
          · skip
            refine i_aload_n (j := 0) (q := 32) C rfl rfl dX2_insert_31 rfl ?_
            refine i_get (i := 0) (j := 0) (f := 0) (q := 35) C rfl rfl rfl hi_X2_insert_X2 (by decide) lk_X2_insert_9 rfl dX2_insert_32 rfl ?_
            refine i_iload_n (j := 3) (q := 36) C rfl rfl dX2_insert_35 rfl ?_
            refine i_aload_n (j := 0) (q := 37) C rfl rfl dX2_insert_36 rfl ?_
            refine i_get (i := 0) (j := 0) (f := 0) (q := 40) C rfl rfl rfl hi_X2_insert_X2 (by decide) lk_X2_insert_9 rfl dX2_insert_37 rfl ?_
            refine i_iload_n (j := 3) (q := 41) C rfl rfl dX2_insert_40 rfl ?_
            refine i_iconst (q := 42) C dX2_insert_41 rfl ?_
            refine i_isub (q := 43) C dX2_insert_42 rfl ?_
            refine i_iald (i := 0) (j := 1) (q := 44) C rfl rfl (by omega) dX2_insert_43 rfl ?_
            refine i_iast (i := 0) (j := 1) (q := 45) (cs' := [liW al (up so4 a (so4 (a - 1)), ra4, lc)]) C rfl rfl (by omega) dX2_insert_44 rfl rfl ?_
            refine i_aload_n (j := 0) (q := 46) C rfl rfl dX2_insert_45 rfl ?_
            refine i_get (i := 0) (j := 0) (f := 1) (q := 49) C rfl rfl rfl hi_X2_insert_X2 (by decide) lk_X2_insert_15 rfl dX2_insert_46 rfl ?_
            refine i_iload_n (j := 3) (q := 50) C rfl rfl dX2_insert_49 rfl ?_
            refine i_aload_n (j := 0) (q := 51) C rfl rfl dX2_insert_50 rfl ?_
            refine i_get (i := 0) (j := 0) (f := 1) (q := 54) C rfl rfl rfl hi_X2_insert_X2 (by decide) lk_X2_insert_15 rfl dX2_insert_51 rfl ?_
            refine i_iload_n (j := 3) (q := 55) C rfl rfl dX2_insert_54 rfl ?_
            refine i_iconst (q := 56) C dX2_insert_55 rfl ?_
            refine i_isub (q := 57) C dX2_insert_56 rfl ?_
            refine i_iald (i := 0) (j := 2) (q := 58) C rfl rfl (by omega) dX2_insert_57 rfl ?_
            refine i_iast (i := 0) (j := 2) (q := 59) (cs' := [liW al (up so4 a (so4 (a - 1)), up ra4 a (ra4 (a - 1)), lc)]) C rfl rfl (by omega) dX2_insert_58 rfl rfl ?_
            refine i_iinc (j := 3) (q := 62) (lv' := [(3, vI (a + (-1))), (0, vP (al 0)), (1, vI x), (2, vI y)]) C rfl (by decide) rfl dX2_insert_59 rfl ?_
            refine i_goto (q := 15) C dX2_insert_62 (by decide) ?_
            refine V.lv [1, 2, 3, 0] rfl ?_
            exact ih_15 (a + (-1)) (up so4 a (so4 (a - 1))) (up ra4 a (ra4 (a - 1))) (by omega) (by omega) (fun j g0 g1 => by rw [up_n _ _ (by omega), up_n _ _ (by omega)]; exact i1 j g0 (by omega)) (fun j g0 g1 => by
              by_cases e : j = a
              · subst e; rw [up_s, up_s]; exact i1 (j - 1) (by omega) (by omega)
              · rw [up_n _ _ e, up_n _ _ e]; exact i2 j (by omega) g1) (fun j g0 g1 => by
              by_cases e : j = a - 1
              · subst e; rw [(i1 (a - 1) (by omega) (by omega)).2] at c_28; exact c_28
              · exact i3 j (by omega) g1)
    refine V.lv [1, 2, 3, 0] rfl ?_
    exact loop_15 _ (lc) (so) (ra) (Nat.lt_succ_self _) (by omega) (fun j _ _ => ⟨rfl, rfl⟩) (fun j _ _ => by omega) (fun j _ _ => by omega)
  · skip
    exact absurd c_6 (by omega)

theorem lk_X2_keepFirstOfEachMeaning_18 : Cond.fieldLink RX2 18 (TX2 2).1 (TX2 2).2.1 (TX2 2).2.2.1 ∈ wsX2_keepFirstOfEachMeaning := List.mem_of_getElem? (i := 1) rfl
theorem hi_X2_keepFirstOfEachMeaning_X2 : ∀ w ∈ u_ws RX2 TX2 3, w ∈ wsX2_keepFirstOfEachMeaning := by decide +kernel
theorem lk_X2_keepFirstOfEachMeaning_22 : Cond.fieldLink RX2 22 (TX0 3).1 (TX0 3).2.1 (TX0 3).2.2.1 ∈ wsX2_keepFirstOfEachMeaning := List.mem_of_getElem? (i := 2) rfl
theorem hi_X2_keepFirstOfEachMeaning_X0 : ∀ w ∈ u_ws RX0 TX0 10, w ∈ wsX2_keepFirstOfEachMeaning := by decide +kernel
theorem lk_X2_keepFirstOfEachMeaning_9 : Cond.fieldLink RX2 9 (TX2 0).1 (TX2 0).2.1 (TX2 0).2.2.1 ∈ wsX2_keepFirstOfEachMeaning := List.mem_of_getElem? (i := 3) rfl
set_option maxHeartbeats 400000 in
set_option maxRecDepth 100000 in
theorem c_X2_keepFirstOfEachMeaning (K : KT) (l : Launch) (al : Nat → Nat) (so : Int → Int) (ra : Int → Int) (lc : Int) (ab : Nat → Nat) (nu : Int → Int) (wo : Int → Int) (sc : Int → Int) (me : Int → Int) (us : Int → Int) (la : Int → Int) (ct : Int) (gv : Int) (kd : Int) (sl : Int) (hlc : 0 ≤ lc ∧ lc ≤ 40) (hso : ∀ j, 0 ≤ j → j < lc → (0 ≤ so j ∧ so j < 40) ∧ 0 ≤ me (so j) ∧ me (so j) ≤ 9) : Mt K l yX2_keepFirstOfEachMeaning wsX2_keepFirstOfEachMeaning ({ frames := 0, cells := 0, slots := 0, locals := 0 }) [vP (al 0), vP (ab 0)] [liW al (so, ra, lc), bkW ab (nu, wo, sc, me, us, la, ct, gv, kd, sl)] 0 0 (fun v w => ∃ so3 : Int → Int, ∃ kp3 : Int, v = none ∧ w = [liW al (so3, ra, kp3), bkW ab (nu, wo, sc, me, us, la, ct, gv, kd, sl)] ∧ (0 ≤ kp3 ∧ kp3 ≤ lc ∧ rg so3 kp3 = kfl me so lc.toNat)) := by
  refine Mt.of (own := RX2) (cc := cX2_keepFirstOfEachMeaning) (maxL := 6) (ret := none) (lv0 := [(0, vP (al 0)), (1, vP (ab 0))]) (by decide) rfl rfl (Nat.le_of_ble_eq_true rfl) rfl (fun X C hR hNm => ?_)
  refine i_iconst (q := 1) C dX2_keepFirstOfEachMeaning_0 rfl ?_
  refine i_istore_n (q := 2) (lv' := [(2, vI 0), (0, vP (al 0)), (1, vP (ab 0))]) C rfl (by decide) rfl dX2_keepFirstOfEachMeaning_1 rfl ?_
  refine i_iconst (q := 3) C dX2_keepFirstOfEachMeaning_2 rfl ?_
  refine i_istore_n (q := 4) (lv' := [(3, vI 0), (2, vI 0), (0, vP (al 0)), (1, vP (ab 0))]) C rfl (by decide) rfl dX2_keepFirstOfEachMeaning_3 rfl ?_
  refine i_iconst (q := 5) C dX2_keepFirstOfEachMeaning_4 rfl ?_
  refine i_istore (q := 7) (lv' := [(4, vI 0), (3, vI 0), (2, vI 0), (0, vP (al 0)), (1, vP (ab 0))]) C (by decide) rfl dX2_keepFirstOfEachMeaning_5 rfl ?_
  have loop_7 : ∀ (fuel : Nat) (i : Int) (sn : Nat) (kp : Int) (so4 : Int → Int), ((lc - i).toNat) < fuel → (0 ≤ i ∧ i ≤ lc) → (sn < 1024) → (∀ m : Nat, m < 10 → (sn.testBit m = true ↔ ∃ j, 0 ≤ j ∧ j < i ∧ me (so j) = m)) → (0 ≤ kp ∧ kp ≤ i) → (∀ j, i ≤ j → j < lc → so4 j = so j) → (rg so4 kp = kfl me so i.toNat) → V X 0 0 7 [(0, vP (al 0)), (1, vP (ab 0)), (2, vI (((sn : Nat) : Int))), (3, vI kp), (4, vI i)] [] [liW al (so4, ra, lc), bkW ab (nu, wo, sc, me, us, la, ct, gv, kd, sl)] := by
    intro fuel
    induction fuel with
    | zero => intro i sn kp so4 hz; exact absurd hz (Nat.not_lt_zero _)
    | succ fuel ih_7 =>
      intro i sn kp so4 hfu_7 hi hs1 hsn hkp hfr hv
      refine i_iload (j := 4) (q := 9) C rfl dX2_keepFirstOfEachMeaning_7 rfl ?_
      refine i_aload_n (j := 0) (q := 10) C rfl rfl dX2_keepFirstOfEachMeaning_9 rfl ?_
      refine i_get (i := 0) (j := 0) (f := 2) (q := 13) C rfl rfl rfl hi_X2_keepFirstOfEachMeaning_X2 (by decide) lk_X2_keepFirstOfEachMeaning_18 rfl dX2_keepFirstOfEachMeaning_10 rfl ?_
      refine i_icmp_ge (tgt := 73) (q := 16) C (by omega) (by omega) dX2_keepFirstOfEachMeaning_13 (by decide) rfl (fun c_13 => ?_) (fun c_13 => ?_)
      · skip
        refine i_aload_n (j := 0) (q := 74) C rfl rfl dX2_keepFirstOfEachMeaning_73 rfl ?_
        refine i_iload_n (j := 3) (q := 75) C rfl rfl dX2_keepFirstOfEachMeaning_74 rfl ?_
        refine i_putI (i := 0) (j := 0) (f := 2) (q := 78) (cs' := [liW al (so4, ra, kp), bkW ab (nu, wo, sc, me, us, la, ct, gv, kd, sl)]) C rfl rfl rfl hi_X2_keepFirstOfEachMeaning_X2 tyX2 tyX2_ok nmX2 (by decide) (Nat.le_of_ble_eq_true rfl) lk_X2_keepFirstOfEachMeaning_18 rfl rfl dX2_keepFirstOfEachMeaning_75 rfl rfl ?_
        refine i_vret C hR dX2_keepFirstOfEachMeaning_78 ?_
        have e9 : i = lc := by omega
        subst e9
        exact ⟨so4, kp, rfl, rfl, by omega, by omega, hv⟩
      · skip
        refine i_aload_n (j := 1) (q := 17) C rfl rfl dX2_keepFirstOfEachMeaning_16 rfl ?_
        refine i_get (i := 1) (j := 0) (f := 3) (q := 20) C rfl rfl rfl hi_X2_keepFirstOfEachMeaning_X0 (by decide) lk_X2_keepFirstOfEachMeaning_22 rfl dX2_keepFirstOfEachMeaning_17 rfl ?_
        refine i_aload_n (j := 0) (q := 21) C rfl rfl dX2_keepFirstOfEachMeaning_20 rfl ?_
        refine i_get (i := 0) (j := 0) (f := 0) (q := 24) C rfl rfl rfl hi_X2_keepFirstOfEachMeaning_X2 (by decide) lk_X2_keepFirstOfEachMeaning_9 rfl dX2_keepFirstOfEachMeaning_21 rfl ?_
        refine i_iload (j := 4) (q := 26) C rfl dX2_keepFirstOfEachMeaning_24 rfl ?_
        refine i_iald (i := 0) (j := 1) (q := 27) C rfl rfl (by omega) dX2_keepFirstOfEachMeaning_26 rfl ?_
        have hme := (hso i (by omega) (by omega)).2
        obtain ⟨mn, hmn⟩ : ∃ mn : Nat, (mn : Int) = me (so i) := ⟨(me (so i)).toNat, by omega⟩
        refine i_iald (i := 1) (j := 4) (q := 28) C rfl rfl (by have h9 := (hso i (by omega) (by omega)).1; rw [hfr i (by omega) (by omega)]; omega) dX2_keepFirstOfEachMeaning_27 rfl ?_
        refine V.top (b := ((mn : Nat) : Int)) (by rw [hfr i (by omega) (by omega), hmn]) ?_
        refine i_istore (q := 30) (lv' := [(5, vI (((mn : Nat) : Int))), (0, vP (al 0)), (1, vP (ab 0)), (2, vI (((sn : Nat) : Int))), (3, vI kp), (4, vI i)]) C (by decide) rfl dX2_keepFirstOfEachMeaning_28 rfl ?_
        refine i_iload (j := 0) (q := 32) C rfl dX2_keepFirstOfEachMeaning_30 rfl ?_
        refine i_if_eq (tgt := 44) (q := 35) C (by omega) dX2_keepFirstOfEachMeaning_32 (by decide) rfl (fun c_32 => ?_) (fun c_32 => ?_)
        · skip
          have hf : fsh me so i := Or.inl (by omega)
          refine i_iload_n (j := 3) (q := 45) C rfl rfl dX2_keepFirstOfEachMeaning_44 rfl ?_
          refine i_iconst (q := 46) C dX2_keepFirstOfEachMeaning_45 rfl ?_
          refine i_iload (j := 0) (q := 48) C rfl dX2_keepFirstOfEachMeaning_46 rfl ?_
          refine i_ishl (z := ((2 ^ mn : Nat) : Int)) (q := 49) C (sb_one mn (by omega)) dX2_keepFirstOfEachMeaning_48 rfl ?_
          refine i_ior (z := ((sn ||| 2 ^ mn : Nat) : Int)) (q := 50) C (sb_or hs1 (by omega)) dX2_keepFirstOfEachMeaning_49 rfl ?_
          refine i_istore_n (q := 51) (lv' := [(2, vI (((sn ||| 2 ^ mn : Nat) : Int))), (5, vI (((mn : Nat) : Int))), (0, vP (al 0)), (1, vP (ab 0)), (3, vI kp), (4, vI i)]) C rfl (by decide) rfl dX2_keepFirstOfEachMeaning_50 rfl ?_
          refine i_aload_n (j := 2) (q := 52) C rfl rfl dX2_keepFirstOfEachMeaning_51 rfl ?_
          refine i_get (i := 0) (j := 0) (f := 0) (q := 55) C rfl rfl rfl hi_X2_keepFirstOfEachMeaning_X2 (by decide) lk_X2_keepFirstOfEachMeaning_9 rfl dX2_keepFirstOfEachMeaning_52 rfl ?_
          refine i_iload_n (j := 4) (q := 56) C rfl rfl dX2_keepFirstOfEachMeaning_55 rfl ?_
          refine i_aload_n (j := 2) (q := 57) C rfl rfl dX2_keepFirstOfEachMeaning_56 rfl ?_
          refine i_get (i := 0) (j := 0) (f := 0) (q := 60) C rfl rfl rfl hi_X2_keepFirstOfEachMeaning_X2 (by decide) lk_X2_keepFirstOfEachMeaning_9 rfl dX2_keepFirstOfEachMeaning_57 rfl ?_
          refine i_iload (j := 5) (q := 62) C rfl dX2_keepFirstOfEachMeaning_60 rfl ?_
          refine i_iald (i := 0) (j := 1) (q := 63) C rfl rfl (by omega) dX2_keepFirstOfEachMeaning_62 rfl ?_
          refine i_iast (i := 0) (j := 1) (q := 64) (cs' := [liW al (up so4 kp (so4 i), ra, lc), bkW ab (nu, wo, sc, me, us, la, ct, gv, kd, sl)]) C rfl rfl (by omega) dX2_keepFirstOfEachMeaning_63 rfl rfl ?_
          refine i_iinc (j := 4) (q := 67) (lv' := [(3, vI (kp + 1)), (2, vI (((sn ||| 2 ^ mn : Nat) : Int))), (5, vI (((mn : Nat) : Int))), (0, vP (al 0)), (1, vP (ab 0)), (4, vI i)]) C rfl (by decide) rfl dX2_keepFirstOfEachMeaning_64 rfl ?_
          refine i_iinc (j := 5) (q := 70) (lv' := [(4, vI (i + 1)), (3, vI (kp + 1)), (2, vI (((sn ||| 2 ^ mn : Nat) : Int))), (5, vI (((mn : Nat) : Int))), (0, vP (al 0)), (1, vP (ab 0))]) C rfl (by decide) rfl dX2_keepFirstOfEachMeaning_67 rfl ?_
          refine i_goto (q := 7) C dX2_keepFirstOfEachMeaning_70 (by decide) ?_
          refine V.lv [4, 5, 2, 1, 0] rfl ?_
          exact ih_7 (i + 1) (sn ||| 2 ^ mn) (kp + 1) (up so4 kp (so4 i)) (by omega) (by omega) (by first | exact (fun (_ : ¬ fsh me so i) => hs1) hnf | exact (fun (_ : fsh me so i) => sb_lt hs1 (show mn < 10 by omega)) hf) (by
            first
              | exact fun m hm => ⟨fun z => by obtain ⟨j, j0, j1, j2⟩ := (hsn m hm).mp z; exact ⟨j, j0, by omega, j2⟩, fun ⟨j, j0, j1, j2⟩ => by
                  by_cases e : j = i
                  · subst e
                    rw [show m = mn by omega]
                    exact htb hnf
                  · exact (hsn m hm).mpr ⟨j, j0, by omega, j2⟩⟩
              | exact fun m hm => by
                  rw [sb_set, Bool.or_eq_true, decide_eq_true_eq, hsn m hm]
                  constructor
                  · rintro (⟨j, j0, j1, j2⟩ | e)
                    · exact ⟨j, j0, by omega, j2⟩
                    · exact ⟨i, by omega, by omega, by rw [← e, hmn]⟩
                  · rintro ⟨j, j0, j1, j2⟩
                    by_cases e : j = i
                    · subst e; exact Or.inr (by omega)
                    · exact Or.inl ⟨j, j0, by omega, j2⟩) (by omega) (fun j g0 g1 => by first | exact hfr j (by omega) g1 | (rw [up_n _ _ (by omega)]; exact hfr j (by omega) g1)) (by
            first
              | (rw [kfl_n hi.1 hnf]; exact hv)
              | (rw [kfl_y hi.1 hf, ← hv, rg_s _ hkp.1, up_s, hfr i (by omega) (by omega)]
                 congr 1
                 exact rg_ext (fun k g0 g1 => up_n _ _ (by omega))))
        · skip
          refine i_iload_n (j := 3) (q := 36) C rfl rfl dX2_keepFirstOfEachMeaning_35 rfl ?_
          refine i_iload (j := 0) (q := 38) C rfl dX2_keepFirstOfEachMeaning_36 rfl ?_
          refine i_ishr (z := ((sn / 2 ^ mn : Nat) : Int)) (q := 39) C (sb_shr hs1 (by omega)) dX2_keepFirstOfEachMeaning_38 rfl ?_
          refine i_iconst (q := 40) C dX2_keepFirstOfEachMeaning_39 rfl ?_
          refine i_iand (z := ((sn / 2 ^ mn % 2 : Nat) : Int)) (q := 41) C (sb_and (Nat.lt_of_le_of_lt (Nat.div_le_self _ _) hs1)) dX2_keepFirstOfEachMeaning_40 rfl ?_
          refine i_if_ne (tgt := 67) (q := 44) C (by omega) dX2_keepFirstOfEachMeaning_41 (by decide) rfl (fun c_41 => ?_) (fun c_41 => ?_)
          · skip
            have htb : ¬ fsh me so i → sn.testBit mn = true := fun _ => by
              cases hc : sn.testBit mn with
              | true => rfl
              | false => exact absurd (by rw [(sb_bit sn mn).mpr hc]; rfl) c_41
            have hnf : ¬ fsh me so i := fun z => by
              rcases z with z | z
              · exact c_32 (by rw [← z, hmn])
              · have htb : sn.testBit mn = true := by
                  cases hc : sn.testBit mn with
                  | true => rfl
                  | false => exact absurd (by rw [(sb_bit sn mn).mpr hc]; rfl) c_41
                obtain ⟨j, j0, j1, j2⟩ := (hsn mn (by omega)).mp htb
                exact z j j0 j1 (by rw [j2, hmn])
            refine i_iinc (j := 5) (q := 70) (lv' := [(4, vI (i + 1)), (5, vI (((mn : Nat) : Int))), (0, vP (al 0)), (1, vP (ab 0)), (2, vI (((sn : Nat) : Int))), (3, vI kp)]) C rfl (by decide) rfl dX2_keepFirstOfEachMeaning_67 rfl ?_
            refine i_goto (q := 7) C dX2_keepFirstOfEachMeaning_70 (by decide) ?_
            refine V.lv [2, 3, 4, 5, 0] rfl ?_
            exact ih_7 (i + 1) (sn) (kp) (so4) (by omega) (by omega) (by first | exact (fun (_ : ¬ fsh me so i) => hs1) hnf | exact (fun (_ : fsh me so i) => sb_lt hs1 (show mn < 10 by omega)) hf) (by
              first
                | exact fun m hm => ⟨fun z => by obtain ⟨j, j0, j1, j2⟩ := (hsn m hm).mp z; exact ⟨j, j0, by omega, j2⟩, fun ⟨j, j0, j1, j2⟩ => by
                    by_cases e : j = i
                    · subst e
                      rw [show m = mn by omega]
                      exact htb hnf
                    · exact (hsn m hm).mpr ⟨j, j0, by omega, j2⟩⟩
                | exact fun m hm => by
                    rw [sb_set, Bool.or_eq_true, decide_eq_true_eq, hsn m hm]
                    constructor
                    · rintro (⟨j, j0, j1, j2⟩ | e)
                      · exact ⟨j, j0, by omega, j2⟩
                      · exact ⟨i, by omega, by omega, by rw [← e, hmn]⟩
                    · rintro ⟨j, j0, j1, j2⟩
                      by_cases e : j = i
                      · subst e; exact Or.inr (by omega)
                      · exact Or.inl ⟨j, j0, by omega, j2⟩) (by omega) (fun j g0 g1 => by first | exact hfr j (by omega) g1 | (rw [up_n _ _ (by omega)]; exact hfr j (by omega) g1)) (by
              first
                | (rw [kfl_n hi.1 hnf]; exact hv)
                | (rw [kfl_y hi.1 hf, ← hv, rg_s _ hkp.1, up_s, hfr i (by omega) (by omega)]
                   congr 1
                   exact rg_ext (fun k g0 g1 => up_n _ _ (by omega))))
          · skip
            have hf : fsh me so i := Or.inr (fun j g0 g1 e => by
              have := (hsn mn (by omega)).mpr ⟨j, g0, g1, by rw [e, hmn]⟩
              have h2 := (sb_bit sn mn).mp (by omega)
              rw [this] at h2; cases h2)
            refine i_iload_n (j := 3) (q := 45) C rfl rfl dX2_keepFirstOfEachMeaning_44 rfl ?_
            refine i_iconst (q := 46) C dX2_keepFirstOfEachMeaning_45 rfl ?_
            refine i_iload (j := 0) (q := 48) C rfl dX2_keepFirstOfEachMeaning_46 rfl ?_
            refine i_ishl (z := ((2 ^ mn : Nat) : Int)) (q := 49) C (sb_one mn (by omega)) dX2_keepFirstOfEachMeaning_48 rfl ?_
            refine i_ior (z := ((sn ||| 2 ^ mn : Nat) : Int)) (q := 50) C (sb_or hs1 (by omega)) dX2_keepFirstOfEachMeaning_49 rfl ?_
            refine i_istore_n (q := 51) (lv' := [(2, vI (((sn ||| 2 ^ mn : Nat) : Int))), (5, vI (((mn : Nat) : Int))), (0, vP (al 0)), (1, vP (ab 0)), (3, vI kp), (4, vI i)]) C rfl (by decide) rfl dX2_keepFirstOfEachMeaning_50 rfl ?_
            refine i_aload_n (j := 2) (q := 52) C rfl rfl dX2_keepFirstOfEachMeaning_51 rfl ?_
            refine i_get (i := 0) (j := 0) (f := 0) (q := 55) C rfl rfl rfl hi_X2_keepFirstOfEachMeaning_X2 (by decide) lk_X2_keepFirstOfEachMeaning_9 rfl dX2_keepFirstOfEachMeaning_52 rfl ?_
            refine i_iload_n (j := 4) (q := 56) C rfl rfl dX2_keepFirstOfEachMeaning_55 rfl ?_
            refine i_aload_n (j := 2) (q := 57) C rfl rfl dX2_keepFirstOfEachMeaning_56 rfl ?_
            refine i_get (i := 0) (j := 0) (f := 0) (q := 60) C rfl rfl rfl hi_X2_keepFirstOfEachMeaning_X2 (by decide) lk_X2_keepFirstOfEachMeaning_9 rfl dX2_keepFirstOfEachMeaning_57 rfl ?_
            refine i_iload (j := 5) (q := 62) C rfl dX2_keepFirstOfEachMeaning_60 rfl ?_
            refine i_iald (i := 0) (j := 1) (q := 63) C rfl rfl (by omega) dX2_keepFirstOfEachMeaning_62 rfl ?_
            refine i_iast (i := 0) (j := 1) (q := 64) (cs' := [liW al (up so4 kp (so4 i), ra, lc), bkW ab (nu, wo, sc, me, us, la, ct, gv, kd, sl)]) C rfl rfl (by omega) dX2_keepFirstOfEachMeaning_63 rfl rfl ?_
            refine i_iinc (j := 4) (q := 67) (lv' := [(3, vI (kp + 1)), (2, vI (((sn ||| 2 ^ mn : Nat) : Int))), (5, vI (((mn : Nat) : Int))), (0, vP (al 0)), (1, vP (ab 0)), (4, vI i)]) C rfl (by decide) rfl dX2_keepFirstOfEachMeaning_64 rfl ?_
            refine i_iinc (j := 5) (q := 70) (lv' := [(4, vI (i + 1)), (3, vI (kp + 1)), (2, vI (((sn ||| 2 ^ mn : Nat) : Int))), (5, vI (((mn : Nat) : Int))), (0, vP (al 0)), (1, vP (ab 0))]) C rfl (by decide) rfl dX2_keepFirstOfEachMeaning_67 rfl ?_
            refine i_goto (q := 7) C dX2_keepFirstOfEachMeaning_70 (by decide) ?_
            refine V.lv [4, 5, 2, 1, 0] rfl ?_
            exact ih_7 (i + 1) (sn ||| 2 ^ mn) (kp + 1) (up so4 kp (so4 i)) (by omega) (by omega) (by first | exact (fun (_ : ¬ fsh me so i) => hs1) hnf | exact (fun (_ : fsh me so i) => sb_lt hs1 (show mn < 10 by omega)) hf) (by
              first
                | exact fun m hm => ⟨fun z => by obtain ⟨j, j0, j1, j2⟩ := (hsn m hm).mp z; exact ⟨j, j0, by omega, j2⟩, fun ⟨j, j0, j1, j2⟩ => by
                    by_cases e : j = i
                    · subst e
                      rw [show m = mn by omega]
                      exact htb hnf
                    · exact (hsn m hm).mpr ⟨j, j0, by omega, j2⟩⟩
                | exact fun m hm => by
                    rw [sb_set, Bool.or_eq_true, decide_eq_true_eq, hsn m hm]
                    constructor
                    · rintro (⟨j, j0, j1, j2⟩ | e)
                      · exact ⟨j, j0, by omega, j2⟩
                      · exact ⟨i, by omega, by omega, by rw [← e, hmn]⟩
                    · rintro ⟨j, j0, j1, j2⟩
                      by_cases e : j = i
                      · subst e; exact Or.inr (by omega)
                      · exact Or.inl ⟨j, j0, by omega, j2⟩) (by omega) (fun j g0 g1 => by first | exact hfr j (by omega) g1 | (rw [up_n _ _ (by omega)]; exact hfr j (by omega) g1)) (by
              first
                | (rw [kfl_n hi.1 hnf]; exact hv)
                | (rw [kfl_y hi.1 hf, ← hv, rg_s _ hkp.1, up_s, hfr i (by omega) (by omega)]
                   congr 1
                   exact rg_ext (fun k g0 g1 => up_n _ _ (by omega))))
  refine V.lv [3, 4, 2, 1, 0] rfl ?_
  exact loop_7 _ (0) (0) (0) (so) (Nat.lt_succ_self _) (by omega) (by decide) (fun m _ => ⟨fun z => by simp at z, fun ⟨j, j0, j1, _⟩ => by omega⟩) (by omega) (fun j _ _ => rfl) (rfl)

theorem lk_X7_listedAt_26 : Cond.fieldLink RX7 26 (TX7 2).1 (TX7 2).2.1 (TX7 2).2.2.1 ∈ wsX7_listedAt := List.mem_of_getElem? (i := 1) rfl
theorem hi_X7_listedAt_X7 : ∀ w ∈ u_ws RX7 TX7 9, w ∈ wsX7_listedAt := by decide +kernel
theorem lk_X7_listedAt_10 : Cond.fieldLink RX7 10 (TX7 0).1 (TX7 0).2.1 (TX7 0).2.2.1 ∈ wsX7_listedAt := List.mem_of_getElem? (i := 2) rfl
theorem hd_X2_keepFirstOfEachMeaning : yX2_keepFirstOfEachMeaning.cls = RX2 ∧ yX2_keepFirstOfEachMeaning.cls ≠ "java/lang/invoke/MethodHandle" ∧ yX2_keepFirstOfEachMeaning.cls ≠ "java/lang/invoke/VarHandle" ∧ (parseMethodDescriptor yX2_keepFirstOfEachMeaning.desc).map (fun d => d.parameters.length) = some 1 := by decide +kernel
theorem lk_X7_listedAt_250 : Cond.fieldLink RX7 250 (TX2 2).1 (TX2 2).2.1 (TX2 2).2.2.1 ∈ wsX7_listedAt := List.mem_of_getElem? (i := 3) rfl
theorem hi_X7_listedAt_X2 : ∀ w ∈ u_ws RX2 TX2 3, w ∈ wsX7_listedAt := by decide +kernel
theorem lk_X7_listedAt_197 : Cond.fieldLink RX7 197 (TX0 0).1 (TX0 0).2.1 (TX0 0).2.2.1 ∈ wsX7_listedAt := List.mem_of_getElem? (i := 4) rfl
theorem hi_X7_listedAt_X0 : ∀ w ∈ u_ws RX0 TX0 10, w ∈ wsX7_listedAt := by decide +kernel
theorem lk_X7_listedAt_251 : Cond.fieldLink RX7 251 (TX2 0).1 (TX2 0).2.1 (TX2 0).2.2.1 ∈ wsX7_listedAt := List.mem_of_getElem? (i := 5) rfl
set_option maxHeartbeats 400000 in
set_option maxRecDepth 100000 in
theorem c_X7_listedAt (K : KT) (l : Launch) (ax : Nat → Nat) (ap : Nat → Nat) (al : Nat → Nat) (ao : Nat → Nat) (td : Int) (ck : Int) (ba : Int) (no : Int) (fu : Int) (ab : Nat → Nat) (nu : Int → Int) (wo : Int → Int) (sc : Int → Int) (me : Int → Int) (us : Int → Int) (la : Int → Int) (ct : Int) (gv : Int) (kd : Int) (sl : Int) (U : Int) (o : Bo) (al : Nat → Nat) (so : Int → Int) (ra : Int → Int) (lc : Int) (x : Int) (hb : rpB U nu wo sc me us la ct gv kd sl o) (hx : rI x) (hlc : 0 ≤ lc ∧ lc ≤ 40) (hso : ∀ j, 0 ≤ j → j < lc → 0 ≤ so j ∧ so j < ct) : Mt K l yX7_listedAt wsX7_listedAt ({ frames := 1, cells := 0, slots := 0, locals := 25 }) [vP (ax 0), vI x] [boW ax ab ap al ao (td, ck, ba, no, fu), bkW ab (nu, wo, sc, me, us, la, ct, gv, kd, sl), liW al (so, ra, lc)] 0 0 (fun v w => ∃ so3 : Int → Int, ∃ kp3 : Int, v = some (vI (if x = -1 then ((kfl me so lc.toNat).length : Int) else if 0 ≤ x ∧ x < (kfl me so lc.toNat).length then nu ((kfl me so lc.toNat).getD x.toNat 0) else -5)) ∧ w = [boW ax ab ap al ao (td, ck, ba, no, fu), bkW ab (nu, wo, sc, me, us, la, ct, gv, kd, sl), liW al (so3, ra, kp3)]) := by
  refine Mt.of (own := RX7) (cc := cX7_listedAt) (maxL := 2) (ret := (some .int)) (lv0 := [(0, vP (ax 0)), (1, vI x)]) (by decide) rfl rfl (Nat.le_of_ble_eq_true rfl) rfl (fun X C hR hNm => ?_)
  have hct := hb.xct
  have hgv := hb.xgv
  refine i_aload_n (j := 0) (q := 1) C rfl rfl dX7_listedAt_0 rfl ?_
  refine i_get (i := 0) (j := 0) (f := 2) (q := 4) C rfl rfl rfl hi_X7_listedAt_X7 (by decide) lk_X7_listedAt_26 rfl dX7_listedAt_1 rfl ?_
  refine i_aload_n (j := 0) (q := 5) C rfl rfl dX7_listedAt_4 rfl ?_
  refine i_get (i := 0) (j := 0) (f := 0) (q := 8) C rfl rfl rfl hi_X7_listedAt_X7 (by decide) lk_X7_listedAt_10 rfl dX7_listedAt_5 rfl ?_
  refine i_callV (wr := [boW ax ab ap al ao (td, ck, ba, no, fu)]) (As := [vP (ab 0)]) (st := []) (i := 0) (j := 0) (q := 11) C (c_X2_keepFirstOfEachMeaning K l (al) (so) (ra) (lc) (ab) (nu) (wo) (sc) (me) (us) (la) (ct) (gv) (kd) (sl) (by omega) (fun j g0 g1 => by have h1 := hso j g0 g1; have h2 := hb.xme (so j) h1.1 h1.2; omega)) gX7_listedAt_X2_keepFirstOfEachMeaning rfl hd_X2_keepFirstOfEachMeaning ⟨Nat.le_of_ble_eq_true rfl, Nat.le_of_ble_eq_true rfl⟩ ⟨rfl, rfl⟩ ⟨Nat.le_of_ble_eq_true rfl, Nat.le_of_ble_eq_true rfl⟩ (permBy [2, 1, 0] (by decide) rfl rfl) rfl rfl rfl rfl (Nat.le_of_ble_eq_true rfl) dX7_listedAt_8 rfl (fun v w hq => ?_)
  obtain ⟨so3_8, kp3_8, rfl, rfl, hk_8⟩ := hq
  show V X 0 0 11 [(0, vP (ax 0)), (1, vI x)] [] [liW al (so3_8, ra, kp3_8), bkW ab (nu, wo, sc, me, us, la, ct, gv, kd, sl), boW ax ab ap al ao (td, ck, ba, no, fu)]
  refine V.perm (cs' := [boW ax ab ap al ao (td, ck, ba, no, fu), bkW ab (nu, wo, sc, me, us, la, ct, gv, kd, sl), liW al (so3_8, ra, kp3_8)]) (permBy [2, 1, 0] (by decide) rfl rfl) ?_
  have hkl : kp3_8 = ((kfl me so lc.toNat).length : Int) := by rw [← hk_8.2.2, rg_len]; omega
  refine i_iload_n (j := 1) (q := 12) C rfl rfl dX7_listedAt_11 rfl ?_
  refine i_iconst (q := 13) C dX7_listedAt_12 rfl ?_
  refine i_icmp_ne (tgt := 24) (q := 16) C (by omega) (by omega) dX7_listedAt_13 (by decide) rfl (fun c_13 => ?_) (fun c_13 => ?_)
  · skip
    refine i_iload_n (j := 1) (q := 25) C rfl rfl dX7_listedAt_24 rfl ?_
    refine i_if_lt (tgt := 39) (q := 28) C (by omega) dX7_listedAt_25 (by decide) rfl (fun c_25 => ?_) (fun c_25 => ?_)
    · skip
      refine i_bipush (q := 41) C (by decide) dX7_listedAt_39 rfl ?_
      refine i_iret C hR dX7_listedAt_41 ?_
      exact ⟨so3_8, kp3_8, by rw [if_neg c_13, if_neg (by omega)], rfl⟩
    · skip
      refine i_iload_n (j := 1) (q := 29) C rfl rfl dX7_listedAt_28 rfl ?_
      refine i_aload_n (j := 0) (q := 30) C rfl rfl dX7_listedAt_29 rfl ?_
      refine i_get (i := 0) (j := 0) (f := 2) (q := 33) C rfl rfl rfl hi_X7_listedAt_X7 (by decide) lk_X7_listedAt_26 rfl dX7_listedAt_30 rfl ?_
      refine i_get (i := 2) (j := 0) (f := 2) (q := 36) C rfl rfl rfl hi_X7_listedAt_X2 (by decide) lk_X7_listedAt_250 rfl dX7_listedAt_33 rfl ?_
      refine i_icmp_lt (tgt := 42) (q := 39) C (by omega) (by omega) dX7_listedAt_36 (by decide) rfl (fun c_36 => ?_) (fun c_36 => ?_)
      · skip
        refine i_aload_n (j := 0) (q := 43) C rfl rfl dX7_listedAt_42 rfl ?_
        refine i_get (i := 0) (j := 0) (f := 0) (q := 46) C rfl rfl rfl hi_X7_listedAt_X7 (by decide) lk_X7_listedAt_10 rfl dX7_listedAt_43 rfl ?_
        refine i_get (i := 1) (j := 0) (f := 0) (q := 49) C rfl rfl rfl hi_X7_listedAt_X0 (by decide) lk_X7_listedAt_197 rfl dX7_listedAt_46 rfl ?_
        refine i_aload_n (j := 0) (q := 50) C rfl rfl dX7_listedAt_49 rfl ?_
        refine i_get (i := 0) (j := 0) (f := 2) (q := 53) C rfl rfl rfl hi_X7_listedAt_X7 (by decide) lk_X7_listedAt_26 rfl dX7_listedAt_50 rfl ?_
        refine i_get (i := 2) (j := 0) (f := 0) (q := 56) C rfl rfl rfl hi_X7_listedAt_X2 (by decide) lk_X7_listedAt_251 rfl dX7_listedAt_53 rfl ?_
        refine i_iload_n (j := 1) (q := 57) C rfl rfl dX7_listedAt_56 rfl ?_
        have hat : (kfl me so lc.toNat).getD x.toNat 0 = so3_8 x := by rw [← hk_8.2.2, rg_getD _ _ (by omega), if_pos (by omega)]
        refine i_iald (i := 2) (j := 1) (q := 58) C rfl rfl (by omega) dX7_listedAt_57 rfl ?_
        refine i_iald (i := 1) (j := 1) (q := 59) C rfl rfl (by
          have hm : so3_8 x ∈ kfl me so lc.toNat := by
            rw [← hk_8.2.2]
            exact List.mem_of_getElem? (i := x.toNat) (by rw [rg_at _ (by omega), Int.toNat_of_nonneg (by omega)])
          obtain ⟨j, j0, j1, j2⟩ := kfl_mem hm
          have := hso j j0 (by omega)
          omega) dX7_listedAt_58 rfl ?_
        refine i_iret C hR dX7_listedAt_59 ?_
        exact ⟨so3_8, kp3_8, by rw [if_neg c_13, if_pos (by omega), hat], rfl⟩
      · skip
        refine i_bipush (q := 41) C (by decide) dX7_listedAt_39 rfl ?_
        refine i_iret C hR dX7_listedAt_41 ?_
        exact ⟨so3_8, kp3_8, by rw [if_neg c_13, if_neg (by omega)], rfl⟩
  · skip
    refine i_aload_n (j := 0) (q := 17) C rfl rfl dX7_listedAt_16 rfl ?_
    refine i_get (i := 0) (j := 0) (f := 2) (q := 20) C rfl rfl rfl hi_X7_listedAt_X7 (by decide) lk_X7_listedAt_26 rfl dX7_listedAt_17 rfl ?_
    refine i_get (i := 2) (j := 0) (f := 2) (q := 23) C rfl rfl rfl hi_X7_listedAt_X2 (by decide) lk_X7_listedAt_250 rfl dX7_listedAt_20 rfl ?_
    refine i_iret C hR dX7_listedAt_23 ?_
    exact ⟨so3_8, kp3_8, by rw [if_pos c_13, hkl], rfl⟩

theorem lk_X4_forget_17 : Cond.fieldLink RX4 17 (TX4 1).1 (TX4 1).2.1 (TX4 1).2.2.1 ∈ wsX4_forget := List.mem_of_getElem? (i := 1) rfl
theorem hi_X4_forget_X4 : ∀ w ∈ u_ws RX4 TX4 3, w ∈ wsX4_forget := by decide +kernel
theorem lk_X4_forget_21 : Cond.fieldLink RX4 21 (TX4 2).1 (TX4 2).2.1 (TX4 2).2.2.1 ∈ wsX4_forget := List.mem_of_getElem? (i := 2) rfl
set_option maxHeartbeats 400000 in
set_option maxRecDepth 100000 in
theorem c_X4_forget (K : KT) (l : Launch) (ap : Nat → Nat) (ak : Int → Nat → Nat) (nx : Int) (pc : Int)  : Mt K l yX4_forget wsX4_forget ({ frames := 0, cells := 0, slots := 0, locals := 0 }) [vP (ap 0)] [paW ap ak (nx, pc)] 0 0 (fun v w => v = none ∧ w = [paW ap ak (0, 0)]) := by
  refine Mt.of (own := RX4) (cc := cX4_forget) (maxL := 1) (ret := none) (lv0 := [(0, vP (ap 0))]) (by decide) rfl rfl (Nat.le_of_ble_eq_true rfl) rfl (fun X C hR hNm => ?_)
  refine i_aload_n (j := 0) (q := 1) C rfl rfl dX4_forget_0 rfl ?_
  refine i_iconst (q := 2) C dX4_forget_1 rfl ?_
  refine i_putI (i := 0) (j := 0) (f := 1) (q := 5) (cs' := [paW ap ak (0, pc)]) C rfl rfl rfl hi_X4_forget_X4 tyX4 tyX4_ok nmX4 (by decide) (Nat.le_of_ble_eq_true rfl) lk_X4_forget_17 rfl rfl dX4_forget_2 rfl rfl ?_
  refine i_aload_n (j := 0) (q := 6) C rfl rfl dX4_forget_5 rfl ?_
  refine i_iconst (q := 7) C dX4_forget_6 rfl ?_
  refine i_putI (i := 0) (j := 0) (f := 2) (q := 10) (cs' := [paW ap ak (0, 0)]) C rfl rfl rfl hi_X4_forget_X4 tyX4 tyX4_ok nmX4 (by decide) (Nat.le_of_ble_eq_true rfl) lk_X4_forget_21 rfl rfl dX4_forget_7 rfl rfl ?_
  refine i_vret C hR dX4_forget_10 ?_
  exact ⟨rfl, rfl⟩

theorem lk_X4_remember_11 : Cond.fieldLink RX4 11 (TX4 0).1 (TX4 0).2.1 (TX4 0).2.2.1 ∈ wsX4_remember := List.mem_of_getElem? (i := 1) rfl
theorem hi_X4_remember_X4 : ∀ w ∈ u_ws RX4 TX4 3, w ∈ wsX4_remember := by decide +kernel
theorem lk_X4_remember_17 : Cond.fieldLink RX4 17 (TX4 1).1 (TX4 1).2.1 (TX4 1).2.2.1 ∈ wsX4_remember := List.mem_of_getElem? (i := 2) rfl
theorem hd_X0_copyFrom : yX0_copyFrom.cls = RX0 ∧ yX0_copyFrom.cls ≠ "java/lang/invoke/MethodHandle" ∧ yX0_copyFrom.cls ≠ "java/lang/invoke/VarHandle" ∧ (parseMethodDescriptor yX0_copyFrom.desc).map (fun d => d.parameters.length) = some 1 := by decide +kernel
theorem lk_X4_remember_21 : Cond.fieldLink RX4 21 (TX4 2).1 (TX4 2).2.1 (TX4 2).2.2.1 ∈ wsX4_remember := List.mem_of_getElem? (i := 3) rfl
set_option maxHeartbeats 400000 in
set_option maxRecDepth 100000 in
theorem c_X4_remember (K : KT) (l : Launch) (ap : Nat → Nat) (ak : Int → Nat → Nat) (nx : Int) (pc : Int) (Bs : Int → Bk) (ab : Nat → Nat) (nu : Int → Int) (wo : Int → Int) (sc : Int → Int) (me : Int → Int) (us : Int → Int) (la : Int → Int) (ct : Int) (gv : Int) (kd : Int) (sl : Int) (hnx : 0 ≤ nx ∧ nx < 12) (hpc : 0 ≤ pc ∧ pc ≤ 12) (hct : 0 ≤ ct ∧ ct ≤ 40) : Mt K l yX4_remember wsX4_remember ({ frames := 2, cells := 0, slots := 0, locals := 45 }) [vP (ap 0), vP (ab 0)] [paW ap ak (nx, pc), bkW ab (nu, wo, sc, me, us, la, ct, gv, kd, sl), kbW ak Bs] 0 0 (fun v w => ∃ nu3 : Int → Int, ∃ wo3 : Int → Int, ∃ sc3 : Int → Int, ∃ me3 : Int → Int, ∃ us3 : Int → Int, ∃ la3 : Int → Int, v = none ∧ w = [paW ap ak (if nx + 1 < 12 then nx + 1 else 0, min (pc + 1) 12), bkW ab (nu, wo, sc, me, us, la, ct, gv, kd, sl), kbW ak (up Bs nx (nu3, wo3, sc3, me3, us3, la3, ct, gv, kd, sl))] ∧ (∀ j, 0 ≤ j → j < ct → nu3 j = nu j ∧ wo3 j = wo j ∧ sc3 j = sc j ∧ me3 j = me j ∧ us3 j = us j ∧ la3 j = la j)) := by
  refine Mt.of (own := RX4) (cc := cX4_remember) (maxL := 3) (ret := none) (lv0 := [(0, vP (ap 0)), (1, vP (ab 0))]) (by decide) rfl rfl (Nat.le_of_ble_eq_true rfl) rfl (fun X C hR hNm => ?_)
  refine i_aload_n (j := 0) (q := 1) C rfl rfl dX4_remember_0 rfl ?_
  refine i_get (i := 0) (j := 0) (f := 0) (q := 4) C rfl rfl rfl hi_X4_remember_X4 (by decide) lk_X4_remember_11 rfl dX4_remember_1 rfl ?_
  refine i_aload_n (j := 0) (q := 5) C rfl rfl dX4_remember_4 rfl ?_
  refine i_get (i := 0) (j := 0) (f := 1) (q := 8) C rfl rfl rfl hi_X4_remember_X4 (by decide) lk_X4_remember_17 rfl dX4_remember_5 rfl ?_
  refine i_aald (i := 0) (j := 1) (b := ak nx 0) (q := 9) C rfl rfl (by omega) rfl dX4_remember_8 rfl ?_
  refine i_astore_n (q := 10) (lv' := [(2, vP (ak nx 0)), (0, vP (ap 0)), (1, vP (ab 0))]) C rfl (by decide) rfl dX4_remember_9 rfl ?_
  rcases hB9 : Bs nx with ⟨nu9, wo9, sc9, me9, us9, la9, ct9, gv9, kd9, sl9⟩
  refine V.permF (cs' := [paW ap ak (nx, pc), bkW ab (nu, wo, sc, me, us, la, ct, gv, kd, sl), bkW (ak nx) (nu9, wo9, sc9, me9, us9, la9, ct9, gv9, kd9, sl9), kbR nx ak Bs]) (kb_open (by omega) (by omega) ak Bs hB9) ?_
  refine i_aload_n (j := 0) (q := 11) C rfl rfl dX4_remember_10 rfl ?_
  refine i_ifnull (q := 14) C dX4_remember_11 rfl ?_
  refine i_aload_n (j := 0) (q := 15) C rfl rfl dX4_remember_14 rfl ?_
  refine i_aload_n (j := 2) (q := 16) C rfl rfl dX4_remember_15 rfl ?_
  refine i_callV (wr := [paW ap ak (nx, pc), kbR nx ak Bs]) (As := [vP (ab 0)]) (st := []) (i := 0) (j := 0) (q := 19) C (c_X0_copyFrom K l (ak nx) (nu9) (wo9) (sc9) (me9) (us9) (la9) (ct9) (gv9) (kd9) (sl9) (ab) (nu) (wo) (sc) (me) (us) (la) (ct) (gv) (kd) (sl) (by first | assumption | omega)) gX4_remember_X0_copyFrom rfl hd_X0_copyFrom ⟨Nat.le_of_ble_eq_true rfl, Nat.le_of_ble_eq_true rfl⟩ ⟨rfl, rfl⟩ ⟨Nat.le_of_ble_eq_true rfl, Nat.le_of_ble_eq_true rfl⟩ (permBy [2, 1, 0, 3] (by decide) rfl rfl) rfl rfl rfl rfl (Nat.le_of_ble_eq_true rfl) dX4_remember_16 rfl (fun v w hq => ?_)
  obtain ⟨nu3_16, wo3_16, sc3_16, me3_16, us3_16, la3_16, rfl, rfl, hc_16⟩ := hq
  show V X 0 0 19 [(2, vP (ak nx 0)), (0, vP (ap 0)), (1, vP (ab 0))] [] [bkW (ak nx) (nu3_16, wo3_16, sc3_16, me3_16, us3_16, la3_16, ct, gv, kd, sl), bkW ab (nu, wo, sc, me, us, la, ct, gv, kd, sl), paW ap ak (nx, pc), kbR nx ak Bs]
  refine V.perm (cs' := [paW ap ak (nx, pc), bkW ab (nu, wo, sc, me, us, la, ct, gv, kd, sl), bkW (ak nx) (nu3_16, wo3_16, sc3_16, me3_16, us3_16, la3_16, ct, gv, kd, sl), kbR nx ak Bs]) (permBy [2, 1, 0, 3] (by decide) rfl rfl) ?_
  refine V.permF (cs' := [paW ap ak (nx, pc), bkW ab (nu, wo, sc, me, us, la, ct, gv, kd, sl), kbW ak (up Bs nx (nu3_16, wo3_16, sc3_16, me3_16, us3_16, la3_16, ct, gv, kd, sl))]) (kb_close (by omega) (by omega) ak Bs _) ?_
  refine i_aload_n (j := 1) (q := 20) C rfl rfl dX4_remember_19 rfl ?_
  have join_41 : ∀ (q : Int), (q = if nx + 1 < 12 then nx + 1 else 0) → V X 0 0 41 [(0, vP (ap 0)), (1, vP (ab 0)), (2, vP (ak nx 0))] [vI q, vP (ap 0)] [paW ap ak (nx, pc), bkW ab (nu, wo, sc, me, us, la, ct, gv, kd, sl), kbW ak (up Bs nx (nu3_16, wo3_16, sc3_16, me3_16, us3_16, la3_16, ct, gv, kd, sl))] := by
    intro q hq
    refine i_putI (i := 0) (j := 0) (f := 1) (q := 44) (cs' := [paW ap ak (q, pc), bkW ab (nu, wo, sc, me, us, la, ct, gv, kd, sl), kbW ak (up Bs nx (nu3_16, wo3_16, sc3_16, me3_16, us3_16, la3_16, ct, gv, kd, sl))]) C rfl rfl rfl hi_X4_remember_X4 tyX4 tyX4_ok nmX4 (by decide) (Nat.le_of_ble_eq_true rfl) lk_X4_remember_17 rfl rfl dX4_remember_41 rfl rfl ?_
    refine i_aload_n (j := 0) (q := 45) C rfl rfl dX4_remember_44 rfl ?_
    refine i_aload_n (j := 0) (q := 46) C rfl rfl dX4_remember_45 rfl ?_
    refine i_get (i := 0) (j := 0) (f := 2) (q := 49) C rfl rfl rfl hi_X4_remember_X4 (by decide) lk_X4_remember_21 rfl dX4_remember_46 rfl ?_
    refine i_iconst (q := 50) C dX4_remember_49 rfl ?_
    refine i_iadd (q := 51) C dX4_remember_50 rfl ?_
    refine i_bipush (q := 53) C (by decide) dX4_remember_51 rfl ?_
    refine i_mmin (q := 56) C (by omega) (by omega) (List.mem_of_getElem? (i := 4) rfl) (List.mem_of_getElem? (i := 5) rfl) (List.mem_of_getElem? (i := 6) rfl) (List.mem_of_getElem? (i := 7) rfl) ⟨Nat.le_of_ble_eq_true rfl, Nat.le_of_ble_eq_true rfl⟩ ⟨Nat.le_of_ble_eq_true rfl, Nat.le_of_ble_eq_true rfl⟩ dX4_remember_53 rfl ?_
    refine i_putI (i := 0) (j := 0) (f := 2) (q := 59) (cs' := [paW ap ak (q, min (pc + 1) 12), bkW ab (nu, wo, sc, me, us, la, ct, gv, kd, sl), kbW ak (up Bs nx (nu3_16, wo3_16, sc3_16, me3_16, us3_16, la3_16, ct, gv, kd, sl))]) C rfl rfl rfl hi_X4_remember_X4 tyX4 tyX4_ok nmX4 (by decide) (Nat.le_of_ble_eq_true rfl) lk_X4_remember_21 rfl rfl dX4_remember_56 rfl rfl ?_
    refine i_vret C hR dX4_remember_59 ?_
    subst hq
    exact ⟨nu3_16, wo3_16, sc3_16, me3_16, us3_16, la3_16, rfl, rfl, hc_16⟩
  refine i_aload_n (j := 1) (q := 21) C rfl rfl dX4_remember_20 rfl ?_
  refine i_get (i := 0) (j := 0) (f := 1) (q := 24) C rfl rfl rfl hi_X4_remember_X4 (by decide) lk_X4_remember_17 rfl dX4_remember_21 rfl ?_
  refine i_iconst (q := 25) C dX4_remember_24 rfl ?_
  refine i_iadd (q := 26) C dX4_remember_25 rfl ?_
  refine i_bipush (q := 28) C (by decide) dX4_remember_26 rfl ?_
  refine i_icmp_ge (tgt := 40) (q := 31) C (by omega) (by omega) dX4_remember_28 (by decide) rfl (fun c_28 => ?_) (fun c_28 => ?_)
  · skip
    refine i_iconst (q := 41) C dX4_remember_40 rfl ?_
    refine V.lv [1, 2, 0] rfl ?_
    exact join_41 (0) (by split <;> omega)
  · skip
    refine i_aload_n (j := 1) (q := 32) C rfl rfl dX4_remember_31 rfl ?_
    refine i_get (i := 0) (j := 0) (f := 1) (q := 35) C rfl rfl rfl hi_X4_remember_X4 (by decide) lk_X4_remember_17 rfl dX4_remember_32 rfl ?_
    refine i_iconst (q := 36) C dX4_remember_35 rfl ?_
    refine i_iadd (q := 37) C dX4_remember_36 rfl ?_
    refine i_goto (q := 41) C dX4_remember_37 (by decide) ?_
    refine V.lv [1, 2, 0] rfl ?_
    exact join_41 (nx + 1) (by split <;> omega)

theorem lk_X4_bringBack_11 : Cond.fieldLink RX4 11 (TX4 0).1 (TX4 0).2.1 (TX4 0).2.2.1 ∈ wsX4_bringBack := List.mem_of_getElem? (i := 2) rfl
theorem hi_X4_bringBack_X4 : ∀ w ∈ u_ws RX4 TX4 3, w ∈ wsX4_bringBack := by decide +kernel
theorem lk_X4_bringBack_21 : Cond.fieldLink RX4 21 (TX4 2).1 (TX4 2).2.1 (TX4 2).2.2.1 ∈ wsX4_bringBack := List.mem_of_getElem? (i := 3) rfl
theorem lk_X4_bringBack_17 : Cond.fieldLink RX4 17 (TX4 1).1 (TX4 1).2.1 (TX4 1).2.2.1 ∈ wsX4_bringBack := List.mem_of_getElem? (i := 1) rfl
set_option maxHeartbeats 400000 in
set_option maxRecDepth 100000 in
theorem c_X4_bringBack (K : KT) (l : Launch) (ap : Nat → Nat) (ak : Int → Nat → Nat) (nx : Int) (pc : Int) (Bs : Int → Bk) (ab : Nat → Nat) (nu : Int → Int) (wo : Int → Int) (sc : Int → Int) (me : Int → Int) (us : Int → Int) (la : Int → Int) (ct : Int) (gv : Int) (kd : Int) (sl : Int) (hnx : 0 ≤ nx ∧ nx < 12) (hpc : 0 ≤ pc ∧ pc ≤ 12) (hp0 : 0 < pc) (hk : ∀ i, 0 ≤ i → i < 12 → i = (if 0 < nx then nx - 1 else 11) → 0 ≤ (Bs i).2.2.2.2.2.2.1 ∧ (Bs i).2.2.2.2.2.2.1 ≤ 40) : Mt K l yX4_bringBack wsX4_bringBack ({ frames := 2, cells := 0, slots := 0, locals := 45 }) [vP (ap 0), vP (ab 0)] [paW ap ak (nx, pc), bkW ab (nu, wo, sc, me, us, la, ct, gv, kd, sl), kbW ak Bs] 0 0 (fun v w => ∃ nu3 : Int → Int, ∃ wo3 : Int → Int, ∃ sc3 : Int → Int, ∃ me3 : Int → Int, ∃ us3 : Int → Int, ∃ la3 : Int → Int, ∃ ct3 : Int, ∃ gv3 : Int, ∃ kd3 : Int, ∃ sl3 : Int, ∃ Bs3 : Int → Bk, v = none ∧ w = [paW ap ak (if 0 < nx then nx - 1 else 11, pc - 1), bkW ab (nu3, wo3, sc3, me3, us3, la3, ct3, gv3, kd3, sl3), kbW ak Bs3] ∧ (Bs3 = Bs ∧ ∃ nu9 wo9 sc9 me9 us9 la9 : Int → Int, Bs (if 0 < nx then nx - 1 else 11) = (nu9, wo9, sc9, me9, us9, la9, ct3, gv3, kd3, sl3) ∧ ∀ j, 0 ≤ j → j < ct3 → nu3 j = nu9 j ∧ wo3 j = wo9 j ∧ sc3 j = sc9 j ∧ me3 j = me9 j ∧ us3 j = us9 j ∧ la3 j = la9 j)) := by
  refine Mt.of (own := RX4) (cc := cX4_bringBack) (maxL := 4) (ret := none) (lv0 := [(0, vP (ap 0)), (1, vP (ab 0))]) (by decide) rfl rfl (Nat.le_of_ble_eq_true rfl) rfl (fun X C hR hNm => ?_)
  have join_18 : ∀ (q : Int), (q = if 0 < nx then nx - 1 else 11) → V X 0 0 18 [(0, vP (ap 0)), (1, vP (ab 0))] [vI q] [paW ap ak (nx, pc), bkW ab (nu, wo, sc, me, us, la, ct, gv, kd, sl), kbW ak Bs] := by
    intro q hq
    have hq2 : 0 ≤ q ∧ q < 12 := by rw [hq]; split <;> omega
    refine i_istore_n (q := 19) (lv' := [(2, vI q), (0, vP (ap 0)), (1, vP (ab 0))]) C rfl (by decide) rfl dX4_bringBack_18 rfl ?_
    refine i_aload_n (j := 1) (q := 20) C rfl rfl dX4_bringBack_19 rfl ?_
    refine i_get (i := 0) (j := 0) (f := 0) (q := 23) C rfl rfl rfl hi_X4_bringBack_X4 (by decide) lk_X4_bringBack_11 rfl dX4_bringBack_20 rfl ?_
    refine i_iload_n (j := 0) (q := 24) C rfl rfl dX4_bringBack_23 rfl ?_
    refine i_aald (i := 0) (j := 1) (b := ak q 0) (q := 25) C rfl rfl (by omega) rfl dX4_bringBack_24 rfl ?_
    refine i_astore_n (q := 26) (lv' := [(3, vP (ak q 0)), (2, vI q), (0, vP (ap 0)), (1, vP (ab 0))]) C rfl (by decide) rfl dX4_bringBack_25 rfl ?_
    rcases hB9 : Bs q with ⟨nu9, wo9, sc9, me9, us9, la9, ct9, gv9, kd9, sl9⟩
    refine V.permF (cs' := [paW ap ak (nx, pc), bkW ab (nu, wo, sc, me, us, la, ct, gv, kd, sl), bkW (ak q) (nu9, wo9, sc9, me9, us9, la9, ct9, gv9, kd9, sl9), kbR q ak Bs]) (kb_open (by omega) (by omega) ak Bs hB9) ?_
    refine i_aload_n (j := 0) (q := 27) C rfl rfl dX4_bringBack_26 rfl ?_
    refine i_ifnull (q := 30) C dX4_bringBack_27 rfl ?_
    refine i_aload_n (j := 2) (q := 31) C rfl rfl dX4_bringBack_30 rfl ?_
    refine i_get (i := 0) (j := 0) (f := 2) (q := 34) C rfl rfl rfl hi_X4_bringBack_X4 (by decide) lk_X4_bringBack_21 rfl dX4_bringBack_31 rfl ?_
    refine i_if_le (tgt := 57) (q := 37) C (by omega) dX4_bringBack_34 (by decide) rfl (fun c_34 => ?_) (fun c_34 => ?_)
    · skip
      exact absurd c_34 (by omega)
    · skip
      refine i_aload_n (j := 3) (q := 38) C rfl rfl dX4_bringBack_37 rfl ?_
      refine i_aload_n (j := 0) (q := 39) C rfl rfl dX4_bringBack_38 rfl ?_
      refine i_callV (wr := [paW ap ak (nx, pc), kbR q ak Bs]) (As := [vP (ak q 0)]) (st := []) (i := 0) (j := 0) (q := 42) C (c_X0_copyFrom K l (ab) (nu) (wo) (sc) (me) (us) (la) (ct) (gv) (kd) (sl) (ak q) (nu9) (wo9) (sc9) (me9) (us9) (la9) (ct9) (gv9) (kd9) (sl9) (by have := hk q hq2.1 hq2.2 hq; rw [hB9] at this; exact this)) gX4_bringBack_X0_copyFrom rfl hd_X0_copyFrom ⟨Nat.le_of_ble_eq_true rfl, Nat.le_of_ble_eq_true rfl⟩ ⟨rfl, rfl⟩ ⟨Nat.le_of_ble_eq_true rfl, Nat.le_of_ble_eq_true rfl⟩ (permBy [1, 2, 0, 3] (by decide) rfl rfl) rfl rfl rfl rfl (Nat.le_of_ble_eq_true rfl) dX4_bringBack_39 rfl (fun v w hq => ?_)
      obtain ⟨nu3_39, wo3_39, sc3_39, me3_39, us3_39, la3_39, rfl, rfl, hc_39⟩ := hq
      show V X 0 0 42 [(3, vP (ak q 0)), (2, vI q), (0, vP (ap 0)), (1, vP (ab 0))] [] [bkW ab (nu3_39, wo3_39, sc3_39, me3_39, us3_39, la3_39, ct9, gv9, kd9, sl9), bkW (ak q) (nu9, wo9, sc9, me9, us9, la9, ct9, gv9, kd9, sl9), paW ap ak (nx, pc), kbR q ak Bs]
      refine V.perm (cs' := [paW ap ak (nx, pc), bkW ab (nu3_39, wo3_39, sc3_39, me3_39, us3_39, la3_39, ct9, gv9, kd9, sl9), bkW (ak q) (nu9, wo9, sc9, me9, us9, la9, ct9, gv9, kd9, sl9), kbR q ak Bs]) (permBy [2, 0, 1, 3] (by decide) rfl rfl) ?_
      refine V.permF (cs' := [paW ap ak (nx, pc), bkW ab (nu3_39, wo3_39, sc3_39, me3_39, us3_39, la3_39, ct9, gv9, kd9, sl9), kbW ak (up Bs q (nu9, wo9, sc9, me9, us9, la9, ct9, gv9, kd9, sl9))]) (kb_close (by omega) (by omega) ak Bs _) ?_
      refine i_aload_n (j := 2) (q := 43) C rfl rfl dX4_bringBack_42 rfl ?_
      refine i_iload_n (j := 1) (q := 44) C rfl rfl dX4_bringBack_43 rfl ?_
      refine i_putI (i := 0) (j := 0) (f := 1) (q := 47) (cs' := [paW ap ak (q, pc), bkW ab (nu3_39, wo3_39, sc3_39, me3_39, us3_39, la3_39, ct9, gv9, kd9, sl9), kbW ak (up Bs q (nu9, wo9, sc9, me9, us9, la9, ct9, gv9, kd9, sl9))]) C rfl rfl rfl hi_X4_bringBack_X4 tyX4 tyX4_ok nmX4 (by decide) (Nat.le_of_ble_eq_true rfl) lk_X4_bringBack_17 rfl rfl dX4_bringBack_44 rfl rfl ?_
      refine i_aload_n (j := 2) (q := 48) C rfl rfl dX4_bringBack_47 rfl ?_
      refine i_dup (q := 49) C rfl dX4_bringBack_48 rfl ?_
      refine i_get (i := 0) (j := 0) (f := 2) (q := 52) C rfl rfl rfl hi_X4_bringBack_X4 (by decide) lk_X4_bringBack_21 rfl dX4_bringBack_49 rfl ?_
      refine i_iconst (q := 53) C dX4_bringBack_52 rfl ?_
      refine i_isub (q := 54) C dX4_bringBack_53 rfl ?_
      refine i_putI (i := 0) (j := 0) (f := 2) (q := 57) (cs' := [paW ap ak (q, pc - 1), bkW ab (nu3_39, wo3_39, sc3_39, me3_39, us3_39, la3_39, ct9, gv9, kd9, sl9), kbW ak (up Bs q (nu9, wo9, sc9, me9, us9, la9, ct9, gv9, kd9, sl9))]) C rfl rfl rfl hi_X4_bringBack_X4 tyX4 tyX4_ok nmX4 (by decide) (Nat.le_of_ble_eq_true rfl) lk_X4_bringBack_21 rfl rfl dX4_bringBack_54 rfl rfl ?_
      refine i_vret C hR dX4_bringBack_57 ?_
      subst hq
      exact ⟨nu3_39, wo3_39, sc3_39, me3_39, us3_39, la3_39, ct9, gv9, kd9, sl9, _, rfl, rfl, by rw [← hB9]; funext j; unfold up; split <;> simp_all, nu9, wo9, sc9, me9, us9, la9, hB9, hc_39⟩
  refine i_aload_n (j := 0) (q := 1) C rfl rfl dX4_bringBack_0 rfl ?_
  refine i_get (i := 0) (j := 0) (f := 1) (q := 4) C rfl rfl rfl hi_X4_bringBack_X4 (by decide) lk_X4_bringBack_17 rfl dX4_bringBack_1 rfl ?_
  refine i_if_le (tgt := 16) (q := 7) C (by omega) dX4_bringBack_4 (by decide) rfl (fun c_4 => ?_) (fun c_4 => ?_)
  · skip
    refine i_bipush (q := 18) C (by decide) dX4_bringBack_16 rfl ?_
    exact join_18 (11) (by split <;> omega)
  · skip
    refine i_aload_n (j := 0) (q := 8) C rfl rfl dX4_bringBack_7 rfl ?_
    refine i_get (i := 0) (j := 0) (f := 1) (q := 11) C rfl rfl rfl hi_X4_bringBack_X4 (by decide) lk_X4_bringBack_17 rfl dX4_bringBack_8 rfl ?_
    refine i_iconst (q := 12) C dX4_bringBack_11 rfl ?_
    refine i_isub (q := 13) C dX4_bringBack_12 rfl ?_
    refine i_goto (q := 18) C dX4_bringBack_13 (by decide) ?_
    exact join_18 (nx - 1) (by split <;> omega)

theorem lk_X3_makeEmpty_15 : Cond.fieldLink RX3 15 (TX3 1).1 (TX3 1).2.1 (TX3 1).2.2.1 ∈ wsX3_makeEmpty := List.mem_of_getElem? (i := 1) rfl
theorem hi_X3_makeEmpty_X3 : ∀ w ∈ u_ws RX3 TX3 9, w ∈ wsX3_makeEmpty := by decide +kernel
set_option maxHeartbeats 400000 in
set_option maxRecDepth 100000 in
theorem c_X3_makeEmpty (K : KT) (l : Launch) (ao : Nat → Nat) (by_ : Int → Int) (ve : Int → Int) (ow : Int → Int) (fi : Int → Int) (se : Int → Int) (le : Int) (oc : Int) (pl : Int) (fa : Int)  : Mt K l yX3_makeEmpty wsX3_makeEmpty ({ frames := 0, cells := 0, slots := 0, locals := 0 }) [vP (ao 0)] [odW ao (by_, ve, ow, fi, se, le, oc, pl, fa)] 0 0 (fun v w => v = none ∧ w = [odW ao (by_, ve, ow, fi, se, 0, oc, pl, fa)]) := by
  refine Mt.of (own := RX3) (cc := cX3_makeEmpty) (maxL := 1) (ret := none) (lv0 := [(0, vP (ao 0))]) (by decide) rfl rfl (Nat.le_of_ble_eq_true rfl) rfl (fun X C hR hNm => ?_)
  refine i_aload_n (j := 0) (q := 1) C rfl rfl dX3_makeEmpty_0 rfl ?_
  refine i_iconst (q := 2) C dX3_makeEmpty_1 rfl ?_
  refine i_putI (i := 0) (j := 0) (f := 1) (q := 5) (cs' := [odW ao (by_, ve, ow, fi, se, 0, oc, pl, fa)]) C rfl rfl rfl hi_X3_makeEmpty_X3 tyX3 tyX3_ok nmX3 (by decide) (Nat.le_of_ble_eq_true rfl) lk_X3_makeEmpty_15 rfl rfl dX3_makeEmpty_2 rfl rfl ?_
  refine i_vret C hR dX3_makeEmpty_5 ?_
  exact ⟨rfl, rfl⟩

theorem lk_X3_append_15 : Cond.fieldLink RX3 15 (TX3 1).1 (TX3 1).2.1 (TX3 1).2.2.1 ∈ wsX3_append := List.mem_of_getElem? (i := 1) rfl
theorem hi_X3_append_X3 : ∀ w ∈ u_ws RX3 TX3 9, w ∈ wsX3_append := by decide +kernel
theorem lk_X3_append_9 : Cond.fieldLink RX3 9 (TX3 0).1 (TX3 0).2.1 (TX3 0).2.2.1 ∈ wsX3_append := List.mem_of_getElem? (i := 2) rfl
set_option maxHeartbeats 400000 in
set_option maxRecDepth 100000 in
theorem c_X3_append (K : KT) (l : Launch) (ao : Nat → Nat) (by_ : Int → Int) (ve : Int → Int) (ow : Int → Int) (fi : Int → Int) (se : Int → Int) (le : Int) (oc : Int) (pl : Int) (fa : Int) (x : Int) (hle : 0 ≤ le ∧ le ≤ 120) : Mt K l yX3_append wsX3_append ({ frames := 0, cells := 0, slots := 0, locals := 0 }) [vP (ao 0), vI x] [odW ao (by_, ve, ow, fi, se, le, oc, pl, fa)] 0 0 (fun v w => v = some (vI (if le < 120 then 1 else 0)) ∧ w = [odW ao (if le < 120 then up by_ le x else by_, ve, ow, fi, se, if le < 120 then le + 1 else le, oc, pl, fa)]) := by
  refine Mt.of (own := RX3) (cc := cX3_append) (maxL := 2) (ret := (some .boolean)) (lv0 := [(0, vP (ao 0)), (1, vI x)]) (by decide) rfl rfl (Nat.le_of_ble_eq_true rfl) rfl (fun X C hR hNm => ?_)
  refine i_aload_n (j := 0) (q := 1) C rfl rfl dX3_append_0 rfl ?_
  refine i_get (i := 0) (j := 0) (f := 1) (q := 4) C rfl rfl rfl hi_X3_append_X3 (by decide) lk_X3_append_15 rfl dX3_append_1 rfl ?_
  refine i_bipush (q := 6) C (by decide) dX3_append_4 rfl ?_
  refine i_icmp_lt (tgt := 11) (q := 9) C (by omega) (by omega) dX3_append_6 (by decide) rfl (fun c_6 => ?_) (fun c_6 => ?_)
  · skip
    refine i_aload_n (j := 0) (q := 12) C rfl rfl dX3_append_11 rfl ?_
    refine i_get (i := 0) (j := 0) (f := 0) (q := 15) C rfl rfl rfl hi_X3_append_X3 (by decide) lk_X3_append_9 rfl dX3_append_12 rfl ?_
    refine i_aload_n (j := 0) (q := 16) C rfl rfl dX3_append_15 rfl ?_
    refine i_get (i := 0) (j := 0) (f := 1) (q := 19) C rfl rfl rfl hi_X3_append_X3 (by decide) lk_X3_append_15 rfl dX3_append_16 rfl ?_
    refine i_iload_n (j := 1) (q := 20) C rfl rfl dX3_append_19 rfl ?_
    refine i_iast (i := 0) (j := 1) (q := 21) (cs' := [odW ao (up by_ le x, ve, ow, fi, se, le, oc, pl, fa)]) C rfl rfl (by omega) dX3_append_20 rfl rfl ?_
    refine i_aload_n (j := 0) (q := 22) C rfl rfl dX3_append_21 rfl ?_
    refine i_dup (q := 23) C rfl dX3_append_22 rfl ?_
    refine i_get (i := 0) (j := 0) (f := 1) (q := 26) C rfl rfl rfl hi_X3_append_X3 (by decide) lk_X3_append_15 rfl dX3_append_23 rfl ?_
    refine i_iconst (q := 27) C dX3_append_26 rfl ?_
    refine i_iadd (q := 28) C dX3_append_27 rfl ?_
    refine i_putI (i := 0) (j := 0) (f := 1) (q := 31) (cs' := [odW ao (up by_ le x, ve, ow, fi, se, le + 1, oc, pl, fa)]) C rfl rfl rfl hi_X3_append_X3 tyX3 tyX3_ok nmX3 (by decide) (Nat.le_of_ble_eq_true rfl) lk_X3_append_15 rfl rfl dX3_append_28 rfl rfl ?_
    refine i_iconst (q := 32) C dX3_append_31 rfl ?_
    refine i_zret C hR (by omega) dX3_append_32 ?_
    exact ⟨by rw [if_pos (by omega)], by rw [if_pos (by omega), if_pos (by omega)]⟩
  · skip
    refine i_iconst (q := 10) C dX3_append_9 rfl ?_
    refine i_zret C hR (by omega) dX3_append_10 ?_
    exact ⟨by rw [if_neg (by omega)], by rw [if_neg (by omega), if_neg (by omega)]⟩
