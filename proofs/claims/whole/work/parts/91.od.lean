theorem lk_X3_skipBlanks_35 : Cond.fieldLink RX3 35 (TX3 7).1 (TX3 7).2.1 (TX3 7).2.2.1 ∈ wsX3_skipBlanks := List.mem_of_getElem? (i := 1) rfl
theorem hi_X3_skipBlanks_X3 : ∀ w ∈ u_ws RX3 TX3 9, w ∈ wsX3_skipBlanks := by decide +kernel
theorem lk_X3_skipBlanks_15 : Cond.fieldLink RX3 15 (TX3 1).1 (TX3 1).2.1 (TX3 1).2.2.1 ∈ wsX3_skipBlanks := List.mem_of_getElem? (i := 2) rfl
theorem lk_X3_skipBlanks_9 : Cond.fieldLink RX3 9 (TX3 0).1 (TX3 0).2.1 (TX3 0).2.2.1 ∈ wsX3_skipBlanks := List.mem_of_getElem? (i := 3) rfl
set_option maxHeartbeats 400000 in
set_option maxRecDepth 100000 in
theorem c_X3_skipBlanks (K : KT) (l : Launch) (ao : Nat → Nat) (by_ : Int → Int) (ve : Int → Int) (ow : Int → Int) (fi : Int → Int) (se : Int → Int) (le : Int) (oc : Int) (pl : Int) (fa : Int) (hle : 0 ≤ le ∧ le ≤ 120) (hby : ∀ k, 0 ≤ k → k < le → 0 ≤ by_ k ∧ by_ k ≤ 127) (hpl : 0 ≤ pl ∧ pl ≤ le) : Mt K l yX3_skipBlanks wsX3_skipBlanks ({ frames := 0, cells := 0, slots := 0, locals := 0 }) [vP (ao 0)] [odW ao (by_, ve, ow, fi, se, le, oc, pl, fa)] 0 0 (fun v w => v = none ∧ w = [odW ao (by_, ve, ow, fi, se, le, oc, nb (rg by_ le) pl, fa)]) := by
  refine Mt.of (own := RX3) (cc := cX3_skipBlanks) (maxL := 1) (ret := none) (lv0 := [(0, vP (ao 0))]) (by decide) rfl rfl (Nat.le_of_ble_eq_true rfl) rfl (fun X C hR hNm => ?_)
  have loop_0 : ∀ (fuel : Nat) (q : Int), ((le - q).toNat) < fuel → (pl ≤ q ∧ q ≤ le) → (∀ k, pl ≤ k → k < q → by_ k = 32) → V X 0 0 0 [(0, vP (ao 0))] [] [odW ao (by_, ve, ow, fi, se, le, oc, q, fa)] := by
    intro fuel
    induction fuel with
    | zero => intro q hz; exact absurd hz (Nat.not_lt_zero _)
    | succ fuel ih_0 =>
      intro q hfu_0 hq hv
      refine i_aload_n (j := 0) (q := 1) C rfl rfl dX3_skipBlanks_0 rfl ?_
      refine i_get (i := 0) (j := 0) (f := 7) (q := 4) C rfl rfl rfl hi_X3_skipBlanks_X3 (by decide) lk_X3_skipBlanks_35 rfl dX3_skipBlanks_1 rfl ?_
      refine i_aload_n (j := 0) (q := 5) C rfl rfl dX3_skipBlanks_4 rfl ?_
      refine i_get (i := 0) (j := 0) (f := 1) (q := 8) C rfl rfl rfl hi_X3_skipBlanks_X3 (by decide) lk_X3_skipBlanks_15 rfl dX3_skipBlanks_5 rfl ?_
      refine i_icmp_ge (tgt := 38) (q := 11) C (by omega) (by omega) dX3_skipBlanks_8 (by decide) rfl (fun c_8 => ?_) (fun c_8 => ?_)
      · skip
        refine i_vret C hR dX3_skipBlanks_38 ?_
        have hnb : nb (rg by_ le) pl = q := nb_rg hpl.1 hq.1 hq.2 hv (by first | exact Or.inr c_22 | exact Or.inl (by omega))
        exact ⟨rfl, by rw [hnb]⟩
      · skip
        refine i_aload_n (j := 0) (q := 12) C rfl rfl dX3_skipBlanks_11 rfl ?_
        refine i_get (i := 0) (j := 0) (f := 0) (q := 15) C rfl rfl rfl hi_X3_skipBlanks_X3 (by decide) lk_X3_skipBlanks_9 rfl dX3_skipBlanks_12 rfl ?_
        refine i_aload_n (j := 0) (q := 16) C rfl rfl dX3_skipBlanks_15 rfl ?_
        refine i_get (i := 0) (j := 0) (f := 7) (q := 19) C rfl rfl rfl hi_X3_skipBlanks_X3 (by decide) lk_X3_skipBlanks_35 rfl dX3_skipBlanks_16 rfl ?_
        refine i_iald (i := 0) (j := 1) (q := 20) C rfl rfl (by omega) dX3_skipBlanks_19 rfl ?_
        have ld_19 := hby q (by omega) (by omega)
        refine i_bipush (q := 22) C (by decide) dX3_skipBlanks_20 rfl ?_
        refine i_icmp_ne (tgt := 38) (q := 25) C (by omega) (by omega) dX3_skipBlanks_22 (by decide) rfl (fun c_22 => ?_) (fun c_22 => ?_)
        · skip
          refine i_vret C hR dX3_skipBlanks_38 ?_
          have hnb : nb (rg by_ le) pl = q := nb_rg hpl.1 hq.1 hq.2 hv (by first | exact Or.inr c_22 | exact Or.inl (by omega))
          exact ⟨rfl, by rw [hnb]⟩
        · skip
          refine i_aload_n (j := 0) (q := 26) C rfl rfl dX3_skipBlanks_25 rfl ?_
          refine i_dup (q := 27) C rfl dX3_skipBlanks_26 rfl ?_
          refine i_get (i := 0) (j := 0) (f := 7) (q := 30) C rfl rfl rfl hi_X3_skipBlanks_X3 (by decide) lk_X3_skipBlanks_35 rfl dX3_skipBlanks_27 rfl ?_
          refine i_iconst (q := 31) C dX3_skipBlanks_30 rfl ?_
          refine i_iadd (q := 32) C dX3_skipBlanks_31 rfl ?_
          refine i_putI (i := 0) (j := 0) (f := 7) (q := 35) (cs' := [odW ao (by_, ve, ow, fi, se, le, oc, q + 1, fa)]) C rfl rfl rfl hi_X3_skipBlanks_X3 tyX3 tyX3_ok nmX3 (by decide) (Nat.le_of_ble_eq_true rfl) lk_X3_skipBlanks_35 rfl rfl dX3_skipBlanks_32 rfl rfl ?_
          refine i_goto (q := 0) C dX3_skipBlanks_35 (by decide) ?_
          exact ih_0 (q + 1) (by omega) (by omega) (fun k g0 g1 => by
            by_cases e : k = q
            · subst e; exact c_22
            · exact hv k g0 (by omega))
  exact loop_0 _ (pl) (Nat.lt_succ_self _) (by omega) (fun k _ _ => by omega)

theorem hd_X3_skipBlanks : yX3_skipBlanks.cls = RX3 ∧ yX3_skipBlanks.cls ≠ "java/lang/invoke/MethodHandle" ∧ yX3_skipBlanks.cls ≠ "java/lang/invoke/VarHandle" ∧ (parseMethodDescriptor yX3_skipBlanks.desc).map (fun d => d.parameters.length) = some 0 := by decide +kernel
theorem lk_X3_startOfNext_35 : Cond.fieldLink RX3 35 (TX3 7).1 (TX3 7).2.1 (TX3 7).2.2.1 ∈ wsX3_startOfNext := List.mem_of_getElem? (i := 1) rfl
theorem hi_X3_startOfNext_X3 : ∀ w ∈ u_ws RX3 TX3 9, w ∈ wsX3_startOfNext := by decide +kernel
set_option maxHeartbeats 400000 in
set_option maxRecDepth 100000 in
theorem c_X3_startOfNext (K : KT) (l : Launch) (ao : Nat → Nat) (by_ : Int → Int) (ve : Int → Int) (ow : Int → Int) (fi : Int → Int) (se : Int → Int) (le : Int) (oc : Int) (pl : Int) (fa : Int) (hle : 0 ≤ le ∧ le ≤ 120) (hby : ∀ k, 0 ≤ k → k < le → 0 ≤ by_ k ∧ by_ k ≤ 127) (hpl : 0 ≤ pl ∧ pl ≤ le) : Mt K l yX3_startOfNext wsX3_startOfNext ({ frames := 1, cells := 0, slots := 0, locals := 20 }) [vP (ao 0)] [odW ao (by_, ve, ow, fi, se, le, oc, pl, fa)] 0 0 (fun v w => v = some (vI (nb (rg by_ le) pl)) ∧ w = [odW ao (by_, ve, ow, fi, se, le, oc, nb (rg by_ le) pl, fa)]) := by
  refine Mt.of (own := RX3) (cc := cX3_startOfNext) (maxL := 1) (ret := (some .int)) (lv0 := [(0, vP (ao 0))]) (by decide) rfl rfl (Nat.le_of_ble_eq_true rfl) rfl (fun X C hR hNm => ?_)
  refine i_aload_n (j := 0) (q := 1) C rfl rfl dX3_startOfNext_0 rfl ?_
  refine i_callV (wr := []) (As := []) (st := []) (i := 0) (j := 0) (q := 4) C (c_X3_skipBlanks K l (ao) (by_) (ve) (ow) (fi) (se) (le) (oc) (pl) (fa) (by first | assumption | omega) (by first | assumption | omega) (by first | assumption | omega)) gX3_startOfNext_X3_skipBlanks rfl hd_X3_skipBlanks ⟨Nat.le_of_ble_eq_true rfl, Nat.le_of_ble_eq_true rfl⟩ ⟨rfl, rfl⟩ ⟨Nat.le_of_ble_eq_true rfl, Nat.le_of_ble_eq_true rfl⟩ (permBy [0] (by decide) rfl rfl) rfl rfl rfl rfl (Nat.le_of_ble_eq_true rfl) dX3_startOfNext_1 rfl (fun v w hq => ?_)
  obtain ⟨rfl, rfl⟩ := hq
  show V X 0 0 4 [(0, vP (ao 0))] [] [odW ao (by_, ve, ow, fi, se, le, oc, nb (rg by_ le) pl, fa)]
  refine i_aload_n (j := 0) (q := 5) C rfl rfl dX3_startOfNext_4 rfl ?_
  refine i_get (i := 0) (j := 0) (f := 7) (q := 8) C rfl rfl rfl hi_X3_startOfNext_X3 (by decide) lk_X3_startOfNext_35 rfl dX3_startOfNext_5 rfl ?_
  refine i_iret C hR dX3_startOfNext_8 ?_
  exact ⟨rfl, rfl⟩

theorem lk_X3_endOfRun_15 : Cond.fieldLink RX3 15 (TX3 1).1 (TX3 1).2.1 (TX3 1).2.2.1 ∈ wsX3_endOfRun := List.mem_of_getElem? (i := 1) rfl
theorem hi_X3_endOfRun_X3 : ∀ w ∈ u_ws RX3 TX3 9, w ∈ wsX3_endOfRun := by decide +kernel
theorem lk_X3_endOfRun_9 : Cond.fieldLink RX3 9 (TX3 0).1 (TX3 0).2.1 (TX3 0).2.2.1 ∈ wsX3_endOfRun := List.mem_of_getElem? (i := 2) rfl
set_option maxHeartbeats 400000 in
set_option maxRecDepth 100000 in
theorem c_X3_endOfRun (K : KT) (l : Launch) (ao : Nat → Nat) (by_ : Int → Int) (ve : Int → Int) (ow : Int → Int) (fi : Int → Int) (se : Int → Int) (le : Int) (oc : Int) (pl : Int) (fa : Int) (x : Int) (y : Int) (z : Int) (hle : 0 ≤ le ∧ le ≤ 120) (hby : ∀ k, 0 ≤ k → k < le → 0 ≤ by_ k ∧ by_ k ≤ 127) (hx : 0 ≤ x ∧ x ≤ le) (hy : rI y) (hz : rI z) : Mt K l yX3_endOfRun wsX3_endOfRun ({ frames := 1, cells := 0, slots := 0, locals := 22 }) [vP (ao 0), vI x, vI y, vI z] [odW ao (by_, ve, ow, fi, se, le, oc, pl, fa)] 0 0 (fun v w => v = some (vI (x + rn y z (rg by_ le) x)) ∧ w = [odW ao (by_, ve, ow, fi, se, le, oc, pl, fa)]) := by
  refine Mt.of (own := RX3) (cc := cX3_endOfRun) (maxL := 5) (ret := (some .int)) (lv0 := [(0, vP (ao 0)), (1, vI x), (2, vI y), (3, vI z)]) (by decide) rfl rfl (Nat.le_of_ble_eq_true rfl) rfl (fun X C hR hNm => ?_)
  refine i_iload_n (j := 1) (q := 1) C rfl rfl dX3_endOfRun_0 rfl ?_
  refine i_istore (q := 3) (lv' := [(4, vI x), (0, vP (ao 0)), (1, vI x), (2, vI y), (3, vI z)]) C (by decide) rfl dX3_endOfRun_1 rfl ?_
  have loop_3 : ∀ (fuel : Nat) (q : Int), ((le - q).toNat) < fuel → (x ≤ q ∧ q ≤ le) → (∀ k, x ≤ k → k < q → y ≤ by_ k ∧ by_ k ≤ z) → V X 0 0 3 [(0, vP (ao 0)), (1, vI x), (2, vI y), (3, vI z), (4, vI q)] [] [odW ao (by_, ve, ow, fi, se, le, oc, pl, fa)] := by
    intro fuel
    induction fuel with
    | zero => intro q hz; exact absurd hz (Nat.not_lt_zero _)
    | succ fuel ih_3 =>
      intro q hfu_3 hq hv
      refine i_iload (j := 4) (q := 5) C rfl dX3_endOfRun_3 rfl ?_
      refine i_aload_n (j := 0) (q := 6) C rfl rfl dX3_endOfRun_5 rfl ?_
      refine i_get (i := 0) (j := 0) (f := 1) (q := 9) C rfl rfl rfl hi_X3_endOfRun_X3 (by decide) lk_X3_endOfRun_15 rfl dX3_endOfRun_6 rfl ?_
      refine i_icmp_ge (tgt := 33) (q := 12) C (by omega) (by omega) dX3_endOfRun_9 (by decide) rfl (fun c_9 => ?_) (fun c_9 => ?_)
      · skip
        refine i_iload (j := 4) (q := 35) C rfl dX3_endOfRun_33 rfl ?_
        refine i_iret C hR dX3_endOfRun_35 ?_
        have hrn : x + rn y z (rg by_ le) x = q := by
          rw [rn_rg (q := q) hx.1 hq.1 hq.2 hv (by first | exact Or.inr h_24 | exact Or.inl (by omega))]
          omega
        exact ⟨by rw [hrn], rfl⟩
      · skip
        refine i_aload_n (j := 0) (q := 13) C rfl rfl dX3_endOfRun_12 rfl ?_
        refine i_get (i := 0) (j := 0) (f := 0) (q := 16) C rfl rfl rfl hi_X3_endOfRun_X3 (by decide) lk_X3_endOfRun_9 rfl dX3_endOfRun_13 rfl ?_
        refine i_iload (j := 4) (q := 18) C rfl dX3_endOfRun_16 rfl ?_
        refine i_iald (i := 0) (j := 1) (q := 19) C rfl rfl (by omega) dX3_endOfRun_18 rfl ?_
        have ld_18 := hby q (by omega) (by omega)
        refine i_iload_n (j := 2) (q := 20) C rfl rfl dX3_endOfRun_19 rfl ?_
        refine i_iload_n (j := 3) (q := 21) C rfl rfl dX3_endOfRun_20 rfl ?_
        refine i_callSN (host := RX7) (wr := [odW ao (by_, ve, ow, fi, se, le, oc, pl, fa)]) (As := [vI (by_ q), vI y, vI z]) (st := []) (q := 24) C (c_X7_isWithin K l (by_ q) (y) (z) (by omega) (by omega) (by omega)) gX3_endOfRun_X7_isWithin_n113 rfl (by decide) (List.mem_of_getElem? (i := 3) rfl) (List.mem_of_getElem? (i := 4) rfl) hd_X7_isWithin ⟨Nat.le_of_ble_eq_true rfl, Nat.le_of_ble_eq_true rfl⟩ ⟨rfl, rfl⟩ ⟨Nat.le_of_ble_eq_true rfl, Nat.le_of_ble_eq_true rfl⟩ (permBy [0] (by decide) rfl rfl) rfl (Nat.le_of_ble_eq_true rfl) dX3_endOfRun_21 rfl (fun v w hq => ?_)
        obtain ⟨rfl, rfl⟩ := hq
        show V X 0 0 24 [(0, vP (ao 0)), (1, vI x), (2, vI y), (3, vI z), (4, vI q)] [vI (if y ≤ (by_ q) ∧ (by_ q) ≤ z then 1 else 0)] [odW ao (by_, ve, ow, fi, se, le, oc, pl, fa)]
        refine i_if_eq (tgt := 33) (q := 27) C (if01) dX3_endOfRun_24 (by decide) rfl (fun c_24 => ?_) (fun c_24 => ?_)
        · skip
          have h_24 := if0 c_24
          refine i_iload (j := 4) (q := 35) C rfl dX3_endOfRun_33 rfl ?_
          refine i_iret C hR dX3_endOfRun_35 ?_
          have hrn : x + rn y z (rg by_ le) x = q := by
            rw [rn_rg (q := q) hx.1 hq.1 hq.2 hv (by first | exact Or.inr h_24 | exact Or.inl (by omega))]
            omega
          exact ⟨by rw [hrn], rfl⟩
        · skip
          have h_24 := ifn0 c_24
          refine i_iinc (j := 4) (q := 30) (lv' := [(4, vI (q + 1)), (0, vP (ao 0)), (1, vI x), (2, vI y), (3, vI z)]) C rfl (by decide) rfl dX3_endOfRun_27 rfl ?_
          refine i_goto (q := 3) C dX3_endOfRun_30 (by decide) ?_
          refine V.lv [1, 2, 3, 4, 0] rfl ?_
          exact ih_3 (q + 1) (by omega) (by omega) (fun k g0 g1 => by
            by_cases e : k = q
            · subst e; exact h_24
            · exact hv k g0 (by omega))
  refine V.lv [1, 2, 3, 4, 0] rfl ?_
  exact loop_3 _ (x) (Nat.lt_succ_self _) (by omega) (fun k _ _ => by omega)

theorem lk_X3_fail_38 : Cond.fieldLink RX3 38 (TX3 8).1 (TX3 8).2.1 (TX3 8).2.2.1 ∈ wsX3_fail := List.mem_of_getElem? (i := 1) rfl
theorem hi_X3_fail_X3 : ∀ w ∈ u_ws RX3 TX3 9, w ∈ wsX3_fail := by decide +kernel
set_option maxHeartbeats 400000 in
set_option maxRecDepth 100000 in
theorem c_X3_fail (K : KT) (l : Launch) (ao : Nat → Nat) (by_ : Int → Int) (ve : Int → Int) (ow : Int → Int) (fi : Int → Int) (se : Int → Int) (le : Int) (oc : Int) (pl : Int) (fa : Int) (x : Int) (hfa : rI fa) : Mt K l yX3_fail wsX3_fail ({ frames := 0, cells := 0, slots := 0, locals := 0 }) [vP (ao 0), vI x] [odW ao (by_, ve, ow, fi, se, le, oc, pl, fa)] 0 0 (fun v w => v = none ∧ w = [odW ao (by_, ve, ow, fi, se, le, oc, pl, if fa = -1 then x else fa)]) := by
  refine Mt.of (own := RX3) (cc := cX3_fail) (maxL := 2) (ret := none) (lv0 := [(0, vP (ao 0)), (1, vI x)]) (by decide) rfl rfl (Nat.le_of_ble_eq_true rfl) rfl (fun X C hR hNm => ?_)
  refine i_aload_n (j := 0) (q := 1) C rfl rfl dX3_fail_0 rfl ?_
  refine i_get (i := 0) (j := 0) (f := 8) (q := 4) C rfl rfl rfl hi_X3_fail_X3 (by decide) lk_X3_fail_38 rfl dX3_fail_1 rfl ?_
  refine i_iconst (q := 5) C dX3_fail_4 rfl ?_
  refine i_icmp_ne (tgt := 13) (q := 8) C (by omega) (by omega) dX3_fail_5 (by decide) rfl (fun c_5 => ?_) (fun c_5 => ?_)
  · skip
    refine i_vret C hR dX3_fail_13 ?_
    exact ⟨rfl, by rw [if_neg c_5]⟩
  · skip
    refine i_aload_n (j := 0) (q := 9) C rfl rfl dX3_fail_8 rfl ?_
    refine i_iload_n (j := 1) (q := 10) C rfl rfl dX3_fail_9 rfl ?_
    refine i_putI (i := 0) (j := 0) (f := 8) (q := 13) (cs' := [odW ao (by_, ve, ow, fi, se, le, oc, pl, x)]) C rfl rfl rfl hi_X3_fail_X3 tyX3 tyX3_ok nmX3 (by decide) (Nat.le_of_ble_eq_true rfl) lk_X3_fail_38 rfl rfl dX3_fail_10 rfl rfl ?_
    refine i_vret C hR dX3_fail_13 ?_
    exact ⟨rfl, by rw [if_pos c_5]⟩

set_option maxHeartbeats 400000 in
set_option maxRecDepth 100000 in
theorem c_X3_nameOf (K : KT) (l : Launch) (vb : Int) (hv : 0 ≤ vb ∧ vb < 7) : Mt K l yX3_nameOf wsX3_nameOf ({ frames := 0, cells := 0, slots := 0, locals := 0 }) [vI vb] [] 0 0 (fun v w => v = some (vP (K.2.2.2.2.2.1 vb.toNat)) ∧ w = []) := by
  refine Mt.of (own := RX3) (cc := cX3_nameOf) (maxL := 1) (ret := (some (.object "java/lang/String"))) (lv0 := [(0, vI vb)]) (by decide) rfl rfl (Nat.le_of_ble_eq_true rfl) rfl (fun X C hR hNm => ?_)
  refine i_iload_n (j := 0) (q := 1) C rfl rfl dX3_nameOf_0 rfl ?_
  by_cases e_1_0 : vb = 0
  · skip
    refine i_tsIn (q := 40) 0 C e_1_0 dX3_nameOf_1 (by decide) rfl (by decide) ?_
    refine i_ldcS (i := 0) (q := 42) C rfl (by decide) rfl dX3_nameOf_40 rfl ?_
    refine i_aretS C hR dX3_nameOf_42 ?_
    exact ⟨by rw [e_1_0]; rfl, rfl⟩
  by_cases e_1_1 : vb = 1
  · skip
    refine i_tsIn (q := 43) 1 C e_1_1 dX3_nameOf_1 (by decide) rfl (by decide) ?_
    refine i_ldcS (i := 1) (q := 45) C rfl (by decide) rfl dX3_nameOf_43 rfl ?_
    refine i_aretS C hR dX3_nameOf_45 ?_
    exact ⟨by rw [e_1_1]; rfl, rfl⟩
  by_cases e_1_2 : vb = 2
  · skip
    refine i_tsIn (q := 46) 2 C e_1_2 dX3_nameOf_1 (by decide) rfl (by decide) ?_
    refine i_ldcS (i := 2) (q := 48) C rfl (by decide) rfl dX3_nameOf_46 rfl ?_
    refine i_aretS C hR dX3_nameOf_48 ?_
    exact ⟨by rw [e_1_2]; rfl, rfl⟩
  by_cases e_1_3 : vb = 3
  · skip
    refine i_tsIn (q := 49) 3 C e_1_3 dX3_nameOf_1 (by decide) rfl (by decide) ?_
    refine i_ldcS (i := 3) (q := 51) C rfl (by decide) rfl dX3_nameOf_49 rfl ?_
    refine i_aretS C hR dX3_nameOf_51 ?_
    exact ⟨by rw [e_1_3]; rfl, rfl⟩
  by_cases e_1_4 : vb = 4
  · skip
    refine i_tsIn (q := 52) 4 C e_1_4 dX3_nameOf_1 (by decide) rfl (by decide) ?_
    refine i_ldcS (i := 4) (q := 54) C rfl (by decide) rfl dX3_nameOf_52 rfl ?_
    refine i_aretS C hR dX3_nameOf_54 ?_
    exact ⟨by rw [e_1_4]; rfl, rfl⟩
  by_cases e_1_5 : vb = 5
  · skip
    refine i_tsIn (q := 55) 5 C e_1_5 dX3_nameOf_1 (by decide) rfl (by decide) ?_
    refine i_ldcS (i := 5) (q := 57) C rfl (by decide) rfl dX3_nameOf_55 rfl ?_
    refine i_aretS C hR dX3_nameOf_57 ?_
    exact ⟨by rw [e_1_5]; rfl, rfl⟩
  refine i_tsOut (q := 58) C (by omega) (by omega) dX3_nameOf_1 (by decide) ?_
  refine i_ldcS (i := 6) (q := 60) C rfl (by decide) rfl dX3_nameOf_58 rfl ?_
  refine i_aretS C hR dX3_nameOf_60 ?_
  exact ⟨by rw [show vb = 6 by omega]; rfl, rfl⟩

theorem hd_J0_length_8abf5 : yJ0_length_8abf5.cls = RJ0 ∧ yJ0_length_8abf5.cls ≠ "java/lang/invoke/MethodHandle" ∧ yJ0_length_8abf5.cls ≠ "java/lang/invoke/VarHandle" ∧ (parseMethodDescriptor yJ0_length_8abf5.desc).map (fun d => d.parameters.length) = some 0 := by decide +kernel
theorem lk_X3_isName_9 : Cond.fieldLink RX3 9 (TX3 0).1 (TX3 0).2.1 (TX3 0).2.2.1 ∈ wsX3_isName := List.mem_of_getElem? (i := 1) rfl
theorem hi_X3_isName_X3 : ∀ w ∈ u_ws RX3 TX3 9, w ∈ wsX3_isName := by decide +kernel
theorem hd_J0_charAt_5068e : yJ0_charAt_5068e.cls = RJ0 ∧ yJ0_charAt_5068e.cls ≠ "java/lang/invoke/MethodHandle" ∧ yJ0_charAt_5068e.cls ≠ "java/lang/invoke/VarHandle" ∧ (parseMethodDescriptor yJ0_charAt_5068e.desc).map (fun d => d.parameters.length) = some 1 := by decide +kernel
set_option maxHeartbeats 400000 in
set_option maxRecDepth 100000 in
theorem c_X3_isName (K : KT) (l : Launch) (ao : Nat → Nat) (by_ : Int → Int) (ve : Int → Int) (ow : Int → Int) (fi : Int → Int) (se : Int → Int) (le : Int) (oc : Int) (pl : Int) (fa : Int) (i : Nat) (x : Int) (y : Int) (hle : 0 ≤ le ∧ le ≤ 120) (hby : ∀ k, 0 ≤ k → k < le → 0 ≤ by_ k ∧ by_ k ≤ 127) (hi : i < 7) (hx : 0 ≤ x ∧ x ≤ y ∧ y ≤ le) : Mt K l yX3_isName wsX3_isName ({ frames := 4, cells := 0, slots := 0, locals := 85 }) [vP (ao 0), vP (K.2.2.2.2.2.1 i), vI x, vI y] [odW ao (by_, ve, ow, fi, se, le, oc, pl, fa)] 0 0 (fun v w => v = some (vI (if sli (rg by_ le) x (y - x) = nmz i then 1 else 0)) ∧ w = [odW ao (by_, ve, ow, fi, se, le, oc, pl, fa)]) := by
  refine Mt.of (own := RX3) (cc := cX3_isName) (maxL := 5) (ret := (some .boolean)) (lv0 := [(0, vP (ao 0)), (1, vP (K.2.2.2.2.2.1 i)), (2, vI x), (3, vI y)]) (by decide) rfl rfl (Nat.le_of_ble_eq_true rfl) rfl (fun X C hR hNm => ?_)
  have hN5 := sN_le i hi
  have hnl := nmz_len i hi
  refine i_iload_n (j := 3) (q := 1) C rfl rfl dX3_isName_0 rfl ?_
  refine i_iload_n (j := 2) (q := 2) C rfl rfl dX3_isName_1 rfl ?_
  refine i_isub (q := 3) C dX3_isName_2 rfl ?_
  refine i_aload_n (j := 1) (q := 4) C rfl rfl dX3_isName_3 rfl ?_
  refine i_callVS (wr := [odW ao (by_, ve, ow, fi, se, le, oc, pl, fa)]) (As := []) (st := [vI (y - x)]) (i := (i)) (q := 7) (hi) C (c_J0_length_8abf5 K l (i) (hi)) gX3_isName_J0_length_8abf5 rfl hd_J0_length_8abf5 ⟨Nat.le_of_ble_eq_true rfl, Nat.le_of_ble_eq_true rfl⟩ ⟨rfl, rfl⟩ ⟨Nat.le_of_ble_eq_true rfl, Nat.le_of_ble_eq_true rfl⟩ (permBy [0] (by decide) rfl rfl) rfl (Nat.le_of_ble_eq_true rfl) dX3_isName_4 rfl (fun v w hq => ?_)
  obtain ⟨rfl, rfl⟩ := hq
  show V X 0 0 7 [(0, vP (ao 0)), (1, vP (K.2.2.2.2.2.1 i)), (2, vI x), (3, vI y)] [vI (((sN.getD i 0 : Nat) : Int)), vI (y - x)] [odW ao (by_, ve, ow, fi, se, le, oc, pl, fa)]
  refine i_icmp_eq (tgt := 12) (q := 10) C (by omega) (by omega) dX3_isName_7 (by decide) rfl (fun c_7 => ?_) (fun c_7 => ?_)
  · skip
    refine i_iload_n (j := 2) (q := 13) C rfl rfl dX3_isName_12 rfl ?_
    refine i_istore (q := 15) (lv' := [(4, vI x), (0, vP (ao 0)), (1, vP (K.2.2.2.2.2.1 i)), (2, vI x), (3, vI y)]) C (by decide) rfl dX3_isName_13 rfl ?_
    have loop_15 : ∀ (fuel : Nat) (k : Int), ((y - k).toNat) < fuel → (x ≤ k ∧ k ≤ y) → (∀ j, x ≤ j → j < k → by_ j = (nmz i).getD (j - x).toNat 0) → V X 0 0 15 [(0, vP (ao 0)), (1, vP (K.2.2.2.2.2.1 i)), (2, vI x), (3, vI y), (4, vI k)] [] [odW ao (by_, ve, ow, fi, se, le, oc, pl, fa)] := by
      intro fuel
      induction fuel with
      | zero => intro k hz; exact absurd hz (Nat.not_lt_zero _)
      | succ fuel ih_15 =>
        intro k hfu_15 hk hv
        refine i_iload (j := 4) (q := 17) C rfl dX3_isName_15 rfl ?_
        refine i_iload_n (j := 3) (q := 18) C rfl rfl dX3_isName_17 rfl ?_
        refine i_icmp_ge (tgt := 47) (q := 21) C (by omega) (by omega) dX3_isName_18 (by decide) rfl (fun c_18 => ?_) (fun c_18 => ?_)
        · skip
          refine i_iconst (q := 48) C dX3_isName_47 rfl ?_
          refine i_zret C hR (by omega) dX3_isName_48 ?_
          exact ⟨by
            simp only [Option.some.injEq, Sum.inl.injEq]
            rw [if_pos ((sli_nmz (l := nmz i) hx.1 (by omega) (by omega) (by omega)).mpr (fun j g0 g1 => hv j g0 (by omega)))], rfl⟩
        · skip
          refine i_aload_n (j := 0) (q := 22) C rfl rfl dX3_isName_21 rfl ?_
          refine i_get (i := 0) (j := 0) (f := 0) (q := 25) C rfl rfl rfl hi_X3_isName_X3 (by decide) lk_X3_isName_9 rfl dX3_isName_22 rfl ?_
          refine i_iload (j := 4) (q := 27) C rfl dX3_isName_25 rfl ?_
          refine i_iald (i := 0) (j := 1) (q := 28) C rfl rfl (by omega) dX3_isName_27 rfl ?_
          have ld_27 := hby k (by omega) (by omega)
          refine i_aload_n (j := 1) (q := 29) C rfl rfl dX3_isName_28 rfl ?_
          refine i_iload (j := 4) (q := 31) C rfl dX3_isName_29 rfl ?_
          refine i_iload_n (j := 2) (q := 32) C rfl rfl dX3_isName_31 rfl ?_
          refine i_isub (q := 33) C dX3_isName_32 rfl ?_
          refine i_callVS (wr := [odW ao (by_, ve, ow, fi, se, le, oc, pl, fa)]) (As := [vI (k - x)]) (st := [vI (by_ k)]) (i := (i)) (q := 36) (hi) C (c_J0_charAt_5068e K l (i) (k - x) (hi) (by omega)) gX3_isName_J0_charAt_5068e rfl hd_J0_charAt_5068e ⟨Nat.le_of_ble_eq_true rfl, Nat.le_of_ble_eq_true rfl⟩ ⟨rfl, rfl⟩ ⟨Nat.le_of_ble_eq_true rfl, Nat.le_of_ble_eq_true rfl⟩ (permBy [0] (by decide) rfl rfl) rfl (Nat.le_of_ble_eq_true rfl) dX3_isName_33 rfl (fun v w hq => ?_)
          obtain ⟨rfl, rfl⟩ := hq
          show V X 0 0 36 [(0, vP (ao 0)), (1, vP (K.2.2.2.2.2.1 i)), (2, vI x), (3, vI y), (4, vI k)] [vI ((nmz i).getD (k - x).toNat 0), vI (by_ k)] [odW ao (by_, ve, ow, fi, se, le, oc, pl, fa)]
          have hb3 := nmz_by i hi (k - x).toNat (by omega)
          refine i_icmp_eq (tgt := 41) (q := 39) C (by omega) (by omega) dX3_isName_36 (by decide) rfl (fun c_36 => ?_) (fun c_36 => ?_)
          · skip
            refine i_iinc (j := 4) (q := 44) (lv' := [(4, vI (k + 1)), (0, vP (ao 0)), (1, vP (K.2.2.2.2.2.1 i)), (2, vI x), (3, vI y)]) C rfl (by decide) rfl dX3_isName_41 rfl ?_
            refine i_goto (q := 15) C dX3_isName_44 (by decide) ?_
            refine V.lv [1, 2, 3, 4, 0] rfl ?_
            exact ih_15 (k + 1) (by omega) (by omega) (fun j g0 g1 => by
              by_cases e : j = k
              · subst e; exact c_36
              · exact hv j g0 (by omega))
          · skip
            refine i_iconst (q := 40) C dX3_isName_39 rfl ?_
            refine i_zret C hR (by omega) dX3_isName_40 ?_
            exact ⟨by
              simp only [Option.some.injEq, Sum.inl.injEq]
              rw [if_neg (fun z => c_36 ((sli_nmz (l := nmz i) hx.1 (by omega) (by omega) (by omega)).mp z k hk.1 (by omega)))], rfl⟩
    refine V.lv [1, 2, 3, 4, 0] rfl ?_
    exact loop_15 _ (x) (Nat.lt_succ_self _) (by omega) (fun j _ _ => by omega)
  · skip
    refine i_iconst (q := 11) C dX3_isName_10 rfl ?_
    refine i_zret C hR (by omega) dX3_isName_11 ?_
    exact ⟨by
      simp only [Option.some.injEq, Sum.inl.injEq]
      rw [if_neg (fun z => c_7 (by have h1 := congrArg List.length z; have h2 := sli_len (T := (rg by_ le)) (p := x) (k := y - x) hx.1 (by omega) (by rw [rg_len]; omega); omega))], rfl⟩

theorem hd_X3_startOfNext : yX3_startOfNext.cls = RX3 ∧ yX3_startOfNext.cls ≠ "java/lang/invoke/MethodHandle" ∧ yX3_startOfNext.cls ≠ "java/lang/invoke/VarHandle" ∧ (parseMethodDescriptor yX3_startOfNext.desc).map (fun d => d.parameters.length) = some 0 := by decide +kernel
theorem hd_X3_endOfRun : yX3_endOfRun.cls = RX3 ∧ yX3_endOfRun.cls ≠ "java/lang/invoke/MethodHandle" ∧ yX3_endOfRun.cls ≠ "java/lang/invoke/VarHandle" ∧ (parseMethodDescriptor yX3_endOfRun.desc).map (fun d => d.parameters.length) = some 3 := by decide +kernel
theorem hd_X3_fail : yX3_fail.cls = RX3 ∧ yX3_fail.cls ≠ "java/lang/invoke/MethodHandle" ∧ yX3_fail.cls ≠ "java/lang/invoke/VarHandle" ∧ (parseMethodDescriptor yX3_fail.desc).map (fun d => d.parameters.length) = some 1 := by decide +kernel
theorem hd_X3_nameOf : yX3_nameOf.cls ≠ "java/lang/invoke/MethodHandle" ∧ yX3_nameOf.cls ≠ "java/lang/invoke/VarHandle" ∧ (parseMethodDescriptor yX3_nameOf.desc).map (fun d => d.parameters.length) = some 1 := by decide +kernel
theorem hd_X3_isName : yX3_isName.cls = RX3 ∧ yX3_isName.cls ≠ "java/lang/invoke/MethodHandle" ∧ yX3_isName.cls ≠ "java/lang/invoke/VarHandle" ∧ (parseMethodDescriptor yX3_isName.desc).map (fun d => d.parameters.length) = some 3 := by decide +kernel
theorem lk_X3_readVerb_35 : Cond.fieldLink RX3 35 (TX3 7).1 (TX3 7).2.1 (TX3 7).2.2.1 ∈ wsX3_readVerb := List.mem_of_getElem? (i := 1) rfl
theorem hi_X3_readVerb_X3 : ∀ w ∈ u_ws RX3 TX3 9, w ∈ wsX3_readVerb := by decide +kernel
set_option maxHeartbeats 400000 in
set_option maxRecDepth 100000 in
theorem c_X3_readVerb (K : KT) (l : Launch) (ao : Nat → Nat) (by_ : Int → Int) (ve : Int → Int) (ow : Int → Int) (fi : Int → Int) (se : Int → Int) (le : Int) (oc : Int) (pl : Int) (fa : Int) (hle : 0 ≤ le ∧ le ≤ 120) (hby : ∀ k, 0 ≤ k → k < le → 0 ≤ by_ k ∧ by_ k ≤ 127) (hpl : 0 ≤ pl ∧ pl ≤ le) (hfa : fa = -1) : Mt K l yX3_readVerb wsX3_readVerb ({ frames := 5, cells := 0, slots := 0, locals := 109 }) [vP (ao 0)] [odW ao (by_, ve, ow, fi, se, le, oc, pl, fa)] 0 0 (fun v w => v = some (vI ((pV (rg by_ le) pl).2.2 - 1)) ∧ w = [odW ao (by_, ve, ow, fi, se, le, oc, (pV (rg by_ le) pl).2.1, if (pV (rg by_ le) pl).1 = 0 then -1 else (pV (rg by_ le) pl).2.1)]) := by
  refine Mt.of (own := RX3) (cc := cX3_readVerb) (maxL := 4) (ret := (some .int)) (lv0 := [(0, vP (ao 0))]) (by decide) rfl rfl (Nat.le_of_ble_eq_true rfl) rfl (fun X C hR hNm => ?_)
  have hTl : (((rg by_ le).length : Nat) : Int) = le := by rw [rg_len]; omega
  have hnbb := nb_b (rg by_ le) (p := pl) hpl.1 (by omega)
  rw [hTl] at hnbb
  have hrnb := twl_b (fun c => decide (97 ≤ c) && decide (c ≤ 122)) (rg by_ le) (p := nb (rg by_ le) pl) (by omega) (by omega)
  rw [hTl] at hrnb
  have hr2 : 0 ≤ rn 97 122 (rg by_ le) (nb (rg by_ le) pl) ∧ nb (rg by_ le) pl + rn 97 122 (rg by_ le) (nb (rg by_ le) pl) ≤ le := hrnb
  refine i_aload_n (j := 0) (q := 1) C rfl rfl dX3_readVerb_0 rfl ?_
  refine i_callV (wr := []) (As := []) (st := []) (i := 0) (j := 0) (q := 4) C (c_X3_startOfNext K l (ao) (by_) (ve) (ow) (fi) (se) (le) (oc) (pl) (fa) (by first | assumption | omega) (by first | assumption | omega) (by first | assumption | omega)) gX3_readVerb_X3_startOfNext rfl hd_X3_startOfNext ⟨Nat.le_of_ble_eq_true rfl, Nat.le_of_ble_eq_true rfl⟩ ⟨rfl, rfl⟩ ⟨Nat.le_of_ble_eq_true rfl, Nat.le_of_ble_eq_true rfl⟩ (permBy [0] (by decide) rfl rfl) rfl rfl rfl rfl (Nat.le_of_ble_eq_true rfl) dX3_readVerb_1 rfl (fun v w hq => ?_)
  obtain ⟨rfl, rfl⟩ := hq
  show V X 0 0 4 [(0, vP (ao 0))] [vI (nb (rg by_ le) pl)] [odW ao (by_, ve, ow, fi, se, le, oc, nb (rg by_ le) pl, fa)]
  refine i_istore_n (q := 5) (lv' := [(1, vI (nb (rg by_ le) pl)), (0, vP (ao 0))]) C rfl (by decide) rfl dX3_readVerb_4 rfl ?_
  refine i_aload_n (j := 1) (q := 6) C rfl rfl dX3_readVerb_5 rfl ?_
  refine i_iload_n (j := 0) (q := 7) C rfl rfl dX3_readVerb_6 rfl ?_
  refine i_bipush (q := 9) C (by decide) dX3_readVerb_7 rfl ?_
  refine i_bipush (q := 11) C (by decide) dX3_readVerb_9 rfl ?_
  refine i_callV (wr := []) (As := [vI (nb (rg by_ le) pl), vI 97, vI 122]) (st := []) (i := 0) (j := 0) (q := 14) C (c_X3_endOfRun K l (ao) (by_) (ve) (ow) (fi) (se) (le) (oc) (nb (rg by_ le) pl) (fa) (nb (rg by_ le) pl) (97) (122) (by first | assumption | omega) (by first | assumption | omega) (by omega) (by omega) (by omega)) gX3_readVerb_X3_endOfRun rfl hd_X3_endOfRun ⟨Nat.le_of_ble_eq_true rfl, Nat.le_of_ble_eq_true rfl⟩ ⟨rfl, rfl⟩ ⟨Nat.le_of_ble_eq_true rfl, Nat.le_of_ble_eq_true rfl⟩ (permBy [0] (by decide) rfl rfl) rfl rfl rfl rfl (Nat.le_of_ble_eq_true rfl) dX3_readVerb_11 rfl (fun v w hq => ?_)
  obtain ⟨rfl, rfl⟩ := hq
  show V X 0 0 14 [(1, vI (nb (rg by_ le) pl)), (0, vP (ao 0))] [vI ((nb (rg by_ le) pl) + rn 97 122 (rg by_ le) (nb (rg by_ le) pl))] [odW ao (by_, ve, ow, fi, se, le, oc, nb (rg by_ le) pl, fa)]
  refine i_istore_n (q := 15) (lv' := [(2, vI ((nb (rg by_ le) pl) + rn 97 122 (rg by_ le) (nb (rg by_ le) pl))), (1, vI (nb (rg by_ le) pl)), (0, vP (ao 0))]) C rfl (by decide) rfl dX3_readVerb_14 rfl ?_
  refine i_iconst (q := 16) C dX3_readVerb_15 rfl ?_
  refine i_istore_n (q := 17) (lv' := [(3, vI 0), (2, vI ((nb (rg by_ le) pl) + rn 97 122 (rg by_ le) (nb (rg by_ le) pl))), (1, vI (nb (rg by_ le) pl)), (0, vP (ao 0))]) C rfl (by decide) rfl dX3_readVerb_16 rfl ?_
  have loop_17 : ∀ (fuel : Nat) (v : Int), ((7 - v).toNat) < fuel → (0 ≤ v ∧ v ≤ 7) → (∀ i : Nat, (i : Int) < v → ¬ sli (rg by_ le) (nb (rg by_ le) pl) (rn 97 122 (rg by_ le) (nb (rg by_ le) pl)) = nmz i) → V X 0 0 17 [(0, vP (ao 0)), (1, vI (nb (rg by_ le) pl)), (2, vI ((nb (rg by_ le) pl) + rn 97 122 (rg by_ le) (nb (rg by_ le) pl))), (3, vI v)] [] [odW ao (by_, ve, ow, fi, se, le, oc, nb (rg by_ le) pl, fa)] := by
    intro fuel
    induction fuel with
    | zero => intro v hz; exact absurd hz (Nat.not_lt_zero _)
    | succ fuel ih_17 =>
      intro v hfu_17 hv hn
      refine i_iload_n (j := 3) (q := 18) C rfl rfl dX3_readVerb_17 rfl ?_
      refine i_bipush (q := 20) C (by decide) dX3_readVerb_18 rfl ?_
      refine i_icmp_ge (tgt := 49) (q := 23) C (by omega) (by omega) dX3_readVerb_20 (by decide) rfl (fun c_20 => ?_) (fun c_20 => ?_)
      · skip
        refine i_aload_n (j := 0) (q := 50) C rfl rfl dX3_readVerb_49 rfl ?_
        refine i_iload_n (j := 1) (q := 51) C rfl rfl dX3_readVerb_50 rfl ?_
        refine i_callV (wr := []) (As := [vI (nb (rg by_ le) pl)]) (st := []) (i := 0) (j := 0) (q := 54) C (c_X3_fail K l (ao) (by_) (ve) (ow) (fi) (se) (le) (oc) (nb (rg by_ le) pl) (fa) (nb (rg by_ le) pl) (by omega)) gX3_readVerb_X3_fail rfl hd_X3_fail ⟨Nat.le_of_ble_eq_true rfl, Nat.le_of_ble_eq_true rfl⟩ ⟨rfl, rfl⟩ ⟨Nat.le_of_ble_eq_true rfl, Nat.le_of_ble_eq_true rfl⟩ (permBy [0] (by decide) rfl rfl) rfl rfl rfl rfl (Nat.le_of_ble_eq_true rfl) dX3_readVerb_51 rfl (fun v w hq => ?_)
        obtain ⟨rfl, rfl⟩ := hq
        show V X 0 0 54 [(0, vP (ao 0)), (1, vI (nb (rg by_ le) pl)), (2, vI ((nb (rg by_ le) pl) + rn 97 122 (rg by_ le) (nb (rg by_ le) pl))), (3, vI v)] [] [odW ao (by_, ve, ow, fi, se, le, oc, nb (rg by_ le) pl, if fa = -1 then (nb (rg by_ le) pl) else fa)]
        refine i_iconst (q := 55) C dX3_readVerb_54 rfl ?_
        refine i_iret C hR dX3_readVerb_55 ?_
        have hz := nmv_n (w := sli (rg by_ le) (nb (rg by_ le) pl) (rn 97 122 (rg by_ le) (nb (rg by_ le) pl))) (fun i g => hn i (by omega))
        have hpv : pV (rg by_ le) pl = (1, nb (rg by_ le) pl, 0) := by
          unfold pV
          rw [hz, if_pos rfl]
        exact ⟨by rw [hpv]; rfl, by rw [hpv, if_pos hfa, if_neg (by simp)]⟩
      · skip
        refine i_aload_n (j := 0) (q := 24) C rfl rfl dX3_readVerb_23 rfl ?_
        refine i_iload_n (j := 3) (q := 25) C rfl rfl dX3_readVerb_24 rfl ?_
        refine i_callS (wr := [odW ao (by_, ve, ow, fi, se, le, oc, nb (rg by_ le) pl, fa)]) (As := [vI v]) (st := [vP (ao 0)]) (q := 28) C (c_X3_nameOf K l (v) (by omega)) gX3_readVerb_X3_nameOf rfl hd_X3_nameOf ⟨Nat.le_of_ble_eq_true rfl, Nat.le_of_ble_eq_true rfl⟩ ⟨rfl, rfl⟩ ⟨Nat.le_of_ble_eq_true rfl, Nat.le_of_ble_eq_true rfl⟩ (permBy [0] (by decide) rfl rfl) rfl (Nat.le_of_ble_eq_true rfl) dX3_readVerb_25 rfl (fun v w hq => ?_)
        obtain ⟨rfl, rfl⟩ := hq
        show V X 0 0 28 [(0, vP (ao 0)), (1, vI (nb (rg by_ le) pl)), (2, vI ((nb (rg by_ le) pl) + rn 97 122 (rg by_ le) (nb (rg by_ le) pl))), (3, vI v)] [vP (K.2.2.2.2.2.1 v.toNat), vP (ao 0)] [odW ao (by_, ve, ow, fi, se, le, oc, nb (rg by_ le) pl, fa)]
        refine i_iload_n (j := 1) (q := 29) C rfl rfl dX3_readVerb_28 rfl ?_
        refine i_iload_n (j := 2) (q := 30) C rfl rfl dX3_readVerb_29 rfl ?_
        refine i_callV (wr := []) (As := [vP (K.2.2.2.2.2.1 v.toNat), vI (nb (rg by_ le) pl), vI ((nb (rg by_ le) pl) + rn 97 122 (rg by_ le) (nb (rg by_ le) pl))]) (st := []) (i := 0) (j := 0) (q := 33) C (c_X3_isName K l (ao) (by_) (ve) (ow) (fi) (se) (le) (oc) (nb (rg by_ le) pl) (fa) (v.toNat) (nb (rg by_ le) pl) ((nb (rg by_ le) pl) + rn 97 122 (rg by_ le) (nb (rg by_ le) pl)) (by first | assumption | omega) (by first | assumption | omega) (by omega) (by omega)) gX3_readVerb_X3_isName rfl hd_X3_isName ⟨Nat.le_of_ble_eq_true rfl, Nat.le_of_ble_eq_true rfl⟩ ⟨rfl, rfl⟩ ⟨Nat.le_of_ble_eq_true rfl, Nat.le_of_ble_eq_true rfl⟩ (permBy [0] (by decide) rfl rfl) rfl rfl rfl rfl (Nat.le_of_ble_eq_true rfl) dX3_readVerb_30 rfl (fun v w hq => ?_)
        obtain ⟨rfl, rfl⟩ := hq
        show V X 0 0 33 [(0, vP (ao 0)), (1, vI (nb (rg by_ le) pl)), (2, vI ((nb (rg by_ le) pl) + rn 97 122 (rg by_ le) (nb (rg by_ le) pl))), (3, vI v)] [vI (if sli (rg by_ le) (nb (rg by_ le) pl) (((nb (rg by_ le) pl) + rn 97 122 (rg by_ le) (nb (rg by_ le) pl)) - (nb (rg by_ le) pl)) = nmz v.toNat then 1 else 0)] [odW ao (by_, ve, ow, fi, se, le, oc, nb (rg by_ le) pl, fa)]
        refine V.top (b := if sli (rg by_ le) (nb (rg by_ le) pl) (rn 97 122 (rg by_ le) (nb (rg by_ le) pl)) = nmz v.toNat then 1 else 0) (by rw [show nb (rg by_ le) pl + rn 97 122 (rg by_ le) (nb (rg by_ le) pl) - (nb (rg by_ le) pl) = rn 97 122 (rg by_ le) (nb (rg by_ le) pl) by omega]) ?_
        refine i_if_eq (tgt := 43) (q := 36) C (if01) dX3_readVerb_33 (by decide) rfl (fun c_33 => ?_) (fun c_33 => ?_)
        · skip
          have h_33 := if0 c_33
          refine i_iinc (j := 3) (q := 46) (lv' := [(3, vI (v + 1)), (0, vP (ao 0)), (1, vI (nb (rg by_ le) pl)), (2, vI ((nb (rg by_ le) pl) + rn 97 122 (rg by_ le) (nb (rg by_ le) pl)))]) C rfl (by decide) rfl dX3_readVerb_43 rfl ?_
          refine i_goto (q := 17) C dX3_readVerb_46 (by decide) ?_
          refine V.lv [1, 2, 3, 0] rfl ?_
          exact ih_17 (v + 1) (by omega) (by omega) (fun i g => by
            by_cases e : (i : Int) = v
            · have e2 : i = v.toNat := by omega
              rw [e2]; exact h_33
            · exact hn i (by omega))
        · skip
          have h_33 := ifn0 c_33
          refine i_aload_n (j := 0) (q := 37) C rfl rfl dX3_readVerb_36 rfl ?_
          refine i_iload_n (j := 2) (q := 38) C rfl rfl dX3_readVerb_37 rfl ?_
          refine i_putI (i := 0) (j := 0) (f := 7) (q := 41) (cs' := [odW ao (by_, ve, ow, fi, se, le, oc, (nb (rg by_ le) pl) + rn 97 122 (rg by_ le) (nb (rg by_ le) pl), fa)]) C rfl rfl rfl hi_X3_readVerb_X3 tyX3 tyX3_ok nmX3 (by decide) (Nat.le_of_ble_eq_true rfl) lk_X3_readVerb_35 rfl rfl dX3_readVerb_38 rfl rfl ?_
          refine i_iload_n (j := 3) (q := 42) C rfl rfl dX3_readVerb_41 rfl ?_
          refine i_iret C hR dX3_readVerb_42 ?_
          have hz := nmv_z v.toNat (by omega)
          rw [← h_33] at hz
          have hpv : pV (rg by_ le) pl = (0, nb (rg by_ le) pl + rn 97 122 (rg by_ le) (nb (rg by_ le) pl), v + 1) := by
            unfold pV
            rw [hz, if_neg (by omega), Int.toNat_of_nonneg hv.1]
          exact ⟨by rw [hpv]; simp only [Option.some.injEq, Sum.inl.injEq]; omega, by rw [hpv, if_pos rfl, hfa]⟩
  refine V.lv [3, 2, 1, 0] rfl ?_
  exact loop_17 _ (0) (Nat.lt_succ_self _) (by omega) (fun i h => by omega)

theorem lk_X3_readWord_35 : Cond.fieldLink RX3 35 (TX3 7).1 (TX3 7).2.1 (TX3 7).2.2.1 ∈ wsX3_readWord := List.mem_of_getElem? (i := 2) rfl
theorem hi_X3_readWord_X3 : ∀ w ∈ u_ws RX3 TX3 9, w ∈ wsX3_readWord := by decide +kernel
theorem lk_X3_readWord_9 : Cond.fieldLink RX3 9 (TX3 0).1 (TX3 0).2.1 (TX3 0).2.2.1 ∈ wsX3_readWord := List.mem_of_getElem? (i := 1) rfl
set_option maxHeartbeats 400000 in
set_option maxRecDepth 100000 in
theorem c_X3_readWord (K : KT) (l : Launch) (ao : Nat → Nat) (by_ : Int → Int) (ve : Int → Int) (ow : Int → Int) (fi : Int → Int) (se : Int → Int) (le : Int) (oc : Int) (pl : Int) (fa : Int) (hle : 0 ≤ le ∧ le ≤ 120) (hby : ∀ k, 0 ≤ k → k < le → 0 ≤ by_ k ∧ by_ k ≤ 127) (hpl : 0 ≤ pl ∧ pl ≤ le) (hfa : rI fa) : Mt K l yX3_readWord wsX3_readWord ({ frames := 4, cells := 0, slots := 0, locals := 86 }) [vP (ao 0)] [odW ao (by_, ve, ow, fi, se, le, oc, pl, fa)] 0 0 (fun v w => v = some (vJ (((pck ((pW (rg by_ le) pl).2.2) : Nat) : Int))) ∧ w = [odW ao (by_, ve, ow, fi, se, le, oc, (pW (rg by_ le) pl).2.1, ff fa (pW (rg by_ le) pl).1 (pW (rg by_ le) pl).2.1)]) := by
  refine Mt.of (own := RX3) (cc := cX3_readWord) (maxL := 6) (ret := (some .long)) (lv0 := [(0, vP (ao 0))]) (by decide) rfl rfl (Nat.le_of_ble_eq_true rfl) rfl (fun X C hR hNm => ?_)
  have hTl : (((rg by_ le).length : Nat) : Int) = le := by rw [rg_len]; omega
  have hnbb := nb_b (rg by_ le) (p := pl) hpl.1 (by omega)
  rw [hTl] at hnbb
  have hrnb := twl_b (fun c => decide (97 ≤ c) && decide (c ≤ 122)) (rg by_ le) (p := nb (rg by_ le) pl) (by omega) (by omega)
  rw [hTl] at hrnb
  have hr2 : 0 ≤ rn 97 122 (rg by_ le) (nb (rg by_ le) pl) ∧ nb (rg by_ le) pl + rn 97 122 (rg by_ le) (nb (rg by_ le) pl) ≤ le := hrnb
  have hra := rn_all (rg by_ le) (nb (rg by_ le) pl)
  refine i_aload_n (j := 0) (q := 1) C rfl rfl dX3_readWord_0 rfl ?_
  refine i_callV (wr := []) (As := []) (st := []) (i := 0) (j := 0) (q := 4) C (c_X3_startOfNext K l (ao) (by_) (ve) (ow) (fi) (se) (le) (oc) (pl) (fa) (by first | assumption | omega) (by first | assumption | omega) (by first | assumption | omega)) gX3_readWord_X3_startOfNext rfl hd_X3_startOfNext ⟨Nat.le_of_ble_eq_true rfl, Nat.le_of_ble_eq_true rfl⟩ ⟨rfl, rfl⟩ ⟨Nat.le_of_ble_eq_true rfl, Nat.le_of_ble_eq_true rfl⟩ (permBy [0] (by decide) rfl rfl) rfl rfl rfl rfl (Nat.le_of_ble_eq_true rfl) dX3_readWord_1 rfl (fun v w hq => ?_)
  obtain ⟨rfl, rfl⟩ := hq
  show V X 0 0 4 [(0, vP (ao 0))] [vI (nb (rg by_ le) pl)] [odW ao (by_, ve, ow, fi, se, le, oc, nb (rg by_ le) pl, fa)]
  refine i_istore_n (q := 5) (lv' := [(1, vI (nb (rg by_ le) pl)), (0, vP (ao 0))]) C rfl (by decide) rfl dX3_readWord_4 rfl ?_
  refine i_aload_n (j := 1) (q := 6) C rfl rfl dX3_readWord_5 rfl ?_
  refine i_iload_n (j := 0) (q := 7) C rfl rfl dX3_readWord_6 rfl ?_
  refine i_bipush (q := 9) C (by decide) dX3_readWord_7 rfl ?_
  refine i_bipush (q := 11) C (by decide) dX3_readWord_9 rfl ?_
  refine i_callV (wr := []) (As := [vI (nb (rg by_ le) pl), vI 97, vI 122]) (st := []) (i := 0) (j := 0) (q := 14) C (c_X3_endOfRun K l (ao) (by_) (ve) (ow) (fi) (se) (le) (oc) (nb (rg by_ le) pl) (fa) (nb (rg by_ le) pl) (97) (122) (by first | assumption | omega) (by first | assumption | omega) (by omega) (by omega) (by omega)) gX3_readWord_X3_endOfRun rfl hd_X3_endOfRun ⟨Nat.le_of_ble_eq_true rfl, Nat.le_of_ble_eq_true rfl⟩ ⟨rfl, rfl⟩ ⟨Nat.le_of_ble_eq_true rfl, Nat.le_of_ble_eq_true rfl⟩ (permBy [0] (by decide) rfl rfl) rfl rfl rfl rfl (Nat.le_of_ble_eq_true rfl) dX3_readWord_11 rfl (fun v w hq => ?_)
  obtain ⟨rfl, rfl⟩ := hq
  show V X 0 0 14 [(1, vI (nb (rg by_ le) pl)), (0, vP (ao 0))] [vI ((nb (rg by_ le) pl) + rn 97 122 (rg by_ le) (nb (rg by_ le) pl))] [odW ao (by_, ve, ow, fi, se, le, oc, nb (rg by_ le) pl, fa)]
  refine i_istore_n (q := 15) (lv' := [(2, vI ((nb (rg by_ le) pl) + rn 97 122 (rg by_ le) (nb (rg by_ le) pl))), (1, vI (nb (rg by_ le) pl)), (0, vP (ao 0))]) C rfl (by decide) rfl dX3_readWord_14 rfl ?_
  refine i_iload_n (j := 0) (q := 16) C rfl rfl dX3_readWord_15 rfl ?_
  refine i_iload_n (j := 1) (q := 17) C rfl rfl dX3_readWord_16 rfl ?_
  refine i_isub (q := 18) C dX3_readWord_17 rfl ?_
  refine V.top (b := rn 97 122 (rg by_ le) (nb (rg by_ le) pl)) (by omega) ?_
  refine i_iconst (q := 19) C dX3_readWord_18 rfl ?_
  refine i_bipush (q := 21) C (by decide) dX3_readWord_19 rfl ?_
  refine i_callSN (host := RX7) (wr := [odW ao (by_, ve, ow, fi, se, le, oc, nb (rg by_ le) pl, fa)]) (As := [vI (rn 97 122 (rg by_ le) (nb (rg by_ le) pl)), vI 1, vI 8]) (st := []) (q := 24) C (c_X7_isWithin K l (rn 97 122 (rg by_ le) (nb (rg by_ le) pl)) (1) (8) (by omega) (by omega) (by omega)) gX3_readWord_X7_isWithin_n113 rfl (by decide) (List.mem_of_getElem? (i := 17) rfl) (List.mem_of_getElem? (i := 18) rfl) hd_X7_isWithin ⟨Nat.le_of_ble_eq_true rfl, Nat.le_of_ble_eq_true rfl⟩ ⟨rfl, rfl⟩ ⟨Nat.le_of_ble_eq_true rfl, Nat.le_of_ble_eq_true rfl⟩ (permBy [0] (by decide) rfl rfl) rfl (Nat.le_of_ble_eq_true rfl) dX3_readWord_21 rfl (fun v w hq => ?_)
  obtain ⟨rfl, rfl⟩ := hq
  show V X 0 0 24 [(2, vI ((nb (rg by_ le) pl) + rn 97 122 (rg by_ le) (nb (rg by_ le) pl))), (1, vI (nb (rg by_ le) pl)), (0, vP (ao 0))] [vI (if 1 ≤ (rn 97 122 (rg by_ le) (nb (rg by_ le) pl)) ∧ (rn 97 122 (rg by_ le) (nb (rg by_ le) pl)) ≤ 8 then 1 else 0)] [odW ao (by_, ve, ow, fi, se, le, oc, nb (rg by_ le) pl, fa)]
  refine i_if_eq (tgt := 40) (q := 27) C (if01) dX3_readWord_24 (by decide) rfl (fun c_24 => ?_) (fun c_24 => ?_)
  · skip
    have h_24 := if0 c_24
    refine i_aload_n (j := 2) (q := 41) C rfl rfl dX3_readWord_40 rfl ?_
    refine i_iload_n (j := 1) (q := 42) C rfl rfl dX3_readWord_41 rfl ?_
    refine i_callV (wr := []) (As := [vI (nb (rg by_ le) pl)]) (st := []) (i := 0) (j := 0) (q := 45) C (c_X3_fail K l (ao) (by_) (ve) (ow) (fi) (se) (le) (oc) (nb (rg by_ le) pl) (fa) (nb (rg by_ le) pl) (hfa)) gX3_readWord_X3_fail rfl hd_X3_fail ⟨Nat.le_of_ble_eq_true rfl, Nat.le_of_ble_eq_true rfl⟩ ⟨rfl, rfl⟩ ⟨Nat.le_of_ble_eq_true rfl, Nat.le_of_ble_eq_true rfl⟩ (permBy [0] (by decide) rfl rfl) rfl rfl rfl rfl (Nat.le_of_ble_eq_true rfl) dX3_readWord_42 rfl (fun v w hq => ?_)
    obtain ⟨rfl, rfl⟩ := hq
    show V X 0 0 45 [(2, vI ((nb (rg by_ le) pl) + rn 97 122 (rg by_ le) (nb (rg by_ le) pl))), (1, vI (nb (rg by_ le) pl)), (0, vP (ao 0))] [] [odW ao (by_, ve, ow, fi, se, le, oc, nb (rg by_ le) pl, if fa = -1 then (nb (rg by_ le) pl) else fa)]
    refine i_lconst (z := 0) (q := 46) C (by decide) dX3_readWord_45 rfl ?_
    refine i_lret C hR dX3_readWord_46 ?_
    have hpw : pW (rg by_ le) pl = (1, nb (rg by_ le) pl, []) := by unfold pW; rw [if_neg (fun z => h_24 z.1)]
    exact ⟨by rw [hpw]; rfl, by rw [hpw]; unfold ff; simp only [and_true]⟩
  · skip
    have h_24 := ifn0 c_24
    refine i_aload_n (j := 2) (q := 28) C rfl rfl dX3_readWord_27 rfl ?_
    refine i_iload_n (j := 1) (q := 29) C rfl rfl dX3_readWord_28 rfl ?_
    refine i_bipush (q := 31) C (by decide) dX3_readWord_29 rfl ?_
    refine i_bipush (q := 33) C (by decide) dX3_readWord_31 rfl ?_
    refine i_callV (wr := []) (As := [vI (nb (rg by_ le) pl), vI 97, vI 104]) (st := []) (i := 0) (j := 0) (q := 36) C (c_X3_endOfRun K l (ao) (by_) (ve) (ow) (fi) (se) (le) (oc) (nb (rg by_ le) pl) (fa) (nb (rg by_ le) pl) (97) (104) (by first | assumption | omega) (by first | assumption | omega) (by omega) (by omega) (by omega)) gX3_readWord_X3_endOfRun rfl hd_X3_endOfRun ⟨Nat.le_of_ble_eq_true rfl, Nat.le_of_ble_eq_true rfl⟩ ⟨rfl, rfl⟩ ⟨Nat.le_of_ble_eq_true rfl, Nat.le_of_ble_eq_true rfl⟩ (permBy [0] (by decide) rfl rfl) rfl rfl rfl rfl (Nat.le_of_ble_eq_true rfl) dX3_readWord_33 rfl (fun v w hq => ?_)
    obtain ⟨rfl, rfl⟩ := hq
    show V X 0 0 36 [(2, vI ((nb (rg by_ le) pl) + rn 97 122 (rg by_ le) (nb (rg by_ le) pl))), (1, vI (nb (rg by_ le) pl)), (0, vP (ao 0))] [vI ((nb (rg by_ le) pl) + rn 97 104 (rg by_ le) (nb (rg by_ le) pl))] [odW ao (by_, ve, ow, fi, se, le, oc, nb (rg by_ le) pl, fa)]
    refine i_iload_n (j := 0) (q := 37) C rfl rfl dX3_readWord_36 rfl ?_
    refine i_icmp_eq (tgt := 47) (q := 40) C (by have := twl_b (fun c => decide (97 ≤ c) && decide (c ≤ 104)) (rg by_ le) (p := nb (rg by_ le) pl) (by omega) (by omega); rw [hTl] at this; have h9 : 0 ≤ rn 97 104 (rg by_ le) (nb (rg by_ le) pl) ∧ nb (rg by_ le) pl + rn 97 104 (rg by_ le) (nb (rg by_ le) pl) ≤ le := this; omega) (by omega) dX3_readWord_37 (by decide) rfl (fun c_37 => ?_) (fun c_37 => ?_)
    · skip
      have hal : (1 ≤ rn 97 122 (rg by_ le) (nb (rg by_ le) pl) ∧ rn 97 122 (rg by_ le) (nb (rg by_ le) pl) ≤ 8) ∧ allB 97 104 (sli (rg by_ le) (nb (rg by_ le) pl) (rn 97 122 (rg by_ le) (nb (rg by_ le) pl))) = true := ⟨h_24, hra.mp (by omega)⟩
      have hall : ∀ j, nb (rg by_ le) pl ≤ j → j < nb (rg by_ le) pl + rn 97 122 (rg by_ le) (nb (rg by_ le) pl) → 97 ≤ by_ j ∧ by_ j ≤ 104 := fun j g0 g1 => rn_in (f := by_) (n := le) (a := 97) (b := 104) (p := nb (rg by_ le) pl) (by omega) (by omega) g0 (by have := hra.mpr hal.2; omega)
      refine i_lconst (z := 0) (q := 48) C (by decide) dX3_readWord_47 rfl ?_
      refine i_lstore_n (q := 49) (lv' := [(3, vJ 0), (2, vI ((nb (rg by_ le) pl) + rn 97 122 (rg by_ le) (nb (rg by_ le) pl))), (1, vI (nb (rg by_ le) pl)), (0, vP (ao 0))]) C rfl (by decide) rfl dX3_readWord_48 rfl ?_
      refine i_iload_n (j := 2) (q := 50) C rfl rfl dX3_readWord_49 rfl ?_
      refine i_istore (q := 52) (lv' := [(5, vI (nb (rg by_ le) pl)), (3, vJ 0), (2, vI ((nb (rg by_ le) pl) + rn 97 122 (rg by_ le) (nb (rg by_ le) pl))), (1, vI (nb (rg by_ le) pl)), (0, vP (ao 0))]) C (by decide) rfl dX3_readWord_50 rfl ?_
      have loop_52 : ∀ (fuel : Nat) (k : Int) (wl : List Int), ((nb (rg by_ le) pl + rn 97 122 (rg by_ le) (nb (rg by_ le) pl) - k).toNat) < fuel → (nb (rg by_ le) pl ≤ k ∧ k ≤ nb (rg by_ le) pl + rn 97 122 (rg by_ le) (nb (rg by_ le) pl)) → (wl = rg (fun j => by_ (nb (rg by_ le) pl + j) - 97) (k - (nb (rg by_ le) pl))) → (okL wl) → ((wl.length : Int) = k - (nb (rg by_ le) pl)) → V X 0 0 52 [(0, vP (ao 0)), (1, vI (nb (rg by_ le) pl)), (2, vI ((nb (rg by_ le) pl) + rn 97 122 (rg by_ le) (nb (rg by_ le) pl))), (3, vJ (((pck wl : Nat) : Int))), (5, vI k)] [] [odW ao (by_, ve, ow, fi, se, le, oc, nb (rg by_ le) pl, fa)] := by
        intro fuel
        induction fuel with
        | zero => intro k wl hz; exact absurd hz (Nat.not_lt_zero _)
        | succ fuel ih_52 =>
          intro k wl hfu_52 hk hw hok hwl
          refine i_iload (j := 4) (q := 54) C rfl dX3_readWord_52 rfl ?_
          refine i_iload_n (j := 2) (q := 55) C rfl rfl dX3_readWord_54 rfl ?_
          refine i_icmp_ge (tgt := 79) (q := 58) C (by omega) (by omega) dX3_readWord_55 (by decide) rfl (fun c_55 => ?_) (fun c_55 => ?_)
          · skip
            refine i_aload_n (j := 0) (q := 80) C rfl rfl dX3_readWord_79 rfl ?_
            refine i_iload_n (j := 2) (q := 81) C rfl rfl dX3_readWord_80 rfl ?_
            refine i_putI (i := 0) (j := 0) (f := 7) (q := 84) (cs' := [odW ao (by_, ve, ow, fi, se, le, oc, (nb (rg by_ le) pl) + rn 97 122 (rg by_ le) (nb (rg by_ le) pl), fa)]) C rfl rfl rfl hi_X3_readWord_X3 tyX3 tyX3_ok nmX3 (by decide) (Nat.le_of_ble_eq_true rfl) lk_X3_readWord_35 rfl rfl dX3_readWord_81 rfl rfl ?_
            refine i_lload_n (j := 3) (q := 85) C rfl rfl dX3_readWord_84 rfl ?_
            refine i_lret C hR dX3_readWord_85 ?_
            have e9 : k - (nb (rg by_ le) pl) = rn 97 122 (rg by_ le) (nb (rg by_ le) pl) := by omega
            rw [e9] at hw
            have hpw : pW (rg by_ le) pl = (0, nb (rg by_ le) pl + rn 97 122 (rg by_ le) (nb (rg by_ le) pl), wl) := by
              unfold pW
              rw [if_pos hal, sli_rg (by omega) hr2.1 hr2.2, rg_map, hw]
            exact ⟨by rw [hpw], by rw [hpw]; unfold ff; rw [if_neg (fun z => by omega)]⟩
          · skip
            refine i_lload_n (j := 3) (q := 59) C rfl rfl dX3_readWord_58 rfl ?_
            refine i_aload_n (j := 0) (q := 60) C rfl rfl dX3_readWord_59 rfl ?_
            refine i_get (i := 0) (j := 0) (f := 0) (q := 63) C rfl rfl rfl hi_X3_readWord_X3 (by decide) lk_X3_readWord_9 rfl dX3_readWord_60 rfl ?_
            refine i_iload (j := 4) (q := 65) C rfl dX3_readWord_63 rfl ?_
            refine i_iald (i := 0) (j := 1) (q := 66) C rfl rfl (by omega) dX3_readWord_65 rfl ?_
            have ld_65 := hby k (by omega) (by omega)
            refine i_bipush (q := 68) C (by decide) dX3_readWord_66 rfl ?_
            refine i_isub (q := 69) C dX3_readWord_68 rfl ?_
            refine i_callS (wr := [odW ao (by_, ve, ow, fi, se, le, oc, nb (rg by_ le) pl, fa)]) (As := [vJ (((pck wl : Nat) : Int)), vI ((by_ k) - 97)]) (st := []) (q := 72) C (c_X6_longer K l (wl) ((by_ k) - 97) (hok) (by omega) (by have := hall k hk.1 (by omega); omega)) gX3_readWord_X6_longer rfl hd_X6_longer ⟨Nat.le_of_ble_eq_true rfl, Nat.le_of_ble_eq_true rfl⟩ ⟨rfl, rfl⟩ ⟨Nat.le_of_ble_eq_true rfl, Nat.le_of_ble_eq_true rfl⟩ (permBy [0] (by decide) rfl rfl) rfl (Nat.le_of_ble_eq_true rfl) dX3_readWord_69 rfl (fun v w hq => ?_)
            obtain ⟨rfl, rfl⟩ := hq
            show V X 0 0 72 [(0, vP (ao 0)), (1, vI (nb (rg by_ le) pl)), (2, vI ((nb (rg by_ le) pl) + rn 97 122 (rg by_ le) (nb (rg by_ le) pl))), (3, vJ (((pck wl : Nat) : Int))), (5, vI k)] [vJ (((pck (wl ++ [((by_ k) - 97)]) : Nat) : Int))] [odW ao (by_, ve, ow, fi, se, le, oc, nb (rg by_ le) pl, fa)]
            refine i_lstore_n (q := 73) (lv' := [(3, vJ (((pck (wl ++ [((by_ k) - 97)]) : Nat) : Int))), (0, vP (ao 0)), (1, vI (nb (rg by_ le) pl)), (2, vI ((nb (rg by_ le) pl) + rn 97 122 (rg by_ le) (nb (rg by_ le) pl))), (5, vI k)]) C rfl (by decide) rfl dX3_readWord_72 rfl ?_
            refine i_iinc (j := 4) (q := 76) (lv' := [(5, vI (k + 1)), (3, vJ (((pck (wl ++ [((by_ k) - 97)]) : Nat) : Int))), (0, vP (ao 0)), (1, vI (nb (rg by_ le) pl)), (2, vI ((nb (rg by_ le) pl) + rn 97 122 (rg by_ le) (nb (rg by_ le) pl)))]) C rfl (by decide) rfl dX3_readWord_73 rfl ?_
            refine i_goto (q := 52) C dX3_readWord_76 (by decide) ?_
            refine V.lv [2, 3, 4, 1, 0] rfl ?_
            exact ih_52 (k + 1) ((wl ++ [((by_ k) - 97)])) (by omega) (by omega) (by rw [show k + 1 - (nb (rg by_ le) pl) = (k - (nb (rg by_ le) pl)) + 1 by omega, rg_s _ (by omega), ← hw, show nb (rg by_ le) pl + (k - (nb (rg by_ le) pl)) = k by omega]) (hok.app (fun y hy => by have := hall k hk.1 (by omega); rw [List.mem_singleton.mp hy]; omega)) (by simp; omega)
      refine V.lv [4, 3, 2, 1, 0] rfl ?_
      exact loop_52 _ (nb (rg by_ le) pl) ([]) (Nat.lt_succ_self _) (by omega) (by rw [Int.sub_self]; rfl) (fun y hy => by simp at hy) (by simp)
    · skip
      refine i_aload_n (j := 2) (q := 41) C rfl rfl dX3_readWord_40 rfl ?_
      refine i_iload_n (j := 1) (q := 42) C rfl rfl dX3_readWord_41 rfl ?_
      refine i_callV (wr := []) (As := [vI (nb (rg by_ le) pl)]) (st := []) (i := 0) (j := 0) (q := 45) C (c_X3_fail K l (ao) (by_) (ve) (ow) (fi) (se) (le) (oc) (nb (rg by_ le) pl) (fa) (nb (rg by_ le) pl) (hfa)) gX3_readWord_X3_fail rfl hd_X3_fail ⟨Nat.le_of_ble_eq_true rfl, Nat.le_of_ble_eq_true rfl⟩ ⟨rfl, rfl⟩ ⟨Nat.le_of_ble_eq_true rfl, Nat.le_of_ble_eq_true rfl⟩ (permBy [0] (by decide) rfl rfl) rfl rfl rfl rfl (Nat.le_of_ble_eq_true rfl) dX3_readWord_42 rfl (fun v w hq => ?_)
      obtain ⟨rfl, rfl⟩ := hq
      show V X 0 0 45 [(2, vI ((nb (rg by_ le) pl) + rn 97 122 (rg by_ le) (nb (rg by_ le) pl))), (1, vI (nb (rg by_ le) pl)), (0, vP (ao 0))] [] [odW ao (by_, ve, ow, fi, se, le, oc, nb (rg by_ le) pl, if fa = -1 then (nb (rg by_ le) pl) else fa)]
      refine i_lconst (z := 0) (q := 46) C (by decide) dX3_readWord_45 rfl ?_
      refine i_lret C hR dX3_readWord_46 ?_
      have hpw : pW (rg by_ le) pl = (1, nb (rg by_ le) pl, []) := by unfold pW; rw [if_neg (fun z => c_37 (by have := hra.mpr z.2; omega))]
      exact ⟨by rw [hpw]; rfl, by rw [hpw]; unfold ff; simp only [and_true]⟩

theorem lk_X3_readNumber_35 : Cond.fieldLink RX3 35 (TX3 7).1 (TX3 7).2.1 (TX3 7).2.2.1 ∈ wsX3_readNumber := List.mem_of_getElem? (i := 2) rfl
theorem hi_X3_readNumber_X3 : ∀ w ∈ u_ws RX3 TX3 9, w ∈ wsX3_readNumber := by decide +kernel
theorem lk_X3_readNumber_9 : Cond.fieldLink RX3 9 (TX3 0).1 (TX3 0).2.1 (TX3 0).2.2.1 ∈ wsX3_readNumber := List.mem_of_getElem? (i := 1) rfl
set_option maxHeartbeats 400000 in
set_option maxRecDepth 100000 in
theorem c_X3_readNumber (K : KT) (l : Launch) (ao : Nat → Nat) (by_ : Int → Int) (ve : Int → Int) (ow : Int → Int) (fi : Int → Int) (se : Int → Int) (le : Int) (oc : Int) (pl : Int) (fa : Int) (mo : Int) (hle : 0 ≤ le ∧ le ≤ 120) (hby : ∀ k, 0 ≤ k → k < le → 0 ≤ by_ k ∧ by_ k ≤ 127) (hpl : 0 ≤ pl ∧ pl ≤ le) (hfa : rI fa) (hmo : 0 ≤ mo ∧ mo ≤ 1000) : Mt K l yX3_readNumber wsX3_readNumber ({ frames := 2, cells := 0, slots := 0, locals := 46 }) [vP (ao 0), vI mo] [odW ao (by_, ve, ow, fi, se, le, oc, pl, fa)] 0 0 (fun v w => v = some (vI ((pN mo (rg by_ le) pl).2.2)) ∧ w = [odW ao (by_, ve, ow, fi, se, le, oc, (pN mo (rg by_ le) pl).2.1, ff fa (pN mo (rg by_ le) pl).1 (pN mo (rg by_ le) pl).2.1)]) := by
  refine Mt.of (own := RX3) (cc := cX3_readNumber) (maxL := 6) (ret := (some .int)) (lv0 := [(0, vP (ao 0)), (1, vI mo)]) (by decide) rfl rfl (Nat.le_of_ble_eq_true rfl) rfl (fun X C hR hNm => ?_)
  have hTl : (((rg by_ le).length : Nat) : Int) = le := by rw [rg_len]; omega
  have hnbb := nb_b (rg by_ le) (p := pl) hpl.1 (by omega)
  rw [hTl] at hnbb
  have hrnb := twl_b (fun c => decide (48 ≤ c) && decide (c ≤ 57)) (rg by_ le) (p := nb (rg by_ le) pl) (by omega) (by omega)
  rw [hTl] at hrnb
  have hr2 : 0 ≤ rn 48 57 (rg by_ le) (nb (rg by_ le) pl) ∧ nb (rg by_ le) pl + rn 48 57 (rg by_ le) (nb (rg by_ le) pl) ≤ le := hrnb
  refine i_aload_n (j := 0) (q := 1) C rfl rfl dX3_readNumber_0 rfl ?_
  refine i_callV (wr := []) (As := []) (st := []) (i := 0) (j := 0) (q := 4) C (c_X3_startOfNext K l (ao) (by_) (ve) (ow) (fi) (se) (le) (oc) (pl) (fa) (by first | assumption | omega) (by first | assumption | omega) (by first | assumption | omega)) gX3_readNumber_X3_startOfNext rfl hd_X3_startOfNext ⟨Nat.le_of_ble_eq_true rfl, Nat.le_of_ble_eq_true rfl⟩ ⟨rfl, rfl⟩ ⟨Nat.le_of_ble_eq_true rfl, Nat.le_of_ble_eq_true rfl⟩ (permBy [0] (by decide) rfl rfl) rfl rfl rfl rfl (Nat.le_of_ble_eq_true rfl) dX3_readNumber_1 rfl (fun v w hq => ?_)
  obtain ⟨rfl, rfl⟩ := hq
  show V X 0 0 4 [(0, vP (ao 0)), (1, vI mo)] [vI (nb (rg by_ le) pl)] [odW ao (by_, ve, ow, fi, se, le, oc, nb (rg by_ le) pl, fa)]
  refine i_istore_n (q := 5) (lv' := [(2, vI (nb (rg by_ le) pl)), (0, vP (ao 0)), (1, vI mo)]) C rfl (by decide) rfl dX3_readNumber_4 rfl ?_
  refine i_aload_n (j := 1) (q := 6) C rfl rfl dX3_readNumber_5 rfl ?_
  refine i_iload_n (j := 0) (q := 7) C rfl rfl dX3_readNumber_6 rfl ?_
  refine i_bipush (q := 9) C (by decide) dX3_readNumber_7 rfl ?_
  refine i_bipush (q := 11) C (by decide) dX3_readNumber_9 rfl ?_
  refine i_callV (wr := []) (As := [vI (nb (rg by_ le) pl), vI 48, vI 57]) (st := []) (i := 0) (j := 0) (q := 14) C (c_X3_endOfRun K l (ao) (by_) (ve) (ow) (fi) (se) (le) (oc) (nb (rg by_ le) pl) (fa) (nb (rg by_ le) pl) (48) (57) (by first | assumption | omega) (by first | assumption | omega) (by omega) (by omega) (by omega)) gX3_readNumber_X3_endOfRun rfl hd_X3_endOfRun ⟨Nat.le_of_ble_eq_true rfl, Nat.le_of_ble_eq_true rfl⟩ ⟨rfl, rfl⟩ ⟨Nat.le_of_ble_eq_true rfl, Nat.le_of_ble_eq_true rfl⟩ (permBy [0] (by decide) rfl rfl) rfl rfl rfl rfl (Nat.le_of_ble_eq_true rfl) dX3_readNumber_11 rfl (fun v w hq => ?_)
  obtain ⟨rfl, rfl⟩ := hq
  show V X 0 0 14 [(2, vI (nb (rg by_ le) pl)), (0, vP (ao 0)), (1, vI mo)] [vI ((nb (rg by_ le) pl) + rn 48 57 (rg by_ le) (nb (rg by_ le) pl))] [odW ao (by_, ve, ow, fi, se, le, oc, nb (rg by_ le) pl, fa)]
  refine i_istore_n (q := 15) (lv' := [(3, vI ((nb (rg by_ le) pl) + rn 48 57 (rg by_ le) (nb (rg by_ le) pl))), (2, vI (nb (rg by_ le) pl)), (0, vP (ao 0)), (1, vI mo)]) C rfl (by decide) rfl dX3_readNumber_14 rfl ?_
  refine i_iload_n (j := 0) (q := 16) C rfl rfl dX3_readNumber_15 rfl ?_
  refine i_iload_n (j := 1) (q := 17) C rfl rfl dX3_readNumber_16 rfl ?_
  refine i_isub (q := 18) C dX3_readNumber_17 rfl ?_
  refine V.top (b := rn 48 57 (rg by_ le) (nb (rg by_ le) pl)) (by omega) ?_
  refine i_iconst (q := 19) C dX3_readNumber_18 rfl ?_
  refine i_iconst (q := 20) C dX3_readNumber_19 rfl ?_
  refine i_callSN (host := RX7) (wr := [odW ao (by_, ve, ow, fi, se, le, oc, nb (rg by_ le) pl, fa)]) (As := [vI (rn 48 57 (rg by_ le) (nb (rg by_ le) pl)), vI 1, vI 4]) (st := []) (q := 23) C (c_X7_isWithin K l (rn 48 57 (rg by_ le) (nb (rg by_ le) pl)) (1) (4) (by omega) (by omega) (by omega)) gX3_readNumber_X7_isWithin_n113 rfl (by decide) (List.mem_of_getElem? (i := 17) rfl) (List.mem_of_getElem? (i := 18) rfl) hd_X7_isWithin ⟨Nat.le_of_ble_eq_true rfl, Nat.le_of_ble_eq_true rfl⟩ ⟨rfl, rfl⟩ ⟨Nat.le_of_ble_eq_true rfl, Nat.le_of_ble_eq_true rfl⟩ (permBy [0] (by decide) rfl rfl) rfl (Nat.le_of_ble_eq_true rfl) dX3_readNumber_20 rfl (fun v w hq => ?_)
  obtain ⟨rfl, rfl⟩ := hq
  show V X 0 0 23 [(3, vI ((nb (rg by_ le) pl) + rn 48 57 (rg by_ le) (nb (rg by_ le) pl))), (2, vI (nb (rg by_ le) pl)), (0, vP (ao 0)), (1, vI mo)] [vI (if 1 ≤ (rn 48 57 (rg by_ le) (nb (rg by_ le) pl)) ∧ (rn 48 57 (rg by_ le) (nb (rg by_ le) pl)) ≤ 4 then 1 else 0)] [odW ao (by_, ve, ow, fi, se, le, oc, nb (rg by_ le) pl, fa)]
  refine i_if_ne (tgt := 33) (q := 26) C (if01) dX3_readNumber_23 (by decide) rfl (fun c_23 => ?_) (fun c_23 => ?_)
  · skip
    have h_23 := ifn0 c_23
    refine i_iconst (q := 34) C dX3_readNumber_33 rfl ?_
    refine i_istore (q := 36) (lv' := [(4, vI 0), (3, vI ((nb (rg by_ le) pl) + rn 48 57 (rg by_ le) (nb (rg by_ le) pl))), (2, vI (nb (rg by_ le) pl)), (0, vP (ao 0)), (1, vI mo)]) C (by decide) rfl dX3_readNumber_34 rfl ?_
    refine i_iload_n (j := 2) (q := 37) C rfl rfl dX3_readNumber_36 rfl ?_
    refine i_istore (q := 39) (lv' := [(5, vI (nb (rg by_ le) pl)), (4, vI 0), (3, vI ((nb (rg by_ le) pl) + rn 48 57 (rg by_ le) (nb (rg by_ le) pl))), (2, vI (nb (rg by_ le) pl)), (0, vP (ao 0)), (1, vI mo)]) C (by decide) rfl dX3_readNumber_37 rfl ?_
    have loop_39 : ∀ (fuel : Nat) (k : Int) (v : Int), ((nb (rg by_ le) pl + rn 48 57 (rg by_ le) (nb (rg by_ le) pl) - k).toNat) < fuel → (nb (rg by_ le) pl ≤ k ∧ k ≤ nb (rg by_ le) pl + rn 48 57 (rg by_ le) (nb (rg by_ le) pl)) → (v = numv (rg (fun j => by_ (nb (rg by_ le) pl + j)) (k - (nb (rg by_ le) pl)))) → (0 ≤ v ∧ ((k = nb (rg by_ le) pl ∧ v ≤ 0) ∨ (k = nb (rg by_ le) pl + 1 ∧ v ≤ 9) ∨ (k = nb (rg by_ le) pl + 2 ∧ v ≤ 99) ∨ (k = nb (rg by_ le) pl + 3 ∧ v ≤ 999) ∨ (k = nb (rg by_ le) pl + 4 ∧ v ≤ 9999))) → V X 0 0 39 [(0, vP (ao 0)), (1, vI mo), (2, vI (nb (rg by_ le) pl)), (3, vI ((nb (rg by_ le) pl) + rn 48 57 (rg by_ le) (nb (rg by_ le) pl))), (4, vI v), (5, vI k)] [] [odW ao (by_, ve, ow, fi, se, le, oc, nb (rg by_ le) pl, fa)] := by
      intro fuel
      induction fuel with
      | zero => intro k v hz; exact absurd hz (Nat.not_lt_zero _)
      | succ fuel ih_39 =>
        intro k v hfu_39 hk hv hvb
        refine i_iload (j := 5) (q := 41) C rfl dX3_readNumber_39 rfl ?_
        refine i_iload_n (j := 3) (q := 42) C rfl rfl dX3_readNumber_41 rfl ?_
        refine i_icmp_ge (tgt := 69) (q := 45) C (by omega) (by omega) dX3_readNumber_42 (by decide) rfl (fun c_42 => ?_) (fun c_42 => ?_)
        · skip
          refine i_iload (j := 4) (q := 71) C rfl dX3_readNumber_69 rfl ?_
          refine i_iload_n (j := 1) (q := 72) C rfl rfl dX3_readNumber_71 rfl ?_
          refine i_icmp_le (tgt := 82) (q := 75) C (by omega) (by omega) dX3_readNumber_72 (by decide) rfl (fun c_72 => ?_) (fun c_72 => ?_)
          · skip
            refine i_aload_n (j := 0) (q := 83) C rfl rfl dX3_readNumber_82 rfl ?_
            refine i_iload_n (j := 3) (q := 84) C rfl rfl dX3_readNumber_83 rfl ?_
            refine i_putI (i := 0) (j := 0) (f := 7) (q := 87) (cs' := [odW ao (by_, ve, ow, fi, se, le, oc, (nb (rg by_ le) pl) + rn 48 57 (rg by_ le) (nb (rg by_ le) pl), fa)]) C rfl rfl rfl hi_X3_readNumber_X3 tyX3 tyX3_ok nmX3 (by decide) (Nat.le_of_ble_eq_true rfl) lk_X3_readNumber_35 rfl rfl dX3_readNumber_84 rfl rfl ?_
            refine i_iload (j := 4) (q := 89) C rfl dX3_readNumber_87 rfl ?_
            refine i_iret C hR dX3_readNumber_89 ?_
            have e9 : k - (nb (rg by_ le) pl) = rn 48 57 (rg by_ le) (nb (rg by_ le) pl) := by omega
            rw [e9] at hv
            have hnv : numv (sli (rg by_ le) (nb (rg by_ le) pl) (rn 48 57 (rg by_ le) (nb (rg by_ le) pl))) = v := by rw [sli_rg (by omega) hr2.1 hr2.2, hv]
            have hpn : pN mo (rg by_ le) pl = (0, nb (rg by_ le) pl + rn 48 57 (rg by_ le) (nb (rg by_ le) pl), v) := by
              unfold pN
              rw [hnv, if_pos ⟨h_23, c_72⟩]
            exact ⟨by rw [hpn], by rw [hpn]; unfold ff; rw [if_neg (fun z => by omega)]⟩
          · skip
            refine i_aload_n (j := 0) (q := 76) C rfl rfl dX3_readNumber_75 rfl ?_
            refine i_iload_n (j := 2) (q := 77) C rfl rfl dX3_readNumber_76 rfl ?_
            refine i_callV (wr := []) (As := [vI (nb (rg by_ le) pl)]) (st := []) (i := 0) (j := 0) (q := 80) C (c_X3_fail K l (ao) (by_) (ve) (ow) (fi) (se) (le) (oc) (nb (rg by_ le) pl) (fa) (nb (rg by_ le) pl) (hfa)) gX3_readNumber_X3_fail rfl hd_X3_fail ⟨Nat.le_of_ble_eq_true rfl, Nat.le_of_ble_eq_true rfl⟩ ⟨rfl, rfl⟩ ⟨Nat.le_of_ble_eq_true rfl, Nat.le_of_ble_eq_true rfl⟩ (permBy [0] (by decide) rfl rfl) rfl rfl rfl rfl (Nat.le_of_ble_eq_true rfl) dX3_readNumber_77 rfl (fun v w hq => ?_)
            obtain ⟨rfl, rfl⟩ := hq
            show V X 0 0 80 [(0, vP (ao 0)), (1, vI mo), (2, vI (nb (rg by_ le) pl)), (3, vI ((nb (rg by_ le) pl) + rn 48 57 (rg by_ le) (nb (rg by_ le) pl))), (4, vI v), (5, vI k)] [] [odW ao (by_, ve, ow, fi, se, le, oc, nb (rg by_ le) pl, if fa = -1 then (nb (rg by_ le) pl) else fa)]
            refine i_iconst (q := 81) C dX3_readNumber_80 rfl ?_
            refine i_iret C hR dX3_readNumber_81 ?_
            have e9 : k - (nb (rg by_ le) pl) = rn 48 57 (rg by_ le) (nb (rg by_ le) pl) := by omega
            rw [e9] at hv
            have hnv : numv (sli (rg by_ le) (nb (rg by_ le) pl) (rn 48 57 (rg by_ le) (nb (rg by_ le) pl))) = v := by rw [sli_rg (by omega) hr2.1 hr2.2, hv]
            have hpn : pN mo (rg by_ le) pl = (1, nb (rg by_ le) pl, 0) := by unfold pN; rw [if_neg (fun z => by rw [hnv] at z; omega)]
            exact ⟨by rw [hpn], by rw [hpn]; unfold ff; simp only [and_true]⟩
        · skip
          refine i_bipush (q := 47) C (by decide) dX3_readNumber_45 rfl ?_
          refine i_iload (j := 4) (q := 49) C rfl dX3_readNumber_47 rfl ?_
          refine i_imul (q := 50) C dX3_readNumber_49 rfl ?_
          refine i_aload_n (j := 0) (q := 51) C rfl rfl dX3_readNumber_50 rfl ?_
          refine i_get (i := 0) (j := 0) (f := 0) (q := 54) C rfl rfl rfl hi_X3_readNumber_X3 (by decide) lk_X3_readNumber_9 rfl dX3_readNumber_51 rfl ?_
          refine i_iload (j := 5) (q := 56) C rfl dX3_readNumber_54 rfl ?_
          refine i_iald (i := 0) (j := 1) (q := 57) C rfl rfl (by omega) dX3_readNumber_56 rfl ?_
          have ld_56 := rn_in (f := by_) (n := le) (a := 48) (b := 57) (p := nb (rg by_ le) pl) (by omega) (by omega) hk.1 (show k < nb (rg by_ le) pl + rn 48 57 (rg by_ le) (nb (rg by_ le) pl) by omega)
          refine i_iadd (q := 58) C dX3_readNumber_57 rfl ?_
          refine i_bipush (q := 60) C (by decide) dX3_readNumber_58 rfl ?_
          refine i_isub (q := 61) C dX3_readNumber_60 rfl ?_
          refine i_istore (q := 63) (lv' := [(4, vI (((10 * v) + (by_ k)) - 48)), (0, vP (ao 0)), (1, vI mo), (2, vI (nb (rg by_ le) pl)), (3, vI ((nb (rg by_ le) pl) + rn 48 57 (rg by_ le) (nb (rg by_ le) pl))), (5, vI k)]) C (by decide) rfl dX3_readNumber_61 rfl ?_
          refine i_iinc (j := 5) (q := 66) (lv' := [(5, vI (k + 1)), (4, vI (((10 * v) + (by_ k)) - 48)), (0, vP (ao 0)), (1, vI mo), (2, vI (nb (rg by_ le) pl)), (3, vI ((nb (rg by_ le) pl) + rn 48 57 (rg by_ le) (nb (rg by_ le) pl)))]) C rfl (by decide) rfl dX3_readNumber_63 rfl ?_
          refine i_goto (q := 39) C dX3_readNumber_66 (by decide) ?_
          refine V.lv [2, 3, 4, 5, 1, 0] rfl ?_
          exact ih_39 (k + 1) (((10 * v) + (by_ k)) - 48) (by omega) (by omega) (by rw [show k + 1 - (nb (rg by_ le) pl) = (k - (nb (rg by_ le) pl)) + 1 by omega, numv_s _ (by omega), ← hv, show nb (rg by_ le) pl + (k - (nb (rg by_ le) pl)) = k by omega]) (by omega)
    refine V.lv [4, 5, 3, 2, 1, 0] rfl ?_
    exact loop_39 _ (nb (rg by_ le) pl) (0) (Nat.lt_succ_self _) (by omega) (by rw [Int.sub_self]; rfl) (by omega)
  · skip
    have h_23 := if0 c_23
    refine i_aload_n (j := 2) (q := 27) C rfl rfl dX3_readNumber_26 rfl ?_
    refine i_iload_n (j := 1) (q := 28) C rfl rfl dX3_readNumber_27 rfl ?_
    refine i_callV (wr := []) (As := [vI (nb (rg by_ le) pl)]) (st := []) (i := 0) (j := 0) (q := 31) C (c_X3_fail K l (ao) (by_) (ve) (ow) (fi) (se) (le) (oc) (nb (rg by_ le) pl) (fa) (nb (rg by_ le) pl) (hfa)) gX3_readNumber_X3_fail rfl hd_X3_fail ⟨Nat.le_of_ble_eq_true rfl, Nat.le_of_ble_eq_true rfl⟩ ⟨rfl, rfl⟩ ⟨Nat.le_of_ble_eq_true rfl, Nat.le_of_ble_eq_true rfl⟩ (permBy [0] (by decide) rfl rfl) rfl rfl rfl rfl (Nat.le_of_ble_eq_true rfl) dX3_readNumber_28 rfl (fun v w hq => ?_)
    obtain ⟨rfl, rfl⟩ := hq
    show V X 0 0 31 [(3, vI ((nb (rg by_ le) pl) + rn 48 57 (rg by_ le) (nb (rg by_ le) pl))), (2, vI (nb (rg by_ le) pl)), (0, vP (ao 0)), (1, vI mo)] [] [odW ao (by_, ve, ow, fi, se, le, oc, nb (rg by_ le) pl, if fa = -1 then (nb (rg by_ le) pl) else fa)]
    refine i_iconst (q := 32) C dX3_readNumber_31 rfl ?_
    refine i_iret C hR dX3_readNumber_32 ?_
    have hpn : pN mo (rg by_ le) pl = (1, nb (rg by_ le) pl, 0) := by unfold pN; rw [if_neg (fun z => h_23 z.1)]
    exact ⟨by rw [hpn], by rw [hpn]; unfold ff; simp only [and_true]⟩

theorem lk_X3_readEnd_15 : Cond.fieldLink RX3 15 (TX3 1).1 (TX3 1).2.1 (TX3 1).2.2.1 ∈ wsX3_readEnd := List.mem_of_getElem? (i := 1) rfl
theorem hi_X3_readEnd_X3 : ∀ w ∈ u_ws RX3 TX3 9, w ∈ wsX3_readEnd := by decide +kernel
theorem lk_X3_readEnd_9 : Cond.fieldLink RX3 9 (TX3 0).1 (TX3 0).2.1 (TX3 0).2.2.1 ∈ wsX3_readEnd := List.mem_of_getElem? (i := 2) rfl
theorem lk_X3_readEnd_35 : Cond.fieldLink RX3 35 (TX3 7).1 (TX3 7).2.1 (TX3 7).2.2.1 ∈ wsX3_readEnd := List.mem_of_getElem? (i := 3) rfl
set_option maxHeartbeats 400000 in
set_option maxRecDepth 100000 in
theorem c_X3_readEnd (K : KT) (l : Launch) (ao : Nat → Nat) (by_ : Int → Int) (ve : Int → Int) (ow : Int → Int) (fi : Int → Int) (se : Int → Int) (le : Int) (oc : Int) (pl : Int) (fa : Int) (hle : 0 ≤ le ∧ le ≤ 120) (hby : ∀ k, 0 ≤ k → k < le → 0 ≤ by_ k ∧ by_ k ≤ 127) (hpl : 0 ≤ pl ∧ pl ≤ le) (hfa : rI fa) : Mt K l yX3_readEnd wsX3_readEnd ({ frames := 2, cells := 0, slots := 0, locals := 40 }) [vP (ao 0)] [odW ao (by_, ve, ow, fi, se, le, oc, pl, fa)] 0 0 (fun v w => v = none ∧ w = [odW ao (by_, ve, ow, fi, se, le, oc, (pE (rg by_ le) pl).2, ff fa (pE (rg by_ le) pl).1 (pE (rg by_ le) pl).2)]) := by
  refine Mt.of (own := RX3) (cc := cX3_readEnd) (maxL := 2) (ret := none) (lv0 := [(0, vP (ao 0))]) (by decide) rfl rfl (Nat.le_of_ble_eq_true rfl) rfl (fun X C hR hNm => ?_)
  have hTl : (((rg by_ le).length : Nat) : Int) = le := by rw [rg_len]; omega
  have hnbb := nb_b (rg by_ le) (p := pl) hpl.1 (by omega)
  rw [hTl] at hnbb
  refine i_aload_n (j := 0) (q := 1) C rfl rfl dX3_readEnd_0 rfl ?_
  refine i_callV (wr := []) (As := []) (st := []) (i := 0) (j := 0) (q := 4) C (c_X3_startOfNext K l (ao) (by_) (ve) (ow) (fi) (se) (le) (oc) (pl) (fa) (by first | assumption | omega) (by first | assumption | omega) (by first | assumption | omega)) gX3_readEnd_X3_startOfNext rfl hd_X3_startOfNext ⟨Nat.le_of_ble_eq_true rfl, Nat.le_of_ble_eq_true rfl⟩ ⟨rfl, rfl⟩ ⟨Nat.le_of_ble_eq_true rfl, Nat.le_of_ble_eq_true rfl⟩ (permBy [0] (by decide) rfl rfl) rfl rfl rfl rfl (Nat.le_of_ble_eq_true rfl) dX3_readEnd_1 rfl (fun v w hq => ?_)
  obtain ⟨rfl, rfl⟩ := hq
  show V X 0 0 4 [(0, vP (ao 0))] [vI (nb (rg by_ le) pl)] [odW ao (by_, ve, ow, fi, se, le, oc, nb (rg by_ le) pl, fa)]
  refine i_istore_n (q := 5) (lv' := [(1, vI (nb (rg by_ le) pl)), (0, vP (ao 0))]) C rfl (by decide) rfl dX3_readEnd_4 rfl ?_
  refine i_iload_n (j := 0) (q := 6) C rfl rfl dX3_readEnd_5 rfl ?_
  refine i_aload_n (j := 1) (q := 7) C rfl rfl dX3_readEnd_6 rfl ?_
  refine i_get (i := 0) (j := 0) (f := 1) (q := 10) C rfl rfl rfl hi_X3_readEnd_X3 (by decide) lk_X3_readEnd_15 rfl dX3_readEnd_7 rfl ?_
  refine i_icmp_ge (tgt := 34) (q := 13) C (by omega) (by omega) dX3_readEnd_10 (by decide) rfl (fun c_10 => ?_) (fun c_10 => ?_)
  · skip
    refine i_aload_n (j := 1) (q := 35) C rfl rfl dX3_readEnd_34 rfl ?_
    refine i_iload_n (j := 0) (q := 36) C rfl rfl dX3_readEnd_35 rfl ?_
    refine i_callV (wr := []) (As := [vI (nb (rg by_ le) pl)]) (st := []) (i := 0) (j := 0) (q := 39) C (c_X3_fail K l (ao) (by_) (ve) (ow) (fi) (se) (le) (oc) (nb (rg by_ le) pl) (fa) (nb (rg by_ le) pl) (hfa)) gX3_readEnd_X3_fail rfl hd_X3_fail ⟨Nat.le_of_ble_eq_true rfl, Nat.le_of_ble_eq_true rfl⟩ ⟨rfl, rfl⟩ ⟨Nat.le_of_ble_eq_true rfl, Nat.le_of_ble_eq_true rfl⟩ (permBy [0] (by decide) rfl rfl) rfl rfl rfl rfl (Nat.le_of_ble_eq_true rfl) dX3_readEnd_36 rfl (fun v w hq => ?_)
    obtain ⟨rfl, rfl⟩ := hq
    show V X 0 0 39 [(1, vI (nb (rg by_ le) pl)), (0, vP (ao 0))] [] [odW ao (by_, ve, ow, fi, se, le, oc, nb (rg by_ le) pl, if fa = -1 then (nb (rg by_ le) pl) else fa)]
    refine i_vret C hR dX3_readEnd_39 ?_
    have hgd := rg_getD by_ (n := le) (k := nb (rg by_ le) pl) (-1) (by omega)
    rw [if_neg (by omega)] at hgd
    have hpe : pE (rg by_ le) pl = (1, nb (rg by_ le) pl) := by unfold pE; rw [hgd, if_neg (by decide)]
    exact ⟨rfl, by rw [hpe]; unfold ff; simp only [and_true]⟩
  · skip
    refine i_aload_n (j := 1) (q := 14) C rfl rfl dX3_readEnd_13 rfl ?_
    refine i_get (i := 0) (j := 0) (f := 0) (q := 17) C rfl rfl rfl hi_X3_readEnd_X3 (by decide) lk_X3_readEnd_9 rfl dX3_readEnd_14 rfl ?_
    refine i_iload_n (j := 0) (q := 18) C rfl rfl dX3_readEnd_17 rfl ?_
    refine i_iald (i := 0) (j := 1) (q := 19) C rfl rfl (by omega) dX3_readEnd_18 rfl ?_
    have ld_18 := hby (nb (rg by_ le) pl) (by omega) (by omega)
    refine i_bipush (q := 21) C (by decide) dX3_readEnd_19 rfl ?_
    refine i_icmp_ne (tgt := 34) (q := 24) C (by omega) (by omega) dX3_readEnd_21 (by decide) rfl (fun c_21 => ?_) (fun c_21 => ?_)
    · skip
      refine i_aload_n (j := 1) (q := 35) C rfl rfl dX3_readEnd_34 rfl ?_
      refine i_iload_n (j := 0) (q := 36) C rfl rfl dX3_readEnd_35 rfl ?_
      refine i_callV (wr := []) (As := [vI (nb (rg by_ le) pl)]) (st := []) (i := 0) (j := 0) (q := 39) C (c_X3_fail K l (ao) (by_) (ve) (ow) (fi) (se) (le) (oc) (nb (rg by_ le) pl) (fa) (nb (rg by_ le) pl) (hfa)) gX3_readEnd_X3_fail rfl hd_X3_fail ⟨Nat.le_of_ble_eq_true rfl, Nat.le_of_ble_eq_true rfl⟩ ⟨rfl, rfl⟩ ⟨Nat.le_of_ble_eq_true rfl, Nat.le_of_ble_eq_true rfl⟩ (permBy [0] (by decide) rfl rfl) rfl rfl rfl rfl (Nat.le_of_ble_eq_true rfl) dX3_readEnd_36 rfl (fun v w hq => ?_)
      obtain ⟨rfl, rfl⟩ := hq
      show V X 0 0 39 [(1, vI (nb (rg by_ le) pl)), (0, vP (ao 0))] [] [odW ao (by_, ve, ow, fi, se, le, oc, nb (rg by_ le) pl, if fa = -1 then (nb (rg by_ le) pl) else fa)]
      refine i_vret C hR dX3_readEnd_39 ?_
      have hgd := rg_getD by_ (n := le) (k := nb (rg by_ le) pl) (-1) (by omega)
      rw [if_pos (by omega)] at hgd
      have hpe : pE (rg by_ le) pl = (1, nb (rg by_ le) pl) := by unfold pE; rw [hgd, if_neg (c_21)]
      exact ⟨rfl, by rw [hpe]; unfold ff; simp only [and_true]⟩
    · skip
      refine i_aload_n (j := 1) (q := 25) C rfl rfl dX3_readEnd_24 rfl ?_
      refine i_iload_n (j := 0) (q := 26) C rfl rfl dX3_readEnd_25 rfl ?_
      refine i_iconst (q := 27) C dX3_readEnd_26 rfl ?_
      refine i_iadd (q := 28) C dX3_readEnd_27 rfl ?_
      refine i_putI (i := 0) (j := 0) (f := 7) (q := 31) (cs' := [odW ao (by_, ve, ow, fi, se, le, oc, (nb (rg by_ le) pl) + 1, fa)]) C rfl rfl rfl hi_X3_readEnd_X3 tyX3 tyX3_ok nmX3 (by decide) (Nat.le_of_ble_eq_true rfl) lk_X3_readEnd_35 rfl rfl dX3_readEnd_28 rfl rfl ?_
      refine i_goto (q := 39) C dX3_readEnd_31 (by decide) ?_
      refine i_vret C hR dX3_readEnd_39 ?_
      have hgd := rg_getD by_ (n := le) (k := nb (rg by_ le) pl) (-1) (by omega)
      rw [if_pos (by omega)] at hgd
      have hpe : pE (rg by_ le) pl = (0, nb (rg by_ le) pl + 1) := by unfold pE; rw [hgd, if_pos c_21]
      exact ⟨rfl, by rw [hpe]; unfold ff; rw [if_neg (fun z => by omega)]⟩

set_option maxHeartbeats 400000 in
set_option maxRecDepth 100000 in
theorem c_X3_hasWord (K : KT) (l : Launch) (vb : Int) (hv : rI vb) : Mt K l yX3_hasWord wsX3_hasWord ({ frames := 0, cells := 0, slots := 0, locals := 0 }) [vI vb] [] 0 0 (fun v w => v = some (vI (if vb = 0 ∨ vb = 1 ∨ vb = 2 ∨ vb = 3 then 1 else 0)) ∧ w = []) := by
  refine Mt.of (own := RX3) (cc := cX3_hasWord) (maxL := 1) (ret := (some .boolean)) (lv0 := [(0, vI vb)]) (by decide) rfl rfl (Nat.le_of_ble_eq_true rfl) rfl (fun X C hR hNm => ?_)
  refine i_iload_n (j := 0) (q := 1) C rfl rfl dX3_hasWord_0 rfl ?_
  refine i_if_eq (tgt := 19) (q := 4) C (by omega) dX3_hasWord_1 (by decide) rfl (fun c_1 => ?_) (fun c_1 => ?_)
  · skip
    refine i_iconst (q := 20) C dX3_hasWord_19 rfl ?_
    refine i_goto (q := 24) C dX3_hasWord_20 (by decide) ?_
    refine i_zret C hR (by omega) dX3_hasWord_24 ?_
    exact ⟨by
      simp only [Option.some.injEq, Sum.inl.injEq]
      first | rw [if_pos (by omega)] | rw [if_neg (by omega)], rfl⟩
  · skip
    refine i_iload_n (j := 0) (q := 5) C rfl rfl dX3_hasWord_4 rfl ?_
    refine i_iconst (q := 6) C dX3_hasWord_5 rfl ?_
    refine i_icmp_eq (tgt := 19) (q := 9) C (by omega) (by omega) dX3_hasWord_6 (by decide) rfl (fun c_6 => ?_) (fun c_6 => ?_)
    · skip
      refine i_iconst (q := 20) C dX3_hasWord_19 rfl ?_
      refine i_goto (q := 24) C dX3_hasWord_20 (by decide) ?_
      refine i_zret C hR (by omega) dX3_hasWord_24 ?_
      exact ⟨by
        simp only [Option.some.injEq, Sum.inl.injEq]
        first | rw [if_pos (by omega)] | rw [if_neg (by omega)], rfl⟩
    · skip
      refine i_iload_n (j := 0) (q := 10) C rfl rfl dX3_hasWord_9 rfl ?_
      refine i_iconst (q := 11) C dX3_hasWord_10 rfl ?_
      refine i_icmp_eq (tgt := 19) (q := 14) C (by omega) (by omega) dX3_hasWord_11 (by decide) rfl (fun c_11 => ?_) (fun c_11 => ?_)
      · skip
        refine i_iconst (q := 20) C dX3_hasWord_19 rfl ?_
        refine i_goto (q := 24) C dX3_hasWord_20 (by decide) ?_
        refine i_zret C hR (by omega) dX3_hasWord_24 ?_
        exact ⟨by
          simp only [Option.some.injEq, Sum.inl.injEq]
          first | rw [if_pos (by omega)] | rw [if_neg (by omega)], rfl⟩
      · skip
        refine i_iload_n (j := 0) (q := 15) C rfl rfl dX3_hasWord_14 rfl ?_
        refine i_iconst (q := 16) C dX3_hasWord_15 rfl ?_
        refine i_icmp_ne (tgt := 23) (q := 19) C (by omega) (by omega) dX3_hasWord_16 (by decide) rfl (fun c_16 => ?_) (fun c_16 => ?_)
        · skip
          refine i_iconst (q := 24) C dX3_hasWord_23 rfl ?_
          refine i_zret C hR (by omega) dX3_hasWord_24 ?_
          exact ⟨by
            simp only [Option.some.injEq, Sum.inl.injEq]
            first | rw [if_pos (by omega)] | rw [if_neg (by omega)], rfl⟩
        · skip
          refine i_iconst (q := 20) C dX3_hasWord_19 rfl ?_
          refine i_goto (q := 24) C dX3_hasWord_20 (by decide) ?_
          refine i_zret C hR (by omega) dX3_hasWord_24 ?_
          exact ⟨by
            simp only [Option.some.injEq, Sum.inl.injEq]
            first | rw [if_pos (by omega)] | rw [if_neg (by omega)], rfl⟩

set_option maxHeartbeats 400000 in
set_option maxRecDepth 100000 in
theorem c_X3_hasNumber (K : KT) (l : Launch) (vb : Int) (hv : rI vb) : Mt K l yX3_hasNumber wsX3_hasNumber ({ frames := 0, cells := 0, slots := 0, locals := 0 }) [vI vb] [] 0 0 (fun v w => v = some (vI (if vb = 0 ∨ vb = 2 ∨ vb = 4 ∨ vb = 5 then 1 else 0)) ∧ w = []) := by
  refine Mt.of (own := RX3) (cc := cX3_hasNumber) (maxL := 1) (ret := (some .boolean)) (lv0 := [(0, vI vb)]) (by decide) rfl rfl (Nat.le_of_ble_eq_true rfl) rfl (fun X C hR hNm => ?_)
  refine i_iload_n (j := 0) (q := 1) C rfl rfl dX3_hasNumber_0 rfl ?_
  refine i_if_eq (tgt := 19) (q := 4) C (by omega) dX3_hasNumber_1 (by decide) rfl (fun c_1 => ?_) (fun c_1 => ?_)
  · skip
    refine i_iconst (q := 20) C dX3_hasNumber_19 rfl ?_
    refine i_goto (q := 24) C dX3_hasNumber_20 (by decide) ?_
    refine i_zret C hR (by omega) dX3_hasNumber_24 ?_
    exact ⟨by
      simp only [Option.some.injEq, Sum.inl.injEq]
      first | rw [if_pos (by omega)] | rw [if_neg (by omega)], rfl⟩
  · skip
    refine i_iload_n (j := 0) (q := 5) C rfl rfl dX3_hasNumber_4 rfl ?_
    refine i_iconst (q := 6) C dX3_hasNumber_5 rfl ?_
    refine i_icmp_eq (tgt := 19) (q := 9) C (by omega) (by omega) dX3_hasNumber_6 (by decide) rfl (fun c_6 => ?_) (fun c_6 => ?_)
    · skip
      refine i_iconst (q := 20) C dX3_hasNumber_19 rfl ?_
      refine i_goto (q := 24) C dX3_hasNumber_20 (by decide) ?_
      refine i_zret C hR (by omega) dX3_hasNumber_24 ?_
      exact ⟨by
        simp only [Option.some.injEq, Sum.inl.injEq]
        first | rw [if_pos (by omega)] | rw [if_neg (by omega)], rfl⟩
    · skip
      refine i_iload_n (j := 0) (q := 10) C rfl rfl dX3_hasNumber_9 rfl ?_
      refine i_iconst (q := 11) C dX3_hasNumber_10 rfl ?_
      refine i_icmp_eq (tgt := 19) (q := 14) C (by omega) (by omega) dX3_hasNumber_11 (by decide) rfl (fun c_11 => ?_) (fun c_11 => ?_)
      · skip
        refine i_iconst (q := 20) C dX3_hasNumber_19 rfl ?_
        refine i_goto (q := 24) C dX3_hasNumber_20 (by decide) ?_
        refine i_zret C hR (by omega) dX3_hasNumber_24 ?_
        exact ⟨by
          simp only [Option.some.injEq, Sum.inl.injEq]
          first | rw [if_pos (by omega)] | rw [if_neg (by omega)], rfl⟩
      · skip
        refine i_iload_n (j := 0) (q := 15) C rfl rfl dX3_hasNumber_14 rfl ?_
        refine i_iconst (q := 16) C dX3_hasNumber_15 rfl ?_
        refine i_icmp_ne (tgt := 23) (q := 19) C (by omega) (by omega) dX3_hasNumber_16 (by decide) rfl (fun c_16 => ?_) (fun c_16 => ?_)
        · skip
          refine i_iconst (q := 24) C dX3_hasNumber_23 rfl ?_
          refine i_zret C hR (by omega) dX3_hasNumber_24 ?_
          exact ⟨by
            simp only [Option.some.injEq, Sum.inl.injEq]
            first | rw [if_pos (by omega)] | rw [if_neg (by omega)], rfl⟩
        · skip
          refine i_iconst (q := 20) C dX3_hasNumber_19 rfl ?_
          refine i_goto (q := 24) C dX3_hasNumber_20 (by decide) ?_
          refine i_zret C hR (by omega) dX3_hasNumber_24 ?_
          exact ⟨by
            simp only [Option.some.injEq, Sum.inl.injEq]
            first | rw [if_pos (by omega)] | rw [if_neg (by omega)], rfl⟩

set_option maxHeartbeats 400000 in
set_option maxRecDepth 100000 in
theorem c_X3_mostNumber (K : KT) (l : Launch) (vb : Int) (hv : rI vb) : Mt K l yX3_mostNumber wsX3_mostNumber ({ frames := 0, cells := 0, slots := 0, locals := 0 }) [vI vb] [] 0 0 (fun v w => v = some (vI (if vb = 4 then 4 else 1000)) ∧ w = []) := by
  refine Mt.of (own := RX3) (cc := cX3_mostNumber) (maxL := 1) (ret := (some .int)) (lv0 := [(0, vI vb)]) (by decide) rfl rfl (Nat.le_of_ble_eq_true rfl) rfl (fun X C hR hNm => ?_)
  refine i_iload_n (j := 0) (q := 1) C rfl rfl dX3_mostNumber_0 rfl ?_
  refine i_iconst (q := 2) C dX3_mostNumber_1 rfl ?_
  refine i_icmp_ne (tgt := 7) (q := 5) C (by omega) (by omega) dX3_mostNumber_2 (by decide) rfl (fun c_2 => ?_) (fun c_2 => ?_)
  · skip
    refine i_iload_n (j := 0) (q := 8) C rfl rfl dX3_mostNumber_7 rfl ?_
    refine i_iconst (q := 9) C dX3_mostNumber_8 rfl ?_
    refine i_icmp_ne (tgt := 18) (q := 12) C (by omega) (by omega) dX3_mostNumber_9 (by decide) rfl (fun c_9 => ?_) (fun c_9 => ?_)
    · skip
      refine i_sipush (q := 21) C (by decide) dX3_mostNumber_18 rfl ?_
      refine i_iret C hR dX3_mostNumber_21 ?_
      exact ⟨by
        simp only [Option.some.injEq, Sum.inl.injEq]
        first | rw [if_pos (by omega)] | rw [if_neg (by omega)], rfl⟩
    · skip
      refine i_sipush (q := 15) C (by decide) dX3_mostNumber_12 rfl ?_
      refine i_goto (q := 21) C dX3_mostNumber_15 (by decide) ?_
      refine i_iret C hR dX3_mostNumber_21 ?_
      exact ⟨by
        simp only [Option.some.injEq, Sum.inl.injEq]
        first | rw [if_pos (by omega)] | rw [if_neg (by omega)], rfl⟩
  · skip
    refine i_iconst (q := 6) C dX3_mostNumber_5 rfl ?_
    refine i_iret C hR dX3_mostNumber_6 ?_
    exact ⟨by
      simp only [Option.some.injEq, Sum.inl.injEq]
      first | rw [if_pos (by omega)] | rw [if_neg (by omega)], rfl⟩
