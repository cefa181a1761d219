theorem hd_X8_begins : yX8_begins.cls = RX8 ∧ yX8_begins.cls ≠ "java/lang/invoke/MethodHandle" ∧ yX8_begins.cls ≠ "java/lang/invoke/VarHandle" ∧ (parseMethodDescriptor yX8_begins.desc).map (fun d => d.parameters.length) = some 1 := by decide +kernel
theorem lk_X8_isClose_7 : Cond.fieldLink RX8 7 (TX8 0).1 (TX8 0).2.1 (TX8 0).2.2.1 ∈ wsX8_isClose := List.mem_of_getElem? (i := 1) rfl
theorem hi_X8_isClose_X8 : ∀ w ∈ u_ws RX8 TX8 18, w ∈ wsX8_isClose := by decide +kernel
theorem hd_X8_becomes : yX8_becomes.cls = RX8 ∧ yX8_becomes.cls ≠ "java/lang/invoke/MethodHandle" ∧ yX8_becomes.cls ≠ "java/lang/invoke/VarHandle" ∧ (parseMethodDescriptor yX8_becomes.desc).map (fun d => d.parameters.length) = some 2 := by decide +kernel
set_option maxHeartbeats 400000 in
set_option maxRecDepth 100000 in
theorem c_X8_isClose (K : KT) (l : Launch) (am : Nat → Nat) (st : Int → Int) (bk : Int → Int) (un : Int) (ck : Int) (ty : Int → Int) (tm : Int) (tx : Int → Int) (ln : Int) (rf : Int → Int) (dg : Int) (dn : Int → Int) (rk : Int → Int) (pl : Int) (iw : Int) (wd : Int → Int) (wm : Int) (od : Int → Int) (oc : Int) (U : Int) (p : Int) (hs : okS U st) (htm : 0 ≤ tm ∧ tm ≤ 12) (hty : ∀ k, 0 ≤ k → k < tm → 0 ≤ ty k ∧ ty k ≤ 7) (hp : 0 ≤ p ∧ p < st 2800) : Mt K l yX8_isClose wsX8_isClose ({ frames := 1, cells := 0, slots := 0, locals := 27 }) [vP (am 0), vI p] [mdW am (st, bk, un, ck, ty, tm, tx, ln, rf, dg, dn, rk, pl, iw, wd, wm, od, oc)] 0 0 (fun v w => v = some (vI (if clo (rg ty tm) (lt st p) = true then 1 else 0)) ∧ w = [mdW am (st, bk, un, ck, ty, tm, tx, ln, rf, dg, dn, rk, pl, iw, wd, wm, od, oc)]) := by
  refine Mt.of (own := RX8) (cc := cX8_isClose) (maxL := 4) (ret := (some .boolean)) (lv0 := [(0, vP (am 0)), (1, vI p)]) (by decide) rfl rfl (Nat.le_of_ble_eq_true rfl) rfl (fun X C hR hNm => ?_)
  have hgv := hs.gv
  have k3 := hs.k3 p hp.1 hp.2
  have hll := lt_len hs hp.1 hp.2
  have hiff : clo (rg ty tm) (lt st p) = true ↔ (∃ j, 0 ≤ j ∧ j ≤ st (14 * p + 3) ∧ bec (rg (fun k => st (14 * p + 6 + k)) j) (rg ty tm) = true) ∧ ¬ bgs (rg ty tm) (lt st p) = true := by
    rw [clo_iff]
    constructor
    · rintro ⟨⟨n, h1, h2⟩, h3⟩
      refine ⟨⟨n, by omega, by omega, ?_⟩, h3⟩
      rw [← lt_take hs hp.1 hp.2 (by omega)]
      exact h2
    · rintro ⟨⟨j, h1, h2, h4⟩, h3⟩
      refine ⟨⟨j.toNat, by omega, ?_⟩, h3⟩
      rw [lt_take hs hp.1 hp.2 (by omega)]
      exact h4
  refine i_iconst (q := 1) C dX8_isClose_0 rfl ?_
  refine i_istore_n (q := 2) (lv' := [(2, vI 0), (0, vP (am 0)), (1, vI p)]) C rfl (by decide) rfl dX8_isClose_1 rfl ?_
  refine i_iconst (q := 3) C dX8_isClose_2 rfl ?_
  refine i_istore_n (q := 4) (lv' := [(3, vI 0), (2, vI 0), (0, vP (am 0)), (1, vI p)]) C rfl (by decide) rfl dX8_isClose_3 rfl ?_
  have join_36 : ∀ (b : Int), ((b = 0 ∧ ¬ (∃ j, 0 ≤ j ∧ j ≤ st (14 * p + 3) ∧ bec (rg (fun k => st (14 * p + 6 + k)) j) (rg ty tm) = true)) ∨ (b = 1 ∧ (∃ j, 0 ≤ j ∧ j ≤ st (14 * p + 3) ∧ bec (rg (fun k => st (14 * p + 6 + k)) j) (rg ty tm) = true))) → V X 0 0 36 [(0, vP (am 0)), (1, vI p), (2, vI b)] [] [mdW am (st, bk, un, ck, ty, tm, tx, ln, rf, dg, dn, rk, pl, iw, wd, wm, od, oc)] := by
    intro b hb
    refine i_iload_n (j := 2) (q := 37) C rfl rfl dX8_isClose_36 rfl ?_
    refine i_if_eq (tgt := 52) (q := 40) C (by omega) dX8_isClose_37 (by decide) rfl (fun c_37 => ?_) (fun c_37 => ?_)
    · skip
      refine i_iconst (q := 53) C dX8_isClose_52 rfl ?_
      refine i_zret C hR (by omega) dX8_isClose_53 ?_
      exact ⟨by
        simp only [Option.some.injEq, Sum.inl.injEq]
        rw [if_neg (fun z => by
          rcases hb with h | h
          · exact h.2 (hiff.mp z).1
          · omega)], rfl⟩
    · skip
      refine i_aload_n (j := 0) (q := 41) C rfl rfl dX8_isClose_40 rfl ?_
      refine i_iload_n (j := 1) (q := 42) C rfl rfl dX8_isClose_41 rfl ?_
      refine i_callV (wr := []) (As := [vI p]) (st := []) (i := 0) (j := 0) (q := 45) C (c_X8_begins K l (am) (st) (bk) (un) (ck) (ty) (tm) (tx) (ln) (rf) (dg) (dn) (rk) (pl) (iw) (wd) (wm) (od) (oc) (U) (p) (by first | assumption | omega) (by first | assumption | omega) (by first | assumption | omega) (by first | assumption | omega)) gX8_isClose_X8_begins rfl hd_X8_begins ⟨Nat.le_of_ble_eq_true rfl, Nat.le_of_ble_eq_true rfl⟩ ⟨rfl, rfl⟩ ⟨Nat.le_of_ble_eq_true rfl, Nat.le_of_ble_eq_true rfl⟩ (permBy [0] (by decide) rfl rfl) rfl rfl rfl rfl (Nat.le_of_ble_eq_true rfl) dX8_isClose_42 rfl (fun v w hq => ?_)
      obtain ⟨rfl, rfl⟩ := hq
      show V X 0 0 45 [(0, vP (am 0)), (1, vI p), (2, vI b)] [vI (if bgs (rg ty tm) (lt st p) = true then 1 else 0)] [mdW am (st, bk, un, ck, ty, tm, tx, ln, rf, dg, dn, rk, pl, iw, wd, wm, od, oc)]
      refine i_if_ne (tgt := 52) (q := 48) C (if01) dX8_isClose_45 (by decide) rfl (fun c_45 => ?_) (fun c_45 => ?_)
      · skip
        have h_45 := ifn0 c_45
        refine i_iconst (q := 53) C dX8_isClose_52 rfl ?_
        refine i_zret C hR (by omega) dX8_isClose_53 ?_
        exact ⟨by
          simp only [Option.some.injEq, Sum.inl.injEq]
          rw [if_neg (fun z => (hiff.mp z).2 h_45)], rfl⟩
      · skip
        have h_45 := if0 c_45
        refine i_iconst (q := 49) C dX8_isClose_48 rfl ?_
        refine i_goto (q := 53) C dX8_isClose_49 (by decide) ?_
        refine i_zret C hR (by omega) dX8_isClose_53 ?_
        exact ⟨by
          simp only [Option.some.injEq, Sum.inl.injEq]
          rw [if_pos (hiff.mpr ⟨by
            rcases hb with h | h
            · omega
            · exact h.2, h_45⟩)], rfl⟩
  have loop_4 : ∀ (fuel : Nat) (n : Int) (b : Int), ((st (14 * p + 3) + 1 - n).toNat) < fuel → (0 ≤ n ∧ n ≤ st (14 * p + 3) + 1) → ((b = 0 ∧ (∀ j, 0 ≤ j → j < n → ¬ bec (rg (fun k => st (14 * p + 6 + k)) j) (rg ty tm) = true)) ∨ (b = 1 ∧ (∃ j, 0 ≤ j ∧ j ≤ st (14 * p + 3) ∧ bec (rg (fun k => st (14 * p + 6 + k)) j) (rg ty tm) = true))) → V X 0 0 4 [(0, vP (am 0)), (1, vI p), (2, vI b), (3, vI n)] [] [mdW am (st, bk, un, ck, ty, tm, tx, ln, rf, dg, dn, rk, pl, iw, wd, wm, od, oc)] := by
    intro fuel
    induction fuel with
    | zero => intro n b hz; exact absurd hz (Nat.not_lt_zero _)
    | succ fuel ih_4 =>
      intro n b hfu_4 hn hb
      refine i_iload_n (j := 3) (q := 5) C rfl rfl dX8_isClose_4 rfl ?_
      refine i_aload_n (j := 0) (q := 6) C rfl rfl dX8_isClose_5 rfl ?_
      refine i_get (i := 0) (j := 0) (f := 0) (q := 9) C rfl rfl rfl hi_X8_isClose_X8 (by decide) lk_X8_isClose_7 rfl dX8_isClose_6 rfl ?_
      refine i_bipush (q := 11) C (by decide) dX8_isClose_9 rfl ?_
      refine i_iload_n (j := 1) (q := 12) C rfl rfl dX8_isClose_11 rfl ?_
      refine i_imul (q := 13) C dX8_isClose_12 rfl ?_
      refine i_iconst (q := 14) C dX8_isClose_13 rfl ?_
      refine i_iadd (q := 15) C dX8_isClose_14 rfl ?_
      refine i_iald (i := 0) (j := 1) (q := 16) C rfl rfl (by omega) dX8_isClose_15 rfl ?_
      have ld_15 := hs.k3 p (by omega) (by omega)
      refine i_icmp_gt (tgt := 36) (q := 19) C (by omega) (by omega) dX8_isClose_16 (by decide) rfl (fun c_16 => ?_) (fun c_16 => ?_)
      · skip
        refine V.lv [0, 1, 2] rfl ?_
        exact join_36 (b) (by
          rcases hb with h | h
          · first
              | (refine Or.inl ⟨h.1, ?_⟩; rintro ⟨j, g0, g1, g2⟩; exact h.2 j g0 (by omega) g2)
              | omega
          · exact Or.inr h)
      · skip
        refine i_iload_n (j := 2) (q := 20) C rfl rfl dX8_isClose_19 rfl ?_
        refine i_if_ne (tgt := 36) (q := 23) C (by omega) dX8_isClose_20 (by decide) rfl (fun c_20 => ?_) (fun c_20 => ?_)
        · skip
          refine V.lv [0, 1, 2] rfl ?_
          exact join_36 (b) (by
            rcases hb with h | h
            · first
                | (refine Or.inl ⟨h.1, ?_⟩; rintro ⟨j, g0, g1, g2⟩; exact h.2 j g0 (by omega) g2)
                | omega
            · exact Or.inr h)
        · skip
          refine i_aload_n (j := 0) (q := 24) C rfl rfl dX8_isClose_23 rfl ?_
          refine i_iload_n (j := 1) (q := 25) C rfl rfl dX8_isClose_24 rfl ?_
          refine i_iload_n (j := 3) (q := 26) C rfl rfl dX8_isClose_25 rfl ?_
          refine i_callV (wr := []) (As := [vI p, vI n]) (st := []) (i := 0) (j := 0) (q := 29) C (c_X8_becomes K l (am) (st) (bk) (un) (ck) (ty) (tm) (tx) (ln) (rf) (dg) (dn) (rk) (pl) (iw) (wd) (wm) (od) (oc) (U) (p) (n) (by first | assumption | omega) (by first | assumption | omega) (by first | assumption | omega) (by first | assumption | omega) (by first | assumption | omega)) gX8_isClose_X8_becomes rfl hd_X8_becomes ⟨Nat.le_of_ble_eq_true rfl, Nat.le_of_ble_eq_true rfl⟩ ⟨rfl, rfl⟩ ⟨Nat.le_of_ble_eq_true rfl, Nat.le_of_ble_eq_true rfl⟩ (permBy [0] (by decide) rfl rfl) rfl rfl rfl rfl (Nat.le_of_ble_eq_true rfl) dX8_isClose_26 rfl (fun v w hq => ?_)
          obtain ⟨rfl, rfl⟩ := hq
          show V X 0 0 29 [(0, vP (am 0)), (1, vI p), (2, vI b), (3, vI n)] [vI (if bec (rg (fun k => st (14 * p + 6 + k)) n) (rg ty tm) = true then 1 else 0)] [mdW am (st, bk, un, ck, ty, tm, tx, ln, rf, dg, dn, rk, pl, iw, wd, wm, od, oc)]
          refine i_istore_n (q := 30) (lv' := [(2, vI (if bec (rg (fun k => st (14 * p + 6 + k)) n) (rg ty tm) = true then 1 else 0)), (0, vP (am 0)), (1, vI p), (3, vI n)]) C rfl (by decide) rfl dX8_isClose_29 rfl ?_
          refine i_iinc (j := 3) (q := 33) (lv' := [(3, vI (n + 1)), (2, vI (if bec (rg (fun k => st (14 * p + 6 + k)) n) (rg ty tm) = true then 1 else 0)), (0, vP (am 0)), (1, vI p)]) C rfl (by decide) rfl dX8_isClose_30 rfl ?_
          refine i_goto (q := 4) C dX8_isClose_33 (by decide) ?_
          refine V.lv [2, 3, 1, 0] rfl ?_
          exact ih_4 (n + 1) (if bec (rg (fun k => st (14 * p + 6 + k)) n) (rg ty tm) = true then 1 else 0) (by omega) (by omega) (by
            have hb0 : ∀ j, 0 ≤ j → j < n → ¬ bec (rg (fun k => st (14 * p + 6 + k)) j) (rg ty tm) = true := by
              rcases hb with h | h
              · exact h.2
              · omega
            by_cases e : bec (rg (fun k => st (14 * p + 6 + k)) n) (rg ty tm) = true
            · exact Or.inr ⟨if_pos e, n, by omega, by omega, e⟩
            · refine Or.inl ⟨if_neg e, fun j g0 g1 => ?_⟩
              by_cases e2 : j = n
              · subst e2; exact e
              · exact hb0 j g0 (by omega))
  refine V.lv [2, 3, 1, 0] rfl ?_
  exact loop_4 _ (0) (0) (Nat.lt_succ_self _) (by omega) (Or.inl ⟨rfl, fun j _ _ => by omega⟩)

theorem lk_X8_firstOf_7 : Cond.fieldLink RX8 7 (TX8 0).1 (TX8 0).2.1 (TX8 0).2.2.1 ∈ wsX8_firstOf := List.mem_of_getElem? (i := 1) rfl
theorem hi_X8_firstOf_X8 : ∀ w ∈ u_ws RX8 TX8 18, w ∈ wsX8_firstOf := by decide +kernel
set_option maxHeartbeats 400000 in
set_option maxRecDepth 100000 in
theorem c_X8_firstOf (K : KT) (l : Launch) (am : Nat → Nat) (st : Int → Int) (bk : Int → Int) (un : Int) (ck : Int) (ty : Int → Int) (tm : Int) (tx : Int → Int) (ln : Int) (rf : Int → Int) (dg : Int) (dn : Int → Int) (rk : Int → Int) (pl : Int) (iw : Int) (wd : Int → Int) (wm : Int) (od : Int → Int) (oc : Int) (U : Int) (m : Int) (hs : okS U st) (htm : 0 ≤ tm ∧ tm ≤ 12) (hty : ∀ k, 0 ≤ k → k < tm → 0 ≤ ty k ∧ ty k ≤ 7) (hmm : rI m) : Mt K l yX8_firstOf wsX8_firstOf ({ frames := 1, cells := 0, slots := 0, locals := 23 }) [vP (am 0), vI m] [mdW am (st, bk, un, ck, ty, tm, tx, ln, rf, dg, dn, rk, pl, iw, wd, wm, od, oc)] 0 0 (fun v w => ∃ r : Int, v = some (vI r) ∧ w = [mdW am (st, bk, un, ck, ty, tm, tx, ln, rf, dg, dn, rk, pl, iw, wd, wm, od, oc)] ∧ ((r = -1 ∧ fo (cB (rg ty tm) m) (ml st (st 2800).toNat) = none) ∨ (0 ≤ r ∧ r < st 2800 ∧ st (14 * r) = 1 ∧ fo (cB (rg ty tm) m) (ml st (st 2800).toNat) = some (mp st r)))) := by
  refine Mt.of (own := RX8) (cc := cX8_firstOf) (maxL := 5) (ret := (some .int)) (lv0 := [(0, vP (am 0)), (1, vI m)]) (by decide) rfl rfl (Nat.le_of_ble_eq_true rfl) rfl (fun X C hR hNm => ?_)
  have hgv := hs.gv
  refine i_iconst (q := 1) C dX8_firstOf_0 rfl ?_
  refine i_istore_n (q := 2) (lv' := [(2, vI ((-1))), (0, vP (am 0)), (1, vI m)]) C rfl (by decide) rfl dX8_firstOf_1 rfl ?_
  refine i_iconst (q := 3) C dX8_firstOf_2 rfl ?_
  refine i_istore_n (q := 4) (lv' := [(3, vI 0), (2, vI ((-1))), (0, vP (am 0)), (1, vI m)]) C rfl (by decide) rfl dX8_firstOf_3 rfl ?_
  have loop_4 : ∀ (fuel : Nat) (p : Int) (r : Int), ((st 2800 - p).toNat) < fuel → (0 ≤ p ∧ p ≤ st 2800) → ((r = -1 ∧ fo (cB (rg ty tm) m) (ml st (p).toNat) = none) ∨ (0 ≤ r ∧ r < p ∧ st (14 * r) = 1 ∧ fo (cB (rg ty tm) m) (ml st (p).toNat) = some (mp st r))) → V X 0 0 4 [(0, vP (am 0)), (1, vI m), (2, vI r), (3, vI p)] [] [mdW am (st, bk, un, ck, ty, tm, tx, ln, rf, dg, dn, rk, pl, iw, wd, wm, od, oc)] := by
    intro fuel
    induction fuel with
    | zero => intro p r hz; exact absurd hz (Nat.not_lt_zero _)
    | succ fuel ih_4 =>
      intro p r hfu_4 hp hv
      refine i_iload_n (j := 3) (q := 5) C rfl rfl dX8_firstOf_4 rfl ?_
      refine i_aload_n (j := 0) (q := 6) C rfl rfl dX8_firstOf_5 rfl ?_
      refine i_get (i := 0) (j := 0) (f := 0) (q := 9) C rfl rfl rfl hi_X8_firstOf_X8 (by decide) lk_X8_firstOf_7 rfl dX8_firstOf_6 rfl ?_
      refine i_sipush (q := 12) C (by decide) dX8_firstOf_9 rfl ?_
      refine i_iald (i := 0) (j := 1) (q := 13) C rfl rfl (by omega) dX8_firstOf_12 rfl ?_
      have ld_12 := hs.gv
      refine i_icmp_ge (tgt := 106) (q := 16) C (by omega) (by omega) dX8_firstOf_13 (by decide) rfl (fun c_13 => ?_) (fun c_13 => ?_)
      · skip
        refine i_iload_n (j := 2) (q := 107) C rfl rfl dX8_firstOf_106 rfl ?_
        refine i_iret C hR dX8_firstOf_107 ?_
        have e9 : p = st 2800 := by omega
        subst e9
        exact ⟨r, rfl, rfl, hv⟩
      · skip
        have join_57 : ∀ (b : Int), ((b = 1 ∧ st (14 * p) = 1 ∧ cB (rg ty tm) m (mp st p) = true) ∨ (b = 0 ∧ ¬ (st (14 * p) = 1 ∧ cB (rg ty tm) m (mp st p) = true))) → V X 0 0 57 [(0, vP (am 0)), (1, vI m), (2, vI r), (3, vI p)] [vI b] [mdW am (st, bk, un, ck, ty, tm, tx, ln, rf, dg, dn, rk, pl, iw, wd, wm, od, oc)] := by
          intro b hb
          refine i_istore (q := 59) (lv' := [(4, vI b), (0, vP (am 0)), (1, vI m), (2, vI r), (3, vI p)]) C (by decide) rfl dX8_firstOf_57 rfl ?_
          refine i_iload (j := 0) (q := 61) C rfl dX8_firstOf_59 rfl ?_
          have join_99 : ∀ (r2 : Int), ((r2 = -1 ∧ fo (cB (rg ty tm) m) (ml st (p + 1).toNat) = none) ∨ (0 ≤ r2 ∧ r2 < p + 1 ∧ st (14 * r2) = 1 ∧ fo (cB (rg ty tm) m) (ml st (p + 1).toNat) = some (mp st r2))) → V X 0 0 99 [(0, vP (am 0)), (1, vI m), (2, vI r), (3, vI p), (4, vI b)] [vI r2] [mdW am (st, bk, un, ck, ty, tm, tx, ln, rf, dg, dn, rk, pl, iw, wd, wm, od, oc)] := by
            intro r2 hv2
            refine i_istore_n (q := 100) (lv' := [(2, vI r2), (0, vP (am 0)), (1, vI m), (3, vI p), (4, vI b)]) C rfl (by decide) rfl dX8_firstOf_99 rfl ?_
            refine i_iinc (j := 3) (q := 103) (lv' := [(3, vI (p + 1)), (2, vI r2), (0, vP (am 0)), (1, vI m), (4, vI b)]) C rfl (by decide) rfl dX8_firstOf_100 rfl ?_
            refine i_goto (q := 4) C dX8_firstOf_103 (by decide) ?_
            refine V.lv [2, 3, 1, 0] rfl ?_
            exact ih_4 (p + 1) (r2) (by omega) (by omega) (hv2)
          refine i_if_eq (tgt := 98) (q := 64) C (by omega) dX8_firstOf_61 (by decide) rfl (fun c_61 => ?_) (fun c_61 => ?_)
          · skip
            refine i_iload_n (j := 3) (q := 99) C rfl rfl dX8_firstOf_98 rfl ?_
            refine V.lv [1, 2, 3, 4, 0] rfl ?_
            exact join_99 (r) (by
              rw [fo_ml _ st hp.1]
              rcases hb with ⟨hb1, hb2, hb3⟩ | ⟨hb1, hb2⟩
              · rw [if_pos hb2]
                rcases hv with ⟨g1, g2⟩ | ⟨g1, g2, g3, g4⟩
                · rw [g2]; simp only [fo1d]; rw [if_pos hb3]
                  first
                    | exact Or.inr ⟨by omega, by omega, hb2, rfl⟩
                    | omega
                · rw [g4]; simp only [fo1d]
                  have e1 : (mp st r).2.2.1 = st (14 * r + 1) := rfl
                  have e2 : (mp st p).2.2.1 = st (14 * p + 1) := rfl
                  rw [e1, e2]
                  first
                    | (rw [if_pos ⟨hb3, by omega⟩]; exact Or.inr ⟨by omega, by omega, hb2, rfl⟩)
                    | (rw [if_neg (fun z => absurd z.2 (by omega))]; exact Or.inr ⟨by omega, by omega, g3, rfl⟩)
                    | omega
              · by_cases e : st (14 * p) = 1
                · have hf : ¬ cB (rg ty tm) m (mp st p) = true := fun z => hb2 ⟨e, z⟩
                  rw [if_pos e]
                  rcases hv with ⟨g1, g2⟩ | ⟨g1, g2, g3, g4⟩
                  · rw [g2]; simp only [fo1d]; rw [if_neg hf]
                    first
                      | exact Or.inl ⟨g1, rfl⟩
                      | omega
                  · rw [g4]; simp only [fo1d]; rw [if_neg (fun z => hf z.1)]
                    first
                      | exact Or.inr ⟨by omega, by omega, g3, rfl⟩
                      | omega
                · rw [if_neg e]
                  rcases hv with ⟨g1, g2⟩ | ⟨g1, g2, g3, g4⟩
                  · first
                      | exact Or.inl ⟨g1, g2⟩
                      | omega
                  · first
                      | exact Or.inr ⟨by omega, by omega, g3, g4⟩
                      | omega)
          · skip
            refine i_iload_n (j := 3) (q := 65) C rfl rfl dX8_firstOf_64 rfl ?_
            refine i_iconst (q := 66) C dX8_firstOf_65 rfl ?_
            refine i_icmp_eq (tgt := 94) (q := 69) C (by rcases hv with h | h <;> omega) (by omega) dX8_firstOf_66 (by decide) rfl (fun c_66 => ?_) (fun c_66 => ?_)
            · skip
              refine i_iload_n (j := 4) (q := 95) C rfl rfl dX8_firstOf_94 rfl ?_
              refine i_goto (q := 99) C dX8_firstOf_95 (by decide) ?_
              refine V.lv [1, 2, 3, 4, 0] rfl ?_
              exact join_99 (p) (by
                rw [fo_ml _ st hp.1]
                rcases hb with ⟨hb1, hb2, hb3⟩ | ⟨hb1, hb2⟩
                · rw [if_pos hb2]
                  rcases hv with ⟨g1, g2⟩ | ⟨g1, g2, g3, g4⟩
                  · rw [g2]; simp only [fo1d]; rw [if_pos hb3]
                    first
                      | exact Or.inr ⟨by omega, by omega, hb2, rfl⟩
                      | omega
                  · rw [g4]; simp only [fo1d]
                    have e1 : (mp st r).2.2.1 = st (14 * r + 1) := rfl
                    have e2 : (mp st p).2.2.1 = st (14 * p + 1) := rfl
                    rw [e1, e2]
                    first
                      | (rw [if_pos ⟨hb3, by omega⟩]; exact Or.inr ⟨by omega, by omega, hb2, rfl⟩)
                      | (rw [if_neg (fun z => absurd z.2 (by omega))]; exact Or.inr ⟨by omega, by omega, g3, rfl⟩)
                      | omega
                · by_cases e : st (14 * p) = 1
                  · have hf : ¬ cB (rg ty tm) m (mp st p) = true := fun z => hb2 ⟨e, z⟩
                    rw [if_pos e]
                    rcases hv with ⟨g1, g2⟩ | ⟨g1, g2, g3, g4⟩
                    · rw [g2]; simp only [fo1d]; rw [if_neg hf]
                      first
                        | exact Or.inl ⟨g1, rfl⟩
                        | omega
                    · rw [g4]; simp only [fo1d]; rw [if_neg (fun z => hf z.1)]
                      first
                        | exact Or.inr ⟨by omega, by omega, g3, rfl⟩
                        | omega
                  · rw [if_neg e]
                    rcases hv with ⟨g1, g2⟩ | ⟨g1, g2, g3, g4⟩
                    · first
                        | exact Or.inl ⟨g1, g2⟩
                        | omega
                    · first
                        | exact Or.inr ⟨by omega, by omega, g3, g4⟩
                        | omega)
            · skip
              have hr0 : 0 ≤ r ∧ r < p := by
                rcases hv with h | h
                · omega
                · omega
              refine i_aload_n (j := 1) (q := 70) C rfl rfl dX8_firstOf_69 rfl ?_
              refine i_get (i := 0) (j := 0) (f := 0) (q := 73) C rfl rfl rfl hi_X8_firstOf_X8 (by decide) lk_X8_firstOf_7 rfl dX8_firstOf_70 rfl ?_
              refine i_bipush (q := 75) C (by decide) dX8_firstOf_73 rfl ?_
              refine i_iload_n (j := 4) (q := 76) C rfl rfl dX8_firstOf_75 rfl ?_
              refine i_imul (q := 77) C dX8_firstOf_76 rfl ?_
              refine i_iconst (q := 78) C dX8_firstOf_77 rfl ?_
              refine i_iadd (q := 79) C dX8_firstOf_78 rfl ?_
              refine i_iald (i := 0) (j := 1) (q := 80) C rfl rfl (by omega) dX8_firstOf_79 rfl ?_
              have ld_79 := hs.k1 p (by omega) (by omega)
              refine i_aload_n (j := 1) (q := 81) C rfl rfl dX8_firstOf_80 rfl ?_
              refine i_get (i := 0) (j := 0) (f := 0) (q := 84) C rfl rfl rfl hi_X8_firstOf_X8 (by decide) lk_X8_firstOf_7 rfl dX8_firstOf_81 rfl ?_
              refine i_bipush (q := 86) C (by decide) dX8_firstOf_84 rfl ?_
              refine i_iload_n (j := 3) (q := 87) C rfl rfl dX8_firstOf_86 rfl ?_
              refine i_imul (q := 88) C dX8_firstOf_87 rfl ?_
              refine i_iconst (q := 89) C dX8_firstOf_88 rfl ?_
              refine i_iadd (q := 90) C dX8_firstOf_89 rfl ?_
              refine i_iald (i := 0) (j := 1) (q := 91) C rfl rfl (by omega) dX8_firstOf_90 rfl ?_
              have ld_90 := hs.k1 r (by omega) (by omega)
              refine i_icmp_le (tgt := 98) (q := 94) C (by omega) (by omega) dX8_firstOf_91 (by decide) rfl (fun c_91 => ?_) (fun c_91 => ?_)
              · skip
                refine i_iload_n (j := 3) (q := 99) C rfl rfl dX8_firstOf_98 rfl ?_
                refine V.lv [1, 2, 3, 4, 0] rfl ?_
                exact join_99 (r) (by
                  rw [fo_ml _ st hp.1]
                  rcases hb with ⟨hb1, hb2, hb3⟩ | ⟨hb1, hb2⟩
                  · rw [if_pos hb2]
                    rcases hv with ⟨g1, g2⟩ | ⟨g1, g2, g3, g4⟩
                    · rw [g2]; simp only [fo1d]; rw [if_pos hb3]
                      first
                        | exact Or.inr ⟨by omega, by omega, hb2, rfl⟩
                        | omega
                    · rw [g4]; simp only [fo1d]
                      have e1 : (mp st r).2.2.1 = st (14 * r + 1) := rfl
                      have e2 : (mp st p).2.2.1 = st (14 * p + 1) := rfl
                      rw [e1, e2]
                      first
                        | (rw [if_pos ⟨hb3, by omega⟩]; exact Or.inr ⟨by omega, by omega, hb2, rfl⟩)
                        | (rw [if_neg (fun z => absurd z.2 (by omega))]; exact Or.inr ⟨by omega, by omega, g3, rfl⟩)
                        | omega
                  · by_cases e : st (14 * p) = 1
                    · have hf : ¬ cB (rg ty tm) m (mp st p) = true := fun z => hb2 ⟨e, z⟩
                      rw [if_pos e]
                      rcases hv with ⟨g1, g2⟩ | ⟨g1, g2, g3, g4⟩
                      · rw [g2]; simp only [fo1d]; rw [if_neg hf]
                        first
                          | exact Or.inl ⟨g1, rfl⟩
                          | omega
                      · rw [g4]; simp only [fo1d]; rw [if_neg (fun z => hf z.1)]
                        first
                          | exact Or.inr ⟨by omega, by omega, g3, rfl⟩
                          | omega
                    · rw [if_neg e]
                      rcases hv with ⟨g1, g2⟩ | ⟨g1, g2, g3, g4⟩
                      · first
                          | exact Or.inl ⟨g1, g2⟩
                          | omega
                      · first
                          | exact Or.inr ⟨by omega, by omega, g3, g4⟩
                          | omega)
              · skip
                refine i_iload_n (j := 4) (q := 95) C rfl rfl dX8_firstOf_94 rfl ?_
                refine i_goto (q := 99) C dX8_firstOf_95 (by decide) ?_
                refine V.lv [1, 2, 3, 4, 0] rfl ?_
                exact join_99 (p) (by
                  rw [fo_ml _ st hp.1]
                  rcases hb with ⟨hb1, hb2, hb3⟩ | ⟨hb1, hb2⟩
                  · rw [if_pos hb2]
                    rcases hv with ⟨g1, g2⟩ | ⟨g1, g2, g3, g4⟩
                    · rw [g2]; simp only [fo1d]; rw [if_pos hb3]
                      first
                        | exact Or.inr ⟨by omega, by omega, hb2, rfl⟩
                        | omega
                    · rw [g4]; simp only [fo1d]
                      have e1 : (mp st r).2.2.1 = st (14 * r + 1) := rfl
                      have e2 : (mp st p).2.2.1 = st (14 * p + 1) := rfl
                      rw [e1, e2]
                      first
                        | (rw [if_pos ⟨hb3, by omega⟩]; exact Or.inr ⟨by omega, by omega, hb2, rfl⟩)
                        | (rw [if_neg (fun z => absurd z.2 (by omega))]; exact Or.inr ⟨by omega, by omega, g3, rfl⟩)
                        | omega
                  · by_cases e : st (14 * p) = 1
                    · have hf : ¬ cB (rg ty tm) m (mp st p) = true := fun z => hb2 ⟨e, z⟩
                      rw [if_pos e]
                      rcases hv with ⟨g1, g2⟩ | ⟨g1, g2, g3, g4⟩
                      · rw [g2]; simp only [fo1d]; rw [if_neg hf]
                        first
                          | exact Or.inl ⟨g1, rfl⟩
                          | omega
                      · rw [g4]; simp only [fo1d]; rw [if_neg (fun z => hf z.1)]
                        first
                          | exact Or.inr ⟨by omega, by omega, g3, rfl⟩
                          | omega
                    · rw [if_neg e]
                      rcases hv with ⟨g1, g2⟩ | ⟨g1, g2, g3, g4⟩
                      · first
                          | exact Or.inl ⟨g1, g2⟩
                          | omega
                      · first
                          | exact Or.inr ⟨by omega, by omega, g3, g4⟩
                          | omega)
        refine i_aload_n (j := 0) (q := 17) C rfl rfl dX8_firstOf_16 rfl ?_
        refine i_get (i := 0) (j := 0) (f := 0) (q := 20) C rfl rfl rfl hi_X8_firstOf_X8 (by decide) lk_X8_firstOf_7 rfl dX8_firstOf_17 rfl ?_
        refine i_bipush (q := 22) C (by decide) dX8_firstOf_20 rfl ?_
        refine i_iload_n (j := 3) (q := 23) C rfl rfl dX8_firstOf_22 rfl ?_
        refine i_imul (q := 24) C dX8_firstOf_23 rfl ?_
        refine i_iald (i := 0) (j := 1) (q := 25) C rfl rfl (by omega) dX8_firstOf_24 rfl ?_
        have ld_24 := hs.k0 p (by omega) (by omega)
        refine i_iconst (q := 26) C dX8_firstOf_25 rfl ?_
        refine i_icmp_ne (tgt := 56) (q := 29) C (by omega) (by omega) dX8_firstOf_26 (by decide) rfl (fun c_26 => ?_) (fun c_26 => ?_)
        · skip
          refine i_iconst (q := 57) C dX8_firstOf_56 rfl ?_
          exact join_57 (0) (by
            have hcb := cB_mp hs (m := m) (t := rg ty tm) hp.1 (show p < st 2800 by omega)
            first
              | exact Or.inr ⟨rfl, fun z => c_26 z.1⟩
              | exact Or.inr ⟨rfl, fun z => absurd (hcb.mp z.2).1 (by omega)⟩
              | exact Or.inr ⟨rfl, fun z => h_49 (hcb.mp z.2).2⟩
              | exact Or.inl ⟨rfl, c_26, hcb.mpr ⟨by omega, h_49⟩⟩)
        · skip
          refine i_aload_n (j := 0) (q := 30) C rfl rfl dX8_firstOf_29 rfl ?_
          refine i_get (i := 0) (j := 0) (f := 0) (q := 33) C rfl rfl rfl hi_X8_firstOf_X8 (by decide) lk_X8_firstOf_7 rfl dX8_firstOf_30 rfl ?_
          refine i_bipush (q := 35) C (by decide) dX8_firstOf_33 rfl ?_
          refine i_iload_n (j := 3) (q := 36) C rfl rfl dX8_firstOf_35 rfl ?_
          refine i_imul (q := 37) C dX8_firstOf_36 rfl ?_
          refine i_iconst (q := 38) C dX8_firstOf_37 rfl ?_
          refine i_iadd (q := 39) C dX8_firstOf_38 rfl ?_
          refine i_iald (i := 0) (j := 1) (q := 40) C rfl rfl (by omega) dX8_firstOf_39 rfl ?_
          have ld_39 := hs.k3 p (by omega) (by omega)
          refine i_iload_n (j := 1) (q := 41) C rfl rfl dX8_firstOf_40 rfl ?_
          refine i_icmp_lt (tgt := 56) (q := 44) C (by omega) (by omega) dX8_firstOf_41 (by decide) rfl (fun c_41 => ?_) (fun c_41 => ?_)
          · skip
            refine i_iconst (q := 57) C dX8_firstOf_56 rfl ?_
            exact join_57 (0) (by
              have hcb := cB_mp hs (m := m) (t := rg ty tm) hp.1 (show p < st 2800 by omega)
              first
                | exact Or.inr ⟨rfl, fun z => c_26 z.1⟩
                | exact Or.inr ⟨rfl, fun z => absurd (hcb.mp z.2).1 (by omega)⟩
                | exact Or.inr ⟨rfl, fun z => h_49 (hcb.mp z.2).2⟩
                | exact Or.inl ⟨rfl, c_26, hcb.mpr ⟨by omega, h_49⟩⟩)
          · skip
            refine i_aload_n (j := 0) (q := 45) C rfl rfl dX8_firstOf_44 rfl ?_
            refine i_iload_n (j := 3) (q := 46) C rfl rfl dX8_firstOf_45 rfl ?_
            refine i_callV (wr := []) (As := [vI p]) (st := []) (i := 0) (j := 0) (q := 49) C (c_X8_begins K l (am) (st) (bk) (un) (ck) (ty) (tm) (tx) (ln) (rf) (dg) (dn) (rk) (pl) (iw) (wd) (wm) (od) (oc) (U) (p) (by first | assumption | omega) (by first | assumption | omega) (by first | assumption | omega) (by first | assumption | omega)) gX8_firstOf_X8_begins rfl hd_X8_begins ⟨Nat.le_of_ble_eq_true rfl, Nat.le_of_ble_eq_true rfl⟩ ⟨rfl, rfl⟩ ⟨Nat.le_of_ble_eq_true rfl, Nat.le_of_ble_eq_true rfl⟩ (permBy [0] (by decide) rfl rfl) rfl rfl rfl rfl (Nat.le_of_ble_eq_true rfl) dX8_firstOf_46 rfl (fun v w hq => ?_)
            obtain ⟨rfl, rfl⟩ := hq
            show V X 0 0 49 [(0, vP (am 0)), (1, vI m), (2, vI r), (3, vI p)] [vI (if bgs (rg ty tm) (lt st p) = true then 1 else 0)] [mdW am (st, bk, un, ck, ty, tm, tx, ln, rf, dg, dn, rk, pl, iw, wd, wm, od, oc)]
            refine i_if_eq (tgt := 56) (q := 52) C (if01) dX8_firstOf_49 (by decide) rfl (fun c_49 => ?_) (fun c_49 => ?_)
            · skip
              have h_49 := if0 c_49
              refine i_iconst (q := 57) C dX8_firstOf_56 rfl ?_
              exact join_57 (0) (by
                have hcb := cB_mp hs (m := m) (t := rg ty tm) hp.1 (show p < st 2800 by omega)
                first
                  | exact Or.inr ⟨rfl, fun z => c_26 z.1⟩
                  | exact Or.inr ⟨rfl, fun z => absurd (hcb.mp z.2).1 (by omega)⟩
                  | exact Or.inr ⟨rfl, fun z => h_49 (hcb.mp z.2).2⟩
                  | exact Or.inl ⟨rfl, c_26, hcb.mpr ⟨by omega, h_49⟩⟩)
            · skip
              have h_49 := ifn0 c_49
              refine i_iconst (q := 53) C dX8_firstOf_52 rfl ?_
              refine i_goto (q := 57) C dX8_firstOf_53 (by decide) ?_
              exact join_57 (1) (by
                have hcb := cB_mp hs (m := m) (t := rg ty tm) hp.1 (show p < st 2800 by omega)
                first
                  | exact Or.inr ⟨rfl, fun z => c_26 z.1⟩
                  | exact Or.inr ⟨rfl, fun z => absurd (hcb.mp z.2).1 (by omega)⟩
                  | exact Or.inr ⟨rfl, fun z => h_49 (hcb.mp z.2).2⟩
                  | exact Or.inl ⟨rfl, c_26, hcb.mpr ⟨by omega, h_49⟩⟩)
  refine V.lv [2, 3, 1, 0] rfl ?_
  exact loop_4 _ (0) ((-1)) (Nat.lt_succ_self _) (by omega) (Or.inl ⟨rfl, rfl⟩)
