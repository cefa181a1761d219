theorem hd_X8_firstOf : yX8_firstOf.cls = RX8 ∧ yX8_firstOf.cls ≠ "java/lang/invoke/MethodHandle" ∧ yX8_firstOf.cls ≠ "java/lang/invoke/VarHandle" ∧ (parseMethodDescriptor yX8_firstOf.desc).map (fun d => d.parameters.length) = some 1 := by decide +kernel
theorem lk_X8_top_7 : Cond.fieldLink RX8 7 (TX8 0).1 (TX8 0).2.1 (TX8 0).2.2.1 ∈ wsX8_top := List.mem_of_getElem? (i := 1) rfl
theorem hi_X8_top_X8 : ∀ w ∈ u_ws RX8 TX8 18, w ∈ wsX8_top := by decide +kernel
set_option maxHeartbeats 400000 in
set_option maxRecDepth 100000 in
theorem c_X8_top (K : KT) (l : Launch) (am : Nat → Nat) (st : Int → Int) (bk : Int → Int) (un : Int) (ck : Int) (ty : Int → Int) (tm : Int) (tx : Int → Int) (ln : Int) (rf : Int → Int) (dg : Int) (dn : Int → Int) (rk : Int → Int) (pl : Int) (iw : Int) (wd : Int → Int) (wm : Int) (od : Int → Int) (oc : Int) (U : Int) (hs : okS U st) (htm : 0 ≤ tm ∧ tm ≤ 12) (hty : ∀ k, 0 ≤ k → k < tm → 0 ≤ ty k ∧ ty k ≤ 7) : Mt K l yX8_top wsX8_top ({ frames := 2, cells := 0, slots := 0, locals := 47 }) [vP (am 0)] [mdW am (st, bk, un, ck, ty, tm, tx, ln, rf, dg, dn, rk, pl, iw, wd, wm, od, oc)] 0 0 (fun v w => v = some (vI (tps (rg ty tm) (ml st (st 2800).toNat))) ∧ w = [mdW am (st, bk, un, ck, ty, tm, tx, ln, rf, dg, dn, rk, pl, iw, wd, wm, od, oc)]) := by
  refine Mt.of (own := RX8) (cc := cX8_top) (maxL := 2) (ret := (some .int)) (lv0 := [(0, vP (am 0))]) (by decide) rfl rfl (Nat.le_of_ble_eq_true rfl) rfl (fun X C hR hNm => ?_)
  have hgv := hs.gv
  refine i_aload_n (j := 0) (q := 1) C rfl rfl dX8_top_0 rfl ?_
  refine i_iconst (q := 2) C dX8_top_1 rfl ?_
  refine i_callV (wr := []) (As := [vI 0]) (st := []) (i := 0) (j := 0) (q := 5) C (c_X8_firstOf K l (am) (st) (bk) (un) (ck) (ty) (tm) (tx) (ln) (rf) (dg) (dn) (rk) (pl) (iw) (wd) (wm) (od) (oc) (U) (0) (by first | assumption | omega) (by first | assumption | omega) (by first | assumption | omega) (by first | assumption | omega)) gX8_top_X8_firstOf rfl hd_X8_firstOf ⟨Nat.le_of_ble_eq_true rfl, Nat.le_of_ble_eq_true rfl⟩ ⟨rfl, rfl⟩ ⟨Nat.le_of_ble_eq_true rfl, Nat.le_of_ble_eq_true rfl⟩ (permBy [0] (by decide) rfl rfl) rfl rfl rfl rfl (Nat.le_of_ble_eq_true rfl) dX8_top_2 rfl (fun v w hq => ?_)
  obtain ⟨r_2, rfl, rfl, hr_2⟩ := hq
  show V X 0 0 5 [(0, vP (am 0))] [vI r_2] [mdW am (st, bk, un, ck, ty, tm, tx, ln, rf, dg, dn, rk, pl, iw, wd, wm, od, oc)]
  refine i_istore_n (q := 6) (lv' := [(1, vI r_2), (0, vP (am 0))]) C rfl (by decide) rfl dX8_top_5 rfl ?_
  refine i_iload_n (j := 0) (q := 7) C rfl rfl dX8_top_6 rfl ?_
  refine i_iconst (q := 8) C dX8_top_7 rfl ?_
  refine i_icmp_ne (tgt := 15) (q := 11) C (by rcases hr_2 with h | h <;> omega) (by omega) dX8_top_8 (by decide) rfl (fun c_8 => ?_) (fun c_8 => ?_)
  · skip
    have hr0 : 0 ≤ r_2 ∧ r_2 < st 2800 := by
      rcases hr_2 with h | h
      · omega
      · omega
    refine i_aload_n (j := 1) (q := 16) C rfl rfl dX8_top_15 rfl ?_
    refine i_get (i := 0) (j := 0) (f := 0) (q := 19) C rfl rfl rfl hi_X8_top_X8 (by decide) lk_X8_top_7 rfl dX8_top_16 rfl ?_
    refine i_bipush (q := 21) C (by decide) dX8_top_19 rfl ?_
    refine i_iload_n (j := 0) (q := 22) C rfl rfl dX8_top_21 rfl ?_
    refine i_imul (q := 23) C dX8_top_22 rfl ?_
    refine i_iconst (q := 24) C dX8_top_23 rfl ?_
    refine i_iadd (q := 25) C dX8_top_24 rfl ?_
    refine i_iald (i := 0) (j := 1) (q := 26) C rfl rfl (by omega) dX8_top_25 rfl ?_
    have ld_25 := hs.k1 r_2 (by omega) (by omega)
    refine i_iret C hR dX8_top_26 ?_
    exact ⟨by
      unfold tps
      rcases hr_2 with h | h
      · rw [h.2] <;> first | rfl | omega
      · rw [h.2.2.2] <;> first | rfl | omega, rfl⟩
  · skip
    refine i_iconst (q := 12) C dX8_top_11 rfl ?_
    refine i_goto (q := 26) C dX8_top_12 (by decide) ?_
    refine i_iret C hR dX8_top_26 ?_
    exact ⟨by
      unfold tps
      rcases hr_2 with h | h
      · rw [h.2] <;> first | rfl | omega
      · rw [h.2.2.2] <;> first | rfl | omega, rfl⟩

theorem lk_X8_under_7 : Cond.fieldLink RX8 7 (TX8 0).1 (TX8 0).2.1 (TX8 0).2.2.1 ∈ wsX8_under := List.mem_of_getElem? (i := 1) rfl
theorem hi_X8_under_X8 : ∀ w ∈ u_ws RX8 TX8 18, w ∈ wsX8_under := by decide +kernel
set_option maxHeartbeats 400000 in
set_option maxRecDepth 100000 in
theorem c_X8_under (K : KT) (l : Launch) (am : Nat → Nat) (st : Int → Int) (bk : Int → Int) (un : Int) (ck : Int) (ty : Int → Int) (tm : Int) (tx : Int → Int) (ln : Int) (rf : Int → Int) (dg : Int) (dn : Int → Int) (rk : Int → Int) (pl : Int) (iw : Int) (wd : Int → Int) (wm : Int) (od : Int → Int) (oc : Int) (U : Int) (hs : okS U st) (htm : 0 ≤ tm ∧ tm ≤ 12) (hty : ∀ k, 0 ≤ k → k < tm → 0 ≤ ty k ∧ ty k ≤ 7) : Mt K l yX8_under wsX8_under ({ frames := 1, cells := 0, slots := 0, locals := 23 }) [vP (am 0)] [mdW am (st, bk, un, ck, ty, tm, tx, ln, rf, dg, dn, rk, pl, iw, wd, wm, od, oc)] 0 0 (fun v w => v = some (vI (und (rg ty tm) (ml st (st 2800).toNat))) ∧ w = [mdW am (st, bk, un, ck, ty, tm, tx, ln, rf, dg, dn, rk, pl, iw, wd, wm, od, oc)]) := by
  refine Mt.of (own := RX8) (cc := cX8_under) (maxL := 3) (ret := (some .int)) (lv0 := [(0, vP (am 0))]) (by decide) rfl rfl (Nat.le_of_ble_eq_true rfl) rfl (fun X C hR hNm => ?_)
  have hgv := hs.gv
  refine i_iconst (q := 1) C dX8_under_0 rfl ?_
  refine i_istore_n (q := 2) (lv' := [(1, vI 0), (0, vP (am 0))]) C rfl (by decide) rfl dX8_under_1 rfl ?_
  refine i_iconst (q := 3) C dX8_under_2 rfl ?_
  refine i_istore_n (q := 4) (lv' := [(2, vI 0), (1, vI 0), (0, vP (am 0))]) C rfl (by decide) rfl dX8_under_3 rfl ?_
  have loop_4 : ∀ (fuel : Nat) (p : Int) (n : Int), ((st 2800 - p).toNat) < fuel → (0 ≤ p ∧ p ≤ st 2800) → (n = und (rg ty tm) (ml st p.toNat)) → V X 0 0 4 [(0, vP (am 0)), (1, vI n), (2, vI p)] [] [mdW am (st, bk, un, ck, ty, tm, tx, ln, rf, dg, dn, rk, pl, iw, wd, wm, od, oc)] := by
    intro fuel
    induction fuel with
    | zero => intro p n hz; exact absurd hz (Nat.not_lt_zero _)
    | succ fuel ih_4 =>
      intro p n hfu_4 hp hv
      refine i_iload_n (j := 2) (q := 5) C rfl rfl dX8_under_4 rfl ?_
      refine i_aload_n (j := 0) (q := 6) C rfl rfl dX8_under_5 rfl ?_
      refine i_get (i := 0) (j := 0) (f := 0) (q := 9) C rfl rfl rfl hi_X8_under_X8 (by decide) lk_X8_under_7 rfl dX8_under_6 rfl ?_
      refine i_sipush (q := 12) C (by decide) dX8_under_9 rfl ?_
      refine i_iald (i := 0) (j := 1) (q := 13) C rfl rfl (by omega) dX8_under_12 rfl ?_
      have ld_12 := hs.gv
      refine i_icmp_ge (tgt := 51) (q := 16) C (by omega) (by omega) dX8_under_13 (by decide) rfl (fun c_13 => ?_) (fun c_13 => ?_)
      · skip
        refine i_iload_n (j := 1) (q := 52) C rfl rfl dX8_under_51 rfl ?_
        refine i_iret C hR dX8_under_52 ?_
        have e9 : p = st 2800 := by omega
        subst e9; subst hv
        exact ⟨rfl, rfl⟩
      · skip
        have join_43 : ∀ (b : Int), ((b = 1 ∧ (st (14 * p) = 1 ∧ bgs (rg ty tm) (lt st p) = true)) ∨ (b = 0 ∧ ¬ (st (14 * p) = 1 ∧ bgs (rg ty tm) (lt st p) = true))) → V X 0 0 43 [(0, vP (am 0)), (1, vI n), (2, vI p)] [vI b, vI n] [mdW am (st, bk, un, ck, ty, tm, tx, ln, rf, dg, dn, rk, pl, iw, wd, wm, od, oc)] := by
          intro b hb
          refine i_iadd (q := 44) C dX8_under_43 rfl ?_
          refine i_istore_n (q := 45) (lv' := [(1, vI (n + b)), (0, vP (am 0)), (2, vI p)]) C rfl (by decide) rfl dX8_under_44 rfl ?_
          refine i_iinc (j := 2) (q := 48) (lv' := [(2, vI (p + 1)), (1, vI (n + b)), (0, vP (am 0))]) C rfl (by decide) rfl dX8_under_45 rfl ?_
          refine i_goto (q := 4) C dX8_under_48 (by decide) ?_
          refine V.lv [2, 1, 0] rfl ?_
          exact ih_4 (p + 1) (n + b) (by omega) (by omega) (by
            unfold und at hv ⊢
            rw [fil_ml _ st hp.1, ← hv, show (mp st p).2.1 = lt st p from rfl]
            rcases hb with ⟨h1, h2⟩ | ⟨h1, h2⟩
            · rw [if_pos h2, h1]
            · rw [if_neg h2, h1])
        refine i_iload_n (j := 1) (q := 17) C rfl rfl dX8_under_16 rfl ?_
        refine i_aload_n (j := 0) (q := 18) C rfl rfl dX8_under_17 rfl ?_
        refine i_get (i := 0) (j := 0) (f := 0) (q := 21) C rfl rfl rfl hi_X8_under_X8 (by decide) lk_X8_under_7 rfl dX8_under_18 rfl ?_
        refine i_bipush (q := 23) C (by decide) dX8_under_21 rfl ?_
        refine i_iload_n (j := 2) (q := 24) C rfl rfl dX8_under_23 rfl ?_
        refine i_imul (q := 25) C dX8_under_24 rfl ?_
        refine i_iald (i := 0) (j := 1) (q := 26) C rfl rfl (by omega) dX8_under_25 rfl ?_
        have ld_25 := hs.k0 p (by omega) (by omega)
        refine i_iconst (q := 27) C dX8_under_26 rfl ?_
        refine i_icmp_ne (tgt := 42) (q := 30) C (by omega) (by omega) dX8_under_27 (by decide) rfl (fun c_27 => ?_) (fun c_27 => ?_)
        · skip
          refine i_iconst (q := 43) C dX8_under_42 rfl ?_
          exact join_43 (0) (by first | exact Or.inr ⟨rfl, fun z => c_27 z.1⟩ | exact Or.inr ⟨rfl, fun z => h_35 z.2⟩ | exact Or.inl ⟨rfl, c_27, h_35⟩)
        · skip
          refine i_aload_n (j := 0) (q := 31) C rfl rfl dX8_under_30 rfl ?_
          refine i_iload_n (j := 2) (q := 32) C rfl rfl dX8_under_31 rfl ?_
          refine i_callV (wr := []) (As := [vI p]) (st := [vI n]) (i := 0) (j := 0) (q := 35) C (c_X8_begins K l (am) (st) (bk) (un) (ck) (ty) (tm) (tx) (ln) (rf) (dg) (dn) (rk) (pl) (iw) (wd) (wm) (od) (oc) (U) (p) (by first | assumption | omega) (by first | assumption | omega) (by first | assumption | omega) (by first | assumption | omega)) gX8_under_X8_begins rfl hd_X8_begins ⟨Nat.le_of_ble_eq_true rfl, Nat.le_of_ble_eq_true rfl⟩ ⟨rfl, rfl⟩ ⟨Nat.le_of_ble_eq_true rfl, Nat.le_of_ble_eq_true rfl⟩ (permBy [0] (by decide) rfl rfl) rfl rfl rfl rfl (Nat.le_of_ble_eq_true rfl) dX8_under_32 rfl (fun v w hq => ?_)
          obtain ⟨rfl, rfl⟩ := hq
          show V X 0 0 35 [(0, vP (am 0)), (1, vI n), (2, vI p)] [vI (if bgs (rg ty tm) (lt st p) = true then 1 else 0), vI n] [mdW am (st, bk, un, ck, ty, tm, tx, ln, rf, dg, dn, rk, pl, iw, wd, wm, od, oc)]
          refine i_if_eq (tgt := 42) (q := 38) C (if01) dX8_under_35 (by decide) rfl (fun c_35 => ?_) (fun c_35 => ?_)
          · skip
            have h_35 := if0 c_35
            refine i_iconst (q := 43) C dX8_under_42 rfl ?_
            exact join_43 (0) (by first | exact Or.inr ⟨rfl, fun z => c_27 z.1⟩ | exact Or.inr ⟨rfl, fun z => h_35 z.2⟩ | exact Or.inl ⟨rfl, c_27, h_35⟩)
          · skip
            have h_35 := ifn0 c_35
            refine i_iconst (q := 39) C dX8_under_38 rfl ?_
            refine i_goto (q := 43) C dX8_under_39 (by decide) ?_
            exact join_43 (1) (by first | exact Or.inr ⟨rfl, fun z => c_27 z.1⟩ | exact Or.inr ⟨rfl, fun z => h_35 z.2⟩ | exact Or.inl ⟨rfl, c_27, h_35⟩)
  refine V.lv [2, 1, 0] rfl ?_
  exact loop_4 _ (0) (0) (Nat.lt_succ_self _) (by omega) (rfl)

theorem lk_X8_close_7 : Cond.fieldLink RX8 7 (TX8 0).1 (TX8 0).2.1 (TX8 0).2.2.1 ∈ wsX8_close := List.mem_of_getElem? (i := 1) rfl
theorem hi_X8_close_X8 : ∀ w ∈ u_ws RX8 TX8 18, w ∈ wsX8_close := by decide +kernel
theorem hd_X8_isClose : yX8_isClose.cls = RX8 ∧ yX8_isClose.cls ≠ "java/lang/invoke/MethodHandle" ∧ yX8_isClose.cls ≠ "java/lang/invoke/VarHandle" ∧ (parseMethodDescriptor yX8_isClose.desc).map (fun d => d.parameters.length) = some 1 := by decide +kernel
set_option maxHeartbeats 400000 in
set_option maxRecDepth 100000 in
theorem c_X8_close (K : KT) (l : Launch) (am : Nat → Nat) (st : Int → Int) (bk : Int → Int) (un : Int) (ck : Int) (ty : Int → Int) (tm : Int) (tx : Int → Int) (ln : Int) (rf : Int → Int) (dg : Int) (dn : Int → Int) (rk : Int → Int) (pl : Int) (iw : Int) (wd : Int → Int) (wm : Int) (od : Int → Int) (oc : Int) (U : Int) (hs : okS U st) (htm : 0 ≤ tm ∧ tm ≤ 12) (hty : ∀ k, 0 ≤ k → k < tm → 0 ≤ ty k ∧ ty k ≤ 7) : Mt K l yX8_close wsX8_close ({ frames := 2, cells := 0, slots := 0, locals := 50 }) [vP (am 0)] [mdW am (st, bk, un, ck, ty, tm, tx, ln, rf, dg, dn, rk, pl, iw, wd, wm, od, oc)] 0 0 (fun v w => v = some (vI (cls (rg ty tm) (ml st (st 2800).toNat))) ∧ w = [mdW am (st, bk, un, ck, ty, tm, tx, ln, rf, dg, dn, rk, pl, iw, wd, wm, od, oc)]) := by
  refine Mt.of (own := RX8) (cc := cX8_close) (maxL := 3) (ret := (some .int)) (lv0 := [(0, vP (am 0))]) (by decide) rfl rfl (Nat.le_of_ble_eq_true rfl) rfl (fun X C hR hNm => ?_)
  have hgv := hs.gv
  refine i_iconst (q := 1) C dX8_close_0 rfl ?_
  refine i_istore_n (q := 2) (lv' := [(1, vI 0), (0, vP (am 0))]) C rfl (by decide) rfl dX8_close_1 rfl ?_
  refine i_iconst (q := 3) C dX8_close_2 rfl ?_
  refine i_istore_n (q := 4) (lv' := [(2, vI 0), (1, vI 0), (0, vP (am 0))]) C rfl (by decide) rfl dX8_close_3 rfl ?_
  have loop_4 : ∀ (fuel : Nat) (p : Int) (n : Int), ((st 2800 - p).toNat) < fuel → (0 ≤ p ∧ p ≤ st 2800) → (n = cls (rg ty tm) (ml st p.toNat)) → V X 0 0 4 [(0, vP (am 0)), (1, vI n), (2, vI p)] [] [mdW am (st, bk, un, ck, ty, tm, tx, ln, rf, dg, dn, rk, pl, iw, wd, wm, od, oc)] := by
    intro fuel
    induction fuel with
    | zero => intro p n hz; exact absurd hz (Nat.not_lt_zero _)
    | succ fuel ih_4 =>
      intro p n hfu_4 hp hv
      refine i_iload_n (j := 2) (q := 5) C rfl rfl dX8_close_4 rfl ?_
      refine i_aload_n (j := 0) (q := 6) C rfl rfl dX8_close_5 rfl ?_
      refine i_get (i := 0) (j := 0) (f := 0) (q := 9) C rfl rfl rfl hi_X8_close_X8 (by decide) lk_X8_close_7 rfl dX8_close_6 rfl ?_
      refine i_sipush (q := 12) C (by decide) dX8_close_9 rfl ?_
      refine i_iald (i := 0) (j := 1) (q := 13) C rfl rfl (by omega) dX8_close_12 rfl ?_
      have ld_12 := hs.gv
      refine i_icmp_ge (tgt := 51) (q := 16) C (by omega) (by omega) dX8_close_13 (by decide) rfl (fun c_13 => ?_) (fun c_13 => ?_)
      · skip
        refine i_iload_n (j := 1) (q := 52) C rfl rfl dX8_close_51 rfl ?_
        refine i_iret C hR dX8_close_52 ?_
        have e9 : p = st 2800 := by omega
        subst e9; subst hv
        exact ⟨rfl, rfl⟩
      · skip
        have join_43 : ∀ (b : Int), ((b = 1 ∧ (st (14 * p) = 1 ∧ clo (rg ty tm) (lt st p) = true)) ∨ (b = 0 ∧ ¬ (st (14 * p) = 1 ∧ clo (rg ty tm) (lt st p) = true))) → V X 0 0 43 [(0, vP (am 0)), (1, vI n), (2, vI p)] [vI b, vI n] [mdW am (st, bk, un, ck, ty, tm, tx, ln, rf, dg, dn, rk, pl, iw, wd, wm, od, oc)] := by
          intro b hb
          refine i_iadd (q := 44) C dX8_close_43 rfl ?_
          refine i_istore_n (q := 45) (lv' := [(1, vI (n + b)), (0, vP (am 0)), (2, vI p)]) C rfl (by decide) rfl dX8_close_44 rfl ?_
          refine i_iinc (j := 2) (q := 48) (lv' := [(2, vI (p + 1)), (1, vI (n + b)), (0, vP (am 0))]) C rfl (by decide) rfl dX8_close_45 rfl ?_
          refine i_goto (q := 4) C dX8_close_48 (by decide) ?_
          refine V.lv [2, 1, 0] rfl ?_
          exact ih_4 (p + 1) (n + b) (by omega) (by omega) (by
            unfold cls at hv ⊢
            rw [fil_ml _ st hp.1, ← hv, show (mp st p).2.1 = lt st p from rfl]
            rcases hb with ⟨h1, h2⟩ | ⟨h1, h2⟩
            · rw [if_pos h2, h1]
            · rw [if_neg h2, h1])
        refine i_iload_n (j := 1) (q := 17) C rfl rfl dX8_close_16 rfl ?_
        refine i_aload_n (j := 0) (q := 18) C rfl rfl dX8_close_17 rfl ?_
        refine i_get (i := 0) (j := 0) (f := 0) (q := 21) C rfl rfl rfl hi_X8_close_X8 (by decide) lk_X8_close_7 rfl dX8_close_18 rfl ?_
        refine i_bipush (q := 23) C (by decide) dX8_close_21 rfl ?_
        refine i_iload_n (j := 2) (q := 24) C rfl rfl dX8_close_23 rfl ?_
        refine i_imul (q := 25) C dX8_close_24 rfl ?_
        refine i_iald (i := 0) (j := 1) (q := 26) C rfl rfl (by omega) dX8_close_25 rfl ?_
        have ld_25 := hs.k0 p (by omega) (by omega)
        refine i_iconst (q := 27) C dX8_close_26 rfl ?_
        refine i_icmp_ne (tgt := 42) (q := 30) C (by omega) (by omega) dX8_close_27 (by decide) rfl (fun c_27 => ?_) (fun c_27 => ?_)
        · skip
          refine i_iconst (q := 43) C dX8_close_42 rfl ?_
          exact join_43 (0) (by first | exact Or.inr ⟨rfl, fun z => c_27 z.1⟩ | exact Or.inr ⟨rfl, fun z => h_35 z.2⟩ | exact Or.inl ⟨rfl, c_27, h_35⟩)
        · skip
          refine i_aload_n (j := 0) (q := 31) C rfl rfl dX8_close_30 rfl ?_
          refine i_iload_n (j := 2) (q := 32) C rfl rfl dX8_close_31 rfl ?_
          refine i_callV (wr := []) (As := [vI p]) (st := [vI n]) (i := 0) (j := 0) (q := 35) C (c_X8_isClose K l (am) (st) (bk) (un) (ck) (ty) (tm) (tx) (ln) (rf) (dg) (dn) (rk) (pl) (iw) (wd) (wm) (od) (oc) (U) (p) (by first | assumption | omega) (by first | assumption | omega) (by first | assumption | omega) (by first | assumption | omega)) gX8_close_X8_isClose rfl hd_X8_isClose ⟨Nat.le_of_ble_eq_true rfl, Nat.le_of_ble_eq_true rfl⟩ ⟨rfl, rfl⟩ ⟨Nat.le_of_ble_eq_true rfl, Nat.le_of_ble_eq_true rfl⟩ (permBy [0] (by decide) rfl rfl) rfl rfl rfl rfl (Nat.le_of_ble_eq_true rfl) dX8_close_32 rfl (fun v w hq => ?_)
          obtain ⟨rfl, rfl⟩ := hq
          show V X 0 0 35 [(0, vP (am 0)), (1, vI n), (2, vI p)] [vI (if clo (rg ty tm) (lt st p) = true then 1 else 0), vI n] [mdW am (st, bk, un, ck, ty, tm, tx, ln, rf, dg, dn, rk, pl, iw, wd, wm, od, oc)]
          refine i_if_eq (tgt := 42) (q := 38) C (if01) dX8_close_35 (by decide) rfl (fun c_35 => ?_) (fun c_35 => ?_)
          · skip
            have h_35 := if0 c_35
            refine i_iconst (q := 43) C dX8_close_42 rfl ?_
            exact join_43 (0) (by first | exact Or.inr ⟨rfl, fun z => c_27 z.1⟩ | exact Or.inr ⟨rfl, fun z => h_35 z.2⟩ | exact Or.inl ⟨rfl, c_27, h_35⟩)
          · skip
            have h_35 := ifn0 c_35
            refine i_iconst (q := 39) C dX8_close_38 rfl ?_
            refine i_goto (q := 43) C dX8_close_39 (by decide) ?_
            exact join_43 (1) (by first | exact Or.inr ⟨rfl, fun z => c_27 z.1⟩ | exact Or.inr ⟨rfl, fun z => h_35 z.2⟩ | exact Or.inl ⟨rfl, c_27, h_35⟩)
  refine V.lv [2, 1, 0] rfl ?_
  exact loop_4 _ (0) (0) (Nat.lt_succ_self _) (by omega) (rfl)

theorem lk_X8_ahead_53 : Cond.fieldLink RX8 53 (TX8 5).1 (TX8 5).2.1 (TX8 5).2.2.1 ∈ wsX8_ahead := List.mem_of_getElem? (i := 1) rfl
theorem hi_X8_ahead_X8 : ∀ w ∈ u_ws RX8 TX8 18, w ∈ wsX8_ahead := by decide +kernel
theorem lk_X8_ahead_7 : Cond.fieldLink RX8 7 (TX8 0).1 (TX8 0).2.1 (TX8 0).2.2.1 ∈ wsX8_ahead := List.mem_of_getElem? (i := 2) rfl
set_option maxHeartbeats 400000 in
set_option maxRecDepth 100000 in
theorem c_X8_ahead (K : KT) (l : Launch) (am : Nat → Nat) (st : Int → Int) (bk : Int → Int) (un : Int) (ck : Int) (ty : Int → Int) (tm : Int) (tx : Int → Int) (ln : Int) (rf : Int → Int) (dg : Int) (dn : Int → Int) (rk : Int → Int) (pl : Int) (iw : Int) (wd : Int → Int) (wm : Int) (od : Int → Int) (oc : Int) (U : Int) (hs : okS U st) (htm : 0 ≤ tm ∧ tm ≤ 12) (hty : ∀ k, 0 ≤ k → k < tm → 0 ≤ ty k ∧ ty k ≤ 7) : Mt K l yX8_ahead wsX8_ahead ({ frames := 2, cells := 0, slots := 0, locals := 47 }) [vP (am 0)] [mdW am (st, bk, un, ck, ty, tm, tx, ln, rf, dg, dn, rk, pl, iw, wd, wm, od, oc)] 0 0 (fun v w => v = some (vI (ahd (rg ty tm) (ml st (st 2800).toNat))) ∧ w = [mdW am (st, bk, un, ck, ty, tm, tx, ln, rf, dg, dn, rk, pl, iw, wd, wm, od, oc)]) := by
  refine Mt.of (own := RX8) (cc := cX8_ahead) (maxL := 2) (ret := (some .int)) (lv0 := [(0, vP (am 0))]) (by decide) rfl rfl (Nat.le_of_ble_eq_true rfl) rfl (fun X C hR hNm => ?_)
  have hgv := hs.gv
  have htl : ((rg ty tm).length : Int) = tm := by rw [rg_len]; omega
  refine i_aload_n (j := 0) (q := 1) C rfl rfl dX8_ahead_0 rfl ?_
  refine i_aload_n (j := 0) (q := 2) C rfl rfl dX8_ahead_1 rfl ?_
  refine i_get (i := 0) (j := 0) (f := 5) (q := 5) C rfl rfl rfl hi_X8_ahead_X8 (by decide) lk_X8_ahead_53 rfl dX8_ahead_2 rfl ?_
  refine i_iconst (q := 6) C dX8_ahead_5 rfl ?_
  refine i_iadd (q := 7) C dX8_ahead_6 rfl ?_
  refine i_callV (wr := []) (As := [vI (tm + 1)]) (st := []) (i := 0) (j := 0) (q := 10) C (c_X8_firstOf K l (am) (st) (bk) (un) (ck) (ty) (tm) (tx) (ln) (rf) (dg) (dn) (rk) (pl) (iw) (wd) (wm) (od) (oc) (U) (tm + 1) (by first | assumption | omega) (by first | assumption | omega) (by first | assumption | omega) (by first | assumption | omega)) gX8_ahead_X8_firstOf rfl hd_X8_firstOf ⟨Nat.le_of_ble_eq_true rfl, Nat.le_of_ble_eq_true rfl⟩ ⟨rfl, rfl⟩ ⟨Nat.le_of_ble_eq_true rfl, Nat.le_of_ble_eq_true rfl⟩ (permBy [0] (by decide) rfl rfl) rfl rfl rfl rfl (Nat.le_of_ble_eq_true rfl) dX8_ahead_7 rfl (fun v w hq => ?_)
  obtain ⟨r_7, rfl, rfl, hr_7⟩ := hq
  show V X 0 0 10 [(0, vP (am 0))] [vI r_7] [mdW am (st, bk, un, ck, ty, tm, tx, ln, rf, dg, dn, rk, pl, iw, wd, wm, od, oc)]
  refine i_istore_n (q := 11) (lv' := [(1, vI r_7), (0, vP (am 0))]) C rfl (by decide) rfl dX8_ahead_10 rfl ?_
  refine i_iload_n (j := 0) (q := 12) C rfl rfl dX8_ahead_11 rfl ?_
  refine i_iconst (q := 13) C dX8_ahead_12 rfl ?_
  refine i_icmp_ne (tgt := 20) (q := 16) C (by rcases hr_7 with h | h <;> omega) (by omega) dX8_ahead_13 (by decide) rfl (fun c_13 => ?_) (fun c_13 => ?_)
  · skip
    have hr0 : 0 ≤ r_7 ∧ r_7 < st 2800 ∧ tm + 1 ≤ st (14 * r_7 + 3) := by
      rcases hr_7 with h | h
      · omega
      · exact ⟨h.1, h.2.1, ((cB_mp hs h.1 h.2.1).mp (fo_c h.2.2.2)).1⟩
    have k3 := hs.k3 r_7 hr0.1 hr0.2.1
    refine i_aload_n (j := 1) (q := 21) C rfl rfl dX8_ahead_20 rfl ?_
    refine i_get (i := 0) (j := 0) (f := 0) (q := 24) C rfl rfl rfl hi_X8_ahead_X8 (by decide) lk_X8_ahead_7 rfl dX8_ahead_21 rfl ?_
    refine i_bipush (q := 26) C (by decide) dX8_ahead_24 rfl ?_
    refine i_iload_n (j := 0) (q := 27) C rfl rfl dX8_ahead_26 rfl ?_
    refine i_imul (q := 28) C dX8_ahead_27 rfl ?_
    refine i_bipush (q := 30) C (by decide) dX8_ahead_28 rfl ?_
    refine i_iadd (q := 31) C dX8_ahead_30 rfl ?_
    refine i_aload_n (j := 1) (q := 32) C rfl rfl dX8_ahead_31 rfl ?_
    refine i_get (i := 0) (j := 0) (f := 5) (q := 35) C rfl rfl rfl hi_X8_ahead_X8 (by decide) lk_X8_ahead_53 rfl dX8_ahead_32 rfl ?_
    refine i_iadd (q := 36) C dX8_ahead_35 rfl ?_
    refine i_iald (i := 0) (j := 1) (q := 37) C rfl rfl (by omega) dX8_ahead_36 rfl ?_
    skip
    refine i_iret C hR dX8_ahead_37 ?_
    exact ⟨by
      unfold ahd
      rw [htl]
      rcases hr_7 with h | h
      · rw [h.2] <;> first | rfl | omega
      · rw [h.2.2.2]
        first
          | omega
          | (have e1 := rg_getD (fun k => st (14 * r_7 + 6 + k)) (n := st (14 * r_7 + 3)) (k := tm) (-1) htm.1
             rw [if_pos (by omega)] at e1
             have e2 : (rg ty tm).length = tm.toNat := rg_len _ _
             simp only [Option.some.injEq, Sum.inl.injEq]
             rw [e2]
             exact e1.symm), rfl⟩
  · skip
    refine i_iconst (q := 17) C dX8_ahead_16 rfl ?_
    refine i_goto (q := 37) C dX8_ahead_17 (by decide) ?_
    refine i_iret C hR dX8_ahead_37 ?_
    exact ⟨by
      unfold ahd
      rw [htl]
      rcases hr_7 with h | h
      · rw [h.2] <;> first | rfl | omega
      · rw [h.2.2.2]
        first
          | omega
          | (have e1 := rg_getD (fun k => st (14 * r_7 + 6 + k)) (n := st (14 * r_7 + 3)) (k := tm) (-1) htm.1
             rw [if_pos (by omega)] at e1
             have e2 : (rg ty tm).length = tm.toNat := rg_len _ _
             simp only [Option.some.injEq, Sum.inl.injEq]
             rw [e2]
             exact e1.symm), rfl⟩

theorem lk_X8_common_7 : Cond.fieldLink RX8 7 (TX8 0).1 (TX8 0).2.1 (TX8 0).2.2.1 ∈ wsX8_common := List.mem_of_getElem? (i := 1) rfl
theorem hi_X8_common_X8 : ∀ w ∈ u_ws RX8 TX8 18, w ∈ wsX8_common := by decide +kernel
theorem lk_X8_common_53 : Cond.fieldLink RX8 53 (TX8 5).1 (TX8 5).2.1 (TX8 5).2.2.1 ∈ wsX8_common := List.mem_of_getElem? (i := 2) rfl
theorem hd_X8_sameOf : yX8_sameOf.cls = RX8 ∧ yX8_sameOf.cls ≠ "java/lang/invoke/MethodHandle" ∧ yX8_sameOf.cls ≠ "java/lang/invoke/VarHandle" ∧ (parseMethodDescriptor yX8_sameOf.desc).map (fun d => d.parameters.length) = some 2 := by decide +kernel
set_option maxHeartbeats 400000 in
set_option maxRecDepth 100000 in
theorem c_X8_common (K : KT) (l : Launch) (am : Nat → Nat) (st : Int → Int) (bk : Int → Int) (un : Int) (ck : Int) (ty : Int → Int) (tm : Int) (tx : Int → Int) (ln : Int) (rf : Int → Int) (dg : Int) (dn : Int → Int) (rk : Int → Int) (pl : Int) (iw : Int) (wd : Int → Int) (wm : Int) (od : Int → Int) (oc : Int) (U : Int) (hs : okS U st) (htm : 0 ≤ tm ∧ tm ≤ 12) (hty : ∀ k, 0 ≤ k → k < tm → 0 ≤ ty k ∧ ty k ≤ 7) : Mt K l yX8_common wsX8_common ({ frames := 2, cells := 0, slots := 0, locals := 47 }) [vP (am 0)] [mdW am (st, bk, un, ck, ty, tm, tx, ln, rf, dg, dn, rk, pl, iw, wd, wm, od, oc)] 0 0 (fun v w => v = some (vI (cmn (rg ty tm) (ml st (st 2800).toNat))) ∧ w = [mdW am (st, bk, un, ck, ty, tm, tx, ln, rf, dg, dn, rk, pl, iw, wd, wm, od, oc)]) := by
  refine Mt.of (own := RX8) (cc := cX8_common) (maxL := 5) (ret := (some .int)) (lv0 := [(0, vP (am 0))]) (by decide) rfl rfl (Nat.le_of_ble_eq_true rfl) rfl (fun X C hR hNm => ?_)
  have hgv := hs.gv
  have htl : ((rg ty tm).length : Int) = tm := by rw [rg_len]; omega
  refine i_aload_n (j := 0) (q := 1) C rfl rfl dX8_common_0 rfl ?_
  refine i_iconst (q := 2) C dX8_common_1 rfl ?_
  refine i_callV (wr := []) (As := [vI 0]) (st := []) (i := 0) (j := 0) (q := 5) C (c_X8_firstOf K l (am) (st) (bk) (un) (ck) (ty) (tm) (tx) (ln) (rf) (dg) (dn) (rk) (pl) (iw) (wd) (wm) (od) (oc) (U) (0) (by first | assumption | omega) (by first | assumption | omega) (by first | assumption | omega) (by first | assumption | omega)) gX8_common_X8_firstOf rfl hd_X8_firstOf ⟨Nat.le_of_ble_eq_true rfl, Nat.le_of_ble_eq_true rfl⟩ ⟨rfl, rfl⟩ ⟨Nat.le_of_ble_eq_true rfl, Nat.le_of_ble_eq_true rfl⟩ (permBy [0] (by decide) rfl rfl) rfl rfl rfl rfl (Nat.le_of_ble_eq_true rfl) dX8_common_2 rfl (fun v w hq => ?_)
  obtain ⟨r_2, rfl, rfl, hr_2⟩ := hq
  show V X 0 0 5 [(0, vP (am 0))] [vI r_2] [mdW am (st, bk, un, ck, ty, tm, tx, ln, rf, dg, dn, rk, pl, iw, wd, wm, od, oc)]
  refine i_istore_n (q := 6) (lv' := [(1, vI r_2), (0, vP (am 0))]) C rfl (by decide) rfl dX8_common_5 rfl ?_
  refine i_iload_n (j := 0) (q := 7) C rfl rfl dX8_common_6 rfl ?_
  refine i_iconst (q := 8) C dX8_common_7 rfl ?_
  refine i_icmp_ne (tgt := 13) (q := 11) C (by rcases hr_2 with h | h <;> omega) (by omega) dX8_common_8 (by decide) rfl (fun c_8 => ?_) (fun c_8 => ?_)
  · skip
    obtain ⟨g1, g2, g3, g4⟩ : 0 ≤ r_2 ∧ r_2 < st 2800 ∧ st (14 * r_2) = 1 ∧ fo (cB (rg ty tm) 0) (ml st (st 2800).toNat) = some (mp st r_2) := by
      rcases hr_2 with h | h
      · omega
      · exact h
    have k3 := hs.k3 r_2 g1 g2
    refine i_aload_n (j := 1) (q := 14) C rfl rfl dX8_common_13 rfl ?_
    refine i_get (i := 0) (j := 0) (f := 0) (q := 17) C rfl rfl rfl hi_X8_common_X8 (by decide) lk_X8_common_7 rfl dX8_common_14 rfl ?_
    refine i_bipush (q := 19) C (by decide) dX8_common_17 rfl ?_
    refine i_iload_n (j := 0) (q := 20) C rfl rfl dX8_common_19 rfl ?_
    refine i_imul (q := 21) C dX8_common_20 rfl ?_
    refine i_iconst (q := 22) C dX8_common_21 rfl ?_
    refine i_iadd (q := 23) C dX8_common_22 rfl ?_
    refine i_iald (i := 0) (j := 1) (q := 24) C rfl rfl (by omega) dX8_common_23 rfl ?_
    have ld_23 := hs.k3 r_2 (by omega) (by omega)
    refine i_istore_n (q := 25) (lv' := [(2, vI (st ((14 * r_2) + 3))), (1, vI r_2), (0, vP (am 0))]) C rfl (by decide) rfl dX8_common_24 rfl ?_
    refine i_iconst (q := 26) C dX8_common_25 rfl ?_
    refine i_istore_n (q := 27) (lv' := [(3, vI 0), (2, vI (st ((14 * r_2) + 3))), (1, vI r_2), (0, vP (am 0))]) C rfl (by decide) rfl dX8_common_26 rfl ?_
    have loop_27 : ∀ (fuel : Nat) (p : Int) (n : Int), ((st 2800 - p).toNat) < fuel → (0 ≤ p ∧ p ≤ st 2800) → (n = (ml st (p).toNat).foldl (cmn1 (rg ty tm) (lt st r_2)) (st (14 * r_2 + 3))) → (0 ≤ n ∧ n ≤ 8) → V X 0 0 27 [(0, vP (am 0)), (1, vI r_2), (2, vI n), (3, vI p)] [] [mdW am (st, bk, un, ck, ty, tm, tx, ln, rf, dg, dn, rk, pl, iw, wd, wm, od, oc)] := by
      intro fuel
      induction fuel with
      | zero => intro p n hz; exact absurd hz (Nat.not_lt_zero _)
      | succ fuel ih_27 =>
        intro p n hfu_27 hp hv hn
        refine i_iload_n (j := 3) (q := 28) C rfl rfl dX8_common_27 rfl ?_
        refine i_aload_n (j := 0) (q := 29) C rfl rfl dX8_common_28 rfl ?_
        refine i_get (i := 0) (j := 0) (f := 0) (q := 32) C rfl rfl rfl hi_X8_common_X8 (by decide) lk_X8_common_7 rfl dX8_common_29 rfl ?_
        refine i_sipush (q := 35) C (by decide) dX8_common_32 rfl ?_
        refine i_iald (i := 0) (j := 1) (q := 36) C rfl rfl (by omega) dX8_common_35 rfl ?_
        have ld_35 := hs.gv
        refine i_icmp_ge (tgt := 91) (q := 39) C (by omega) (by omega) dX8_common_36 (by decide) rfl (fun c_36 => ?_) (fun c_36 => ?_)
        · skip
          refine i_iload_n (j := 2) (q := 92) C rfl rfl dX8_common_91 rfl ?_
          refine i_aload_n (j := 0) (q := 93) C rfl rfl dX8_common_92 rfl ?_
          refine i_get (i := 0) (j := 0) (f := 5) (q := 96) C rfl rfl rfl hi_X8_common_X8 (by decide) lk_X8_common_53 rfl dX8_common_93 rfl ?_
          refine i_isub (q := 97) C dX8_common_96 rfl ?_
          refine i_iret C hR dX8_common_97 ?_
          have e9 : p = st 2800 := by omega
          subst e9; subst hv
          exact ⟨by
            unfold cmn
            rw [g4]
            simp only [Option.some.injEq, Sum.inl.injEq]
            rw [htl, show ((mp st r_2).2.1.length : Int) = st (14 * r_2 + 3) from lt_len hs g1 g2]
            rfl, rfl⟩
        · skip
          have join_70 : ∀ (m : Int), ((m = (cp (lt st r_2) (lt st p) : Int) ∧ st (14 * p) = 1 ∧ bgs (rg ty tm) (lt st p) = true) ∨ (m = n ∧ ¬ (st (14 * p) = 1 ∧ bgs (rg ty tm) (lt st p) = true))) → (0 ≤ m ∧ m ≤ 8) → V X 0 0 70 [(0, vP (am 0)), (1, vI r_2), (2, vI n), (3, vI p)] [vI m] [mdW am (st, bk, un, ck, ty, tm, tx, ln, rf, dg, dn, rk, pl, iw, wd, wm, od, oc)] := by
            intro m hq hm0
            refine i_istore (q := 72) (lv' := [(4, vI m), (0, vP (am 0)), (1, vI r_2), (2, vI n), (3, vI p)]) C (by decide) rfl dX8_common_70 rfl ?_
            refine i_iload (j := 0) (q := 74) C rfl dX8_common_72 rfl ?_
            refine i_iload_n (j := 3) (q := 75) C rfl rfl dX8_common_74 rfl ?_
            refine i_icmp_ge (tgt := 83) (q := 78) C (by omega) (by omega) dX8_common_75 (by decide) rfl (fun c_75 => ?_) (fun c_75 => ?_)
            · skip
              refine i_iload_n (j := 3) (q := 84) C rfl rfl dX8_common_83 rfl ?_
              refine i_istore_n (q := 85) (lv' := [(2, vI n), (4, vI m), (0, vP (am 0)), (1, vI r_2), (3, vI p)]) C rfl (by decide) rfl dX8_common_84 rfl ?_
              refine i_iinc (j := 4) (q := 88) (lv' := [(3, vI (p + 1)), (2, vI n), (4, vI m), (0, vP (am 0)), (1, vI r_2)]) C rfl (by decide) rfl dX8_common_85 rfl ?_
              refine i_goto (q := 27) C dX8_common_88 (by decide) ?_
              refine V.lv [3, 4, 1, 0] rfl ?_
              exact ih_27 (p + 1) (n) (by omega) (by omega) (by
                rw [fold_ml _ _ st hp.1, ← hv]
                have e1 : (mp st p).2.1 = lt st p := rfl
                rcases hq with ⟨h1, h2, h3⟩ | ⟨h1, h2⟩
                · rw [if_pos h2]; unfold cmn1; rw [e1, if_pos h3]; omega
                · by_cases e : st (14 * p) = 1
                  · rw [if_pos e]; unfold cmn1; rw [e1, if_neg (fun z => h2 ⟨e, z⟩)] <;> omega
                  · rw [if_neg e] <;> omega) (by omega)
            · skip
              refine i_iload (j := 0) (q := 80) C rfl dX8_common_78 rfl ?_
              refine i_goto (q := 84) C dX8_common_80 (by decide) ?_
              refine i_istore_n (q := 85) (lv' := [(2, vI m), (4, vI m), (0, vP (am 0)), (1, vI r_2), (3, vI p)]) C rfl (by decide) rfl dX8_common_84 rfl ?_
              refine i_iinc (j := 4) (q := 88) (lv' := [(3, vI (p + 1)), (2, vI m), (4, vI m), (0, vP (am 0)), (1, vI r_2)]) C rfl (by decide) rfl dX8_common_85 rfl ?_
              refine i_goto (q := 27) C dX8_common_88 (by decide) ?_
              refine V.lv [3, 4, 1, 0] rfl ?_
              exact ih_27 (p + 1) (m) (by omega) (by omega) (by
                rw [fold_ml _ _ st hp.1, ← hv]
                have e1 : (mp st p).2.1 = lt st p := rfl
                rcases hq with ⟨h1, h2, h3⟩ | ⟨h1, h2⟩
                · rw [if_pos h2]; unfold cmn1; rw [e1, if_pos h3]; omega
                · by_cases e : st (14 * p) = 1
                  · rw [if_pos e]; unfold cmn1; rw [e1, if_neg (fun z => h2 ⟨e, z⟩)] <;> omega
                  · rw [if_neg e] <;> omega) (by omega)
          refine i_aload_n (j := 0) (q := 40) C rfl rfl dX8_common_39 rfl ?_
          refine i_get (i := 0) (j := 0) (f := 0) (q := 43) C rfl rfl rfl hi_X8_common_X8 (by decide) lk_X8_common_7 rfl dX8_common_40 rfl ?_
          refine i_bipush (q := 45) C (by decide) dX8_common_43 rfl ?_
          refine i_iload_n (j := 3) (q := 46) C rfl rfl dX8_common_45 rfl ?_
          refine i_imul (q := 47) C dX8_common_46 rfl ?_
          refine i_iald (i := 0) (j := 1) (q := 48) C rfl rfl (by omega) dX8_common_47 rfl ?_
          have ld_47 := hs.k0 p (by omega) (by omega)
          refine i_iconst (q := 49) C dX8_common_48 rfl ?_
          refine i_icmp_ne (tgt := 69) (q := 52) C (by omega) (by omega) dX8_common_49 (by decide) rfl (fun c_49 => ?_) (fun c_49 => ?_)
          · skip
            refine i_iload_n (j := 2) (q := 70) C rfl rfl dX8_common_69 rfl ?_
            exact join_70 (n) (by first | exact Or.inr ⟨rfl, fun z => c_49 z.1⟩ | exact Or.inr ⟨rfl, fun z => h_57 z.2⟩ | exact Or.inl ⟨rfl, c_49, h_57⟩) (by omega)
          · skip
            refine i_aload_n (j := 0) (q := 53) C rfl rfl dX8_common_52 rfl ?_
            refine i_iload_n (j := 3) (q := 54) C rfl rfl dX8_common_53 rfl ?_
            refine i_callV (wr := []) (As := [vI p]) (st := []) (i := 0) (j := 0) (q := 57) C (c_X8_begins K l (am) (st) (bk) (un) (ck) (ty) (tm) (tx) (ln) (rf) (dg) (dn) (rk) (pl) (iw) (wd) (wm) (od) (oc) (U) (p) (by first | assumption | omega) (by first | assumption | omega) (by first | assumption | omega) (by first | assumption | omega)) gX8_common_X8_begins rfl hd_X8_begins ⟨Nat.le_of_ble_eq_true rfl, Nat.le_of_ble_eq_true rfl⟩ ⟨rfl, rfl⟩ ⟨Nat.le_of_ble_eq_true rfl, Nat.le_of_ble_eq_true rfl⟩ (permBy [0] (by decide) rfl rfl) rfl rfl rfl rfl (Nat.le_of_ble_eq_true rfl) dX8_common_54 rfl (fun v w hq => ?_)
            obtain ⟨rfl, rfl⟩ := hq
            show V X 0 0 57 [(0, vP (am 0)), (1, vI r_2), (2, vI n), (3, vI p)] [vI (if bgs (rg ty tm) (lt st p) = true then 1 else 0)] [mdW am (st, bk, un, ck, ty, tm, tx, ln, rf, dg, dn, rk, pl, iw, wd, wm, od, oc)]
            refine i_if_eq (tgt := 69) (q := 60) C (if01) dX8_common_57 (by decide) rfl (fun c_57 => ?_) (fun c_57 => ?_)
            · skip
              have h_57 := if0 c_57
              refine i_iload_n (j := 2) (q := 70) C rfl rfl dX8_common_69 rfl ?_
              exact join_70 (n) (by first | exact Or.inr ⟨rfl, fun z => c_49 z.1⟩ | exact Or.inr ⟨rfl, fun z => h_57 z.2⟩ | exact Or.inl ⟨rfl, c_49, h_57⟩) (by omega)
            · skip
              have h_57 := ifn0 c_57
              refine i_aload_n (j := 0) (q := 61) C rfl rfl dX8_common_60 rfl ?_
              refine i_iload_n (j := 1) (q := 62) C rfl rfl dX8_common_61 rfl ?_
              refine i_iload_n (j := 3) (q := 63) C rfl rfl dX8_common_62 rfl ?_
              refine i_callV (wr := []) (As := [vI r_2, vI p]) (st := []) (i := 0) (j := 0) (q := 66) C (c_X8_sameOf K l (am) (st) (bk) (un) (ck) (ty) (tm) (tx) (ln) (rf) (dg) (dn) (rk) (pl) (iw) (wd) (wm) (od) (oc) (U) (r_2) (p) (by first | assumption | omega) (by first | assumption | omega) (by first | assumption | omega)) gX8_common_X8_sameOf rfl hd_X8_sameOf ⟨Nat.le_of_ble_eq_true rfl, Nat.le_of_ble_eq_true rfl⟩ ⟨rfl, rfl⟩ ⟨Nat.le_of_ble_eq_true rfl, Nat.le_of_ble_eq_true rfl⟩ (permBy [0] (by decide) rfl rfl) rfl rfl rfl rfl (Nat.le_of_ble_eq_true rfl) dX8_common_63 rfl (fun v w hq => ?_)
              obtain ⟨rfl, rfl⟩ := hq
              show V X 0 0 66 [(0, vP (am 0)), (1, vI r_2), (2, vI n), (3, vI p)] [vI (cp (lt st r_2) (lt st p) : Int)] [mdW am (st, bk, un, ck, ty, tm, tx, ln, rf, dg, dn, rk, pl, iw, wd, wm, od, oc)]
              have hc63 := cp_le (lt st r_2) (lt st p)
              have hc64 := lt_len hs g1 g2
              refine i_goto (q := 70) C dX8_common_66 (by decide) ?_
              exact join_70 (cp (lt st r_2) (lt st p) : Int) (by first | exact Or.inr ⟨rfl, fun z => c_49 z.1⟩ | exact Or.inr ⟨rfl, fun z => h_57 z.2⟩ | exact Or.inl ⟨rfl, c_49, h_57⟩) (by omega)
    refine V.lv [3, 2, 1, 0] rfl ?_
    exact loop_27 _ (0) (st ((14 * r_2) + 3)) (Nat.lt_succ_self _) (by omega) (rfl) (by omega)
  · skip
    refine i_iconst (q := 12) C dX8_common_11 rfl ?_
    refine i_iret C hR dX8_common_12 ?_
    exact ⟨by
      unfold cmn
      rcases hr_2 with h | h
      · rw [h.2]
      · omega, rfl⟩

theorem lk_X8_find_53 : Cond.fieldLink RX8 53 (TX8 5).1 (TX8 5).2.1 (TX8 5).2.2.1 ∈ wsX8_find := List.mem_of_getElem? (i := 1) rfl
theorem hi_X8_find_X8 : ∀ w ∈ u_ws RX8 TX8 18, w ∈ wsX8_find := by decide +kernel
theorem lk_X8_find_17 : Cond.fieldLink RX8 17 (TX8 4).1 (TX8 4).2.1 (TX8 4).2.2.1 ∈ wsX8_find := List.mem_of_getElem? (i := 2) rfl
set_option maxHeartbeats 400000 in
set_option maxRecDepth 100000 in
theorem c_X8_find (K : KT) (l : Launch) (am : Nat → Nat) (st : Int → Int) (bk : Int → Int) (un : Int) (ck : Int) (ty : Int → Int) (tm : Int) (tx : Int → Int) (ln : Int) (rf : Int → Int) (dg : Int) (dn : Int → Int) (rk : Int → Int) (pl : Int) (iw : Int) (wd : Int → Int) (wm : Int) (od : Int → Int) (oc : Int) (U : Int) (hs : okS U st) (htm : 0 ≤ tm ∧ tm ≤ 12) (hty : ∀ k, 0 ≤ k → k < tm → 0 ≤ ty k ∧ ty k ≤ 7) (hun : ∀ x ∈ (ml st (st 2800).toNat), ∀ y ∈ (ml st (st 2800).toNat), x.2.1 = y.2.1 → x.1 = y.1) : Mt K l yX8_find wsX8_find ({ frames := 1, cells := 0, slots := 0, locals := 25 }) [vP (am 0)] [mdW am (st, bk, un, ck, ty, tm, tx, ln, rf, dg, dn, rk, pl, iw, wd, wm, od, oc)] 0 0 (fun v w => v = some (vI (fnds (rg ty tm) (ml st (st 2800).toNat))) ∧ w = [mdW am (st, bk, un, ck, ty, tm, tx, ln, rf, dg, dn, rk, pl, iw, wd, wm, od, oc)]) := by
  refine Mt.of (own := RX8) (cc := cX8_find) (maxL := 1) (ret := (some .int)) (lv0 := [(0, vP (am 0))]) (by decide) rfl rfl (Nat.le_of_ble_eq_true rfl) rfl (fun X C hR hNm => ?_)
  have hgv := hs.gv
  have htl : ((rg ty tm).length : Int) = tm := by rw [rg_len]; omega
  refine i_aload_n (j := 0) (q := 1) C rfl rfl dX8_find_0 rfl ?_
  refine i_get (i := 0) (j := 0) (f := 5) (q := 4) C rfl rfl rfl hi_X8_find_X8 (by decide) lk_X8_find_53 rfl dX8_find_1 rfl ?_
  refine i_if_ne (tgt := 11) (q := 7) C (by omega) dX8_find_4 (by decide) rfl (fun c_4 => ?_) (fun c_4 => ?_)
  · skip
    refine i_aload_n (j := 0) (q := 12) C rfl rfl dX8_find_11 rfl ?_
    refine i_aload_n (j := 0) (q := 13) C rfl rfl dX8_find_12 rfl ?_
    refine i_get (i := 0) (j := 0) (f := 4) (q := 16) C rfl rfl rfl hi_X8_find_X8 (by decide) lk_X8_find_17 rfl dX8_find_13 rfl ?_
    refine i_aload_n (j := 0) (q := 17) C rfl rfl dX8_find_16 rfl ?_
    refine i_get (i := 0) (j := 0) (f := 5) (q := 20) C rfl rfl rfl hi_X8_find_X8 (by decide) lk_X8_find_53 rfl dX8_find_17 rfl ?_
    refine i_callV (wr := []) (As := [vP (am 3), vI tm]) (st := []) (i := 0) (j := 0) (q := 23) C (c_X8_foundBy_ty K l (am) (st) (bk) (un) (ck) (ty) (tm) (tx) (ln) (rf) (dg) (dn) (rk) (pl) (iw) (wd) (wm) (od) (oc) (U) (tm) (by first | assumption | omega) (by first | assumption | omega) (fun k g0 g1 => by have := hty k g0 g1; omega)) gX8_find_X8_foundBy rfl hd_X8_foundBy ⟨Nat.le_of_ble_eq_true rfl, Nat.le_of_ble_eq_true rfl⟩ ⟨rfl, rfl⟩ ⟨Nat.le_of_ble_eq_true rfl, Nat.le_of_ble_eq_true rfl⟩ (permBy [0] (by decide) rfl rfl) rfl rfl rfl rfl (Nat.le_of_ble_eq_true rfl) dX8_find_20 rfl (fun v w hq => ?_)
    obtain ⟨r_20, rfl, rfl, hr_20⟩ := hq
    show V X 0 0 23 [(0, vP (am 0))] [vI r_20] [mdW am (st, bk, un, ck, ty, tm, tx, ln, rf, dg, dn, rk, pl, iw, wd, wm, od, oc)]
    refine i_iret C hR dX8_find_23 ?_
    exact ⟨by
      unfold fnds
      rw [if_neg (by omega)]
      rcases hr_20 with h | h
      · rw [List.find?_eq_none.mpr (fun x hx => by simpa using h.2 x hx)]; rw [h.1]
      · cases hf : List.find? (fun x => x.2.1 == rg ty tm) (ml st (st 2800).toNat) with
        | none => exact absurd (List.find?_eq_none.mp hf (mp st r_20) (mem_ml h.1 (by omega) h.2.2.1)) (by rw [show (mp st r_20).2.1 = rg ty tm from h.2.2.2]; simp)
        | some x =>
          have h1 := List.find?_some hf
          have h2 := List.mem_of_find?_eq_some hf
          have h3 := hun x h2 (mp st r_20) (mem_ml h.1 (by omega) h.2.2.1) (by rw [show x.2.1 = rg ty tm by simpa using h1]; exact h.2.2.2.symm)
          simp only [Option.some.injEq, Sum.inl.injEq]
          rw [h3]; rfl, rfl⟩
  · skip
    refine i_iconst (q := 8) C dX8_find_7 rfl ?_
    refine i_goto (q := 23) C dX8_find_8 (by decide) ?_
    refine i_iret C hR dX8_find_23 ?_
    exact ⟨by
      unfold fnds
      rw [if_pos (by omega)], rfl⟩

theorem lk_X8_keysOf_7 : Cond.fieldLink RX8 7 (TX8 0).1 (TX8 0).2.1 (TX8 0).2.2.1 ∈ wsX8_keysOf := List.mem_of_getElem? (i := 1) rfl
theorem hi_X8_keysOf_X8 : ∀ w ∈ u_ws RX8 TX8 18, w ∈ wsX8_keysOf := by decide +kernel
set_option maxHeartbeats 400000 in
set_option maxRecDepth 100000 in
theorem c_X8_keysOf (K : KT) (l : Launch) (am : Nat → Nat) (st : Int → Int) (bk : Int → Int) (un : Int) (ck : Int) (ty : Int → Int) (tm : Int) (tx : Int → Int) (ln : Int) (rf : Int → Int) (dg : Int) (dn : Int → Int) (rk : Int → Int) (pl : Int) (iw : Int) (wd : Int → Int) (wm : Int) (od : Int → Int) (oc : Int) (U : Int) (p : Int) (hs : okS U st) (hp : 0 ≤ p ∧ p < st 2800) : Mt K l yX8_keysOf wsX8_keysOf ({ frames := 1, cells := 0, slots := 0, locals := 23 }) [vP (am 0), vI p] [mdW am (st, bk, un, ck, ty, tm, tx, ln, rf, dg, dn, rk, pl, iw, wd, wm, od, oc)] 0 0 (fun v w => v = some (vI (kys (ml st (st 2800).toNat) (mp st p))) ∧ w = [mdW am (st, bk, un, ck, ty, tm, tx, ln, rf, dg, dn, rk, pl, iw, wd, wm, od, oc)]) := by
  refine Mt.of (own := RX8) (cc := cX8_keysOf) (maxL := 6) (ret := (some .int)) (lv0 := [(0, vP (am 0)), (1, vI p)]) (by decide) rfl rfl (Nat.le_of_ble_eq_true rfl) rfl (fun X C hR hNm => ?_)
  have hgv := hs.gv
  have k3 := hs.k3 p hp.1 hp.2
  have hlp := lt_len hs hp.1 hp.2
  refine i_iconst (q := 1) C dX8_keysOf_0 rfl ?_
  refine i_istore_n (q := 2) (lv' := [(2, vI 0), (0, vP (am 0)), (1, vI p)]) C rfl (by decide) rfl dX8_keysOf_1 rfl ?_
  refine i_iconst (q := 3) C dX8_keysOf_2 rfl ?_
  refine i_istore_n (q := 4) (lv' := [(3, vI 0), (2, vI 0), (0, vP (am 0)), (1, vI p)]) C rfl (by decide) rfl dX8_keysOf_3 rfl ?_
  have loop_4 : ∀ (fuel : Nat) (r : Int) (n : Int), ((st 2800 - r).toNat) < fuel → (0 ≤ r ∧ r ≤ st 2800) → (n = (ml st (r).toNat).foldl (kys1 (mp st p)) 0) → (0 ≤ n ∧ n ≤ 9) → V X 0 0 4 [(0, vP (am 0)), (1, vI p), (2, vI n), (3, vI r)] [] [mdW am (st, bk, un, ck, ty, tm, tx, ln, rf, dg, dn, rk, pl, iw, wd, wm, od, oc)] := by
    intro fuel
    induction fuel with
    | zero => intro r n hz; exact absurd hz (Nat.not_lt_zero _)
    | succ fuel ih_4 =>
      intro r n hfu_4 hr hv hn
      refine i_iload_n (j := 3) (q := 5) C rfl rfl dX8_keysOf_4 rfl ?_
      refine i_aload_n (j := 0) (q := 6) C rfl rfl dX8_keysOf_5 rfl ?_
      refine i_get (i := 0) (j := 0) (f := 0) (q := 9) C rfl rfl rfl hi_X8_keysOf_X8 (by decide) lk_X8_keysOf_7 rfl dX8_keysOf_6 rfl ?_
      refine i_sipush (q := 12) C (by decide) dX8_keysOf_9 rfl ?_
      refine i_iald (i := 0) (j := 1) (q := 13) C rfl rfl (by omega) dX8_keysOf_12 rfl ?_
      have ld_12 := hs.gv
      refine i_icmp_ge (tgt := 105) (q := 16) C (by omega) (by omega) dX8_keysOf_13 (by decide) rfl (fun c_13 => ?_) (fun c_13 => ?_)
      · skip
        refine i_iload_n (j := 2) (q := 106) C rfl rfl dX8_keysOf_105 rfl ?_
        refine i_aload_n (j := 0) (q := 107) C rfl rfl dX8_keysOf_106 rfl ?_
        refine i_get (i := 0) (j := 0) (f := 0) (q := 110) C rfl rfl rfl hi_X8_keysOf_X8 (by decide) lk_X8_keysOf_7 rfl dX8_keysOf_107 rfl ?_
        refine i_bipush (q := 112) C (by decide) dX8_keysOf_110 rfl ?_
        refine i_iload_n (j := 1) (q := 113) C rfl rfl dX8_keysOf_112 rfl ?_
        refine i_imul (q := 114) C dX8_keysOf_113 rfl ?_
        refine i_iconst (q := 115) C dX8_keysOf_114 rfl ?_
        refine i_iadd (q := 116) C dX8_keysOf_115 rfl ?_
        refine i_iald (i := 0) (j := 1) (q := 117) C rfl rfl (by omega) dX8_keysOf_116 rfl ?_
        have ld_116 := hs.k3 p (by omega) (by omega)
        refine i_icmp_le (tgt := 124) (q := 120) C (by omega) (by omega) dX8_keysOf_117 (by decide) rfl (fun c_117 => ?_) (fun c_117 => ?_)
        · skip
          refine i_iload_n (j := 2) (q := 125) C rfl rfl dX8_keysOf_124 rfl ?_
          refine i_iret C hR dX8_keysOf_125 ?_
          have e9 : r = st 2800 := by omega
          subst e9
          exact ⟨by
            unfold kys
            rw [← hv, show ((mp st p).2.1.length : Int) = st (14 * p + 3) from hlp]
            simp only [Option.some.injEq, Sum.inl.injEq]
            split <;> omega, rfl⟩
        · skip
          refine i_iconst (q := 121) C dX8_keysOf_120 rfl ?_
          refine i_goto (q := 125) C dX8_keysOf_121 (by decide) ?_
          refine i_iret C hR dX8_keysOf_125 ?_
          have e9 : r = st 2800 := by omega
          subst e9
          exact ⟨by
            unfold kys
            rw [← hv, show ((mp st p).2.1.length : Int) = st (14 * p + 3) from hlp]
            simp only [Option.some.injEq, Sum.inl.injEq]
            split <;> omega, rfl⟩
      · skip
        refine i_aload_n (j := 0) (q := 17) C rfl rfl dX8_keysOf_16 rfl ?_
        refine i_get (i := 0) (j := 0) (f := 0) (q := 20) C rfl rfl rfl hi_X8_keysOf_X8 (by decide) lk_X8_keysOf_7 rfl dX8_keysOf_17 rfl ?_
        refine i_bipush (q := 22) C (by decide) dX8_keysOf_20 rfl ?_
        refine i_iload_n (j := 3) (q := 23) C rfl rfl dX8_keysOf_22 rfl ?_
        refine i_imul (q := 24) C dX8_keysOf_23 rfl ?_
        refine i_iconst (q := 25) C dX8_keysOf_24 rfl ?_
        refine i_iadd (q := 26) C dX8_keysOf_25 rfl ?_
        refine i_iald (i := 0) (j := 1) (q := 27) C rfl rfl (by omega) dX8_keysOf_26 rfl ?_
        have ld_26 := hs.k1 r (by omega) (by omega)
        refine i_aload_n (j := 0) (q := 28) C rfl rfl dX8_keysOf_27 rfl ?_
        refine i_get (i := 0) (j := 0) (f := 0) (q := 31) C rfl rfl rfl hi_X8_keysOf_X8 (by decide) lk_X8_keysOf_7 rfl dX8_keysOf_28 rfl ?_
        refine i_bipush (q := 33) C (by decide) dX8_keysOf_31 rfl ?_
        refine i_iload_n (j := 1) (q := 34) C rfl rfl dX8_keysOf_33 rfl ?_
        refine i_imul (q := 35) C dX8_keysOf_34 rfl ?_
        refine i_iconst (q := 36) C dX8_keysOf_35 rfl ?_
        refine i_iadd (q := 37) C dX8_keysOf_36 rfl ?_
        refine i_iald (i := 0) (j := 1) (q := 38) C rfl rfl (by omega) dX8_keysOf_37 rfl ?_
        have ld_37 := hs.k1 p (by omega) (by omega)
        refine i_isub (q := 39) C dX8_keysOf_38 rfl ?_
        refine i_istore (q := 41) (lv' := [(4, vI ((st ((14 * r) + 1)) - (st ((14 * p) + 1)))), (0, vP (am 0)), (1, vI p), (2, vI n), (3, vI r)]) C (by decide) rfl dX8_keysOf_39 rfl ?_
        have join_99 : ∀ (m : Int), ((m = max n ((cp (lt st p) (lt st r) : Int) + 1) ∧ st (14 * r) = 1 ∧ (r ≠ p ∧ (st (14 * p + 1) < st (14 * r + 1) ∨ (st (14 * r + 1) = st (14 * p + 1) ∧ r < p)))) ∨ (m = n ∧ ¬ (st (14 * r) = 1 ∧ (r ≠ p ∧ (st (14 * p + 1) < st (14 * r + 1) ∨ (st (14 * r + 1) = st (14 * p + 1) ∧ r < p)))))) → (0 ≤ m ∧ m ≤ 9) → V X 0 0 99 [(0, vP (am 0)), (1, vI p), (2, vI m), (3, vI r)] [] [mdW am (st, bk, un, ck, ty, tm, tx, ln, rf, dg, dn, rk, pl, iw, wd, wm, od, oc)] := by
          intro m hq hm0
          refine i_iinc (j := 3) (q := 102) (lv' := [(3, vI (r + 1)), (0, vP (am 0)), (1, vI p), (2, vI m)]) C rfl (by decide) rfl dX8_keysOf_99 rfl ?_
          refine i_goto (q := 4) C dX8_keysOf_102 (by decide) ?_
          refine V.lv [1, 2, 3, 0] rfl ?_
          exact ih_4 (r + 1) (m) (by omega) (by omega) (by
            rw [fold_ml _ _ st hr.1, ← hv]
            rcases hq with ⟨h1, h2, h3⟩ | ⟨h1, h2⟩
            · rw [if_pos h2]; unfold kys1; show m = if (r ≠ p ∧ (st (14 * p + 1) < st (14 * r + 1) ∨ (st (14 * r + 1) = st (14 * p + 1) ∧ r < p))) then max n ((cp (lt st p) (lt st r) : Int) + 1) else n; rw [if_pos h3]; exact h1
            · by_cases e : st (14 * r) = 1
              · rw [if_pos e]; unfold kys1; show m = if (r ≠ p ∧ (st (14 * p + 1) < st (14 * r + 1) ∨ (st (14 * r + 1) = st (14 * p + 1) ∧ r < p))) then max n ((cp (lt st p) (lt st r) : Int) + 1) else n; rw [if_neg (fun z => h2 ⟨e, z⟩)]; exact h1
              · rw [if_neg e]; exact h1) (by omega)
        refine i_iload_n (j := 4) (q := 42) C rfl rfl dX8_keysOf_41 rfl ?_
        refine i_iload_n (j := 2) (q := 43) C rfl rfl dX8_keysOf_42 rfl ?_
        refine i_icmp_eq (tgt := 99) (q := 46) C (by omega) (by omega) dX8_keysOf_43 (by decide) rfl (fun c_43 => ?_) (fun c_43 => ?_)
        · skip
          refine V.lv [1, 2, 3, 4] rfl ?_
          exact join_99 (n) (by first | exact Or.inr ⟨rfl, fun z => absurd z (by omega)⟩ | exact Or.inl ⟨by omega, by omega, by omega, by omega⟩) (by omega)
        · skip
          refine i_aload_n (j := 1) (q := 47) C rfl rfl dX8_keysOf_46 rfl ?_
          refine i_get (i := 0) (j := 0) (f := 0) (q := 50) C rfl rfl rfl hi_X8_keysOf_X8 (by decide) lk_X8_keysOf_7 rfl dX8_keysOf_47 rfl ?_
          refine i_bipush (q := 52) C (by decide) dX8_keysOf_50 rfl ?_
          refine i_iload_n (j := 4) (q := 53) C rfl rfl dX8_keysOf_52 rfl ?_
          refine i_imul (q := 54) C dX8_keysOf_53 rfl ?_
          refine i_iald (i := 0) (j := 1) (q := 55) C rfl rfl (by omega) dX8_keysOf_54 rfl ?_
          have ld_54 := hs.k0 r (by omega) (by omega)
          refine i_iconst (q := 56) C dX8_keysOf_55 rfl ?_
          refine i_icmp_ne (tgt := 99) (q := 59) C (by omega) (by omega) dX8_keysOf_56 (by decide) rfl (fun c_56 => ?_) (fun c_56 => ?_)
          · skip
            refine V.lv [1, 2, 3, 4] rfl ?_
            exact join_99 (n) (by first | exact Or.inr ⟨rfl, fun z => absurd z (by omega)⟩ | exact Or.inl ⟨by omega, by omega, by omega, by omega⟩) (by omega)
          · skip
            refine i_iload (j := 0) (q := 61) C rfl dX8_keysOf_59 rfl ?_
            refine i_if_gt (tgt := 74) (q := 64) C (by omega) dX8_keysOf_61 (by decide) rfl (fun c_61 => ?_) (fun c_61 => ?_)
            · skip
              refine i_aload_n (j := 1) (q := 75) C rfl rfl dX8_keysOf_74 rfl ?_
              refine i_iload_n (j := 2) (q := 76) C rfl rfl dX8_keysOf_75 rfl ?_
              refine i_iload_n (j := 4) (q := 77) C rfl rfl dX8_keysOf_76 rfl ?_
              refine i_callV (wr := []) (As := [vI p, vI r]) (st := []) (i := 0) (j := 0) (q := 80) C (c_X8_sameOf K l (am) (st) (bk) (un) (ck) (ty) (tm) (tx) (ln) (rf) (dg) (dn) (rk) (pl) (iw) (wd) (wm) (od) (oc) (U) (p) (r) (by first | assumption | omega) (by first | assumption | omega) (by first | assumption | omega)) gX8_keysOf_X8_sameOf rfl hd_X8_sameOf ⟨Nat.le_of_ble_eq_true rfl, Nat.le_of_ble_eq_true rfl⟩ ⟨rfl, rfl⟩ ⟨Nat.le_of_ble_eq_true rfl, Nat.le_of_ble_eq_true rfl⟩ (permBy [0] (by decide) rfl rfl) rfl rfl rfl rfl (Nat.le_of_ble_eq_true rfl) dX8_keysOf_77 rfl (fun v w hq => ?_)
              obtain ⟨rfl, rfl⟩ := hq
              show V X 0 0 80 [(4, vI ((st ((14 * r) + 1)) - (st ((14 * p) + 1)))), (0, vP (am 0)), (1, vI p), (2, vI n), (3, vI r)] [vI (cp (lt st p) (lt st r) : Int)] [mdW am (st, bk, un, ck, ty, tm, tx, ln, rf, dg, dn, rk, pl, iw, wd, wm, od, oc)]
              have hc := cp_le (lt st p) (lt st r)
              refine i_istore (q := 82) (lv' := [(5, vI (cp (lt st p) (lt st r) : Int)), (4, vI ((st ((14 * r) + 1)) - (st ((14 * p) + 1)))), (0, vP (am 0)), (1, vI p), (2, vI n), (3, vI r)]) C (by decide) rfl dX8_keysOf_80 rfl ?_
              refine i_iload (j := 0) (q := 84) C rfl dX8_keysOf_82 rfl ?_
              refine i_iconst (q := 85) C dX8_keysOf_84 rfl ?_
              refine i_iadd (q := 86) C dX8_keysOf_85 rfl ?_
              refine i_iload_n (j := 4) (q := 87) C rfl rfl dX8_keysOf_86 rfl ?_
              refine i_icmp_le (tgt := 97) (q := 90) C (by omega) (by omega) dX8_keysOf_87 (by decide) rfl (fun c_87 => ?_) (fun c_87 => ?_)
              · skip
                refine i_iload_n (j := 4) (q := 98) C rfl rfl dX8_keysOf_97 rfl ?_
                refine i_istore_n (q := 99) (lv' := [(2, vI n), (5, vI (cp (lt st p) (lt st r) : Int)), (4, vI ((st ((14 * r) + 1)) - (st ((14 * p) + 1)))), (0, vP (am 0)), (1, vI p), (3, vI r)]) C rfl (by decide) rfl dX8_keysOf_98 rfl ?_
                refine V.lv [3, 4, 0, 5] rfl ?_
                exact join_99 (n) (by first | exact Or.inr ⟨rfl, fun z => absurd z (by omega)⟩ | exact Or.inl ⟨by omega, by omega, by omega, by omega⟩) (by omega)
              · skip
                refine i_iload (j := 0) (q := 92) C rfl dX8_keysOf_90 rfl ?_
                refine i_iconst (q := 93) C dX8_keysOf_92 rfl ?_
                refine i_iadd (q := 94) C dX8_keysOf_93 rfl ?_
                refine i_goto (q := 98) C dX8_keysOf_94 (by decide) ?_
                refine i_istore_n (q := 99) (lv' := [(2, vI ((cp (lt st p) (lt st r) : Int) + 1)), (5, vI (cp (lt st p) (lt st r) : Int)), (4, vI ((st ((14 * r) + 1)) - (st ((14 * p) + 1)))), (0, vP (am 0)), (1, vI p), (3, vI r)]) C rfl (by decide) rfl dX8_keysOf_98 rfl ?_
                refine V.lv [3, 4, 0, 5] rfl ?_
                exact join_99 ((cp (lt st p) (lt st r) : Int) + 1) (by first | exact Or.inr ⟨rfl, fun z => absurd z (by omega)⟩ | exact Or.inl ⟨by omega, by omega, by omega, by omega⟩) (by omega)
            · skip
              refine i_iload (j := 0) (q := 66) C rfl dX8_keysOf_64 rfl ?_
              refine i_if_ne (tgt := 99) (q := 69) C (by omega) dX8_keysOf_66 (by decide) rfl (fun c_66 => ?_) (fun c_66 => ?_)
              · skip
                refine V.lv [1, 2, 3, 4] rfl ?_
                exact join_99 (n) (by first | exact Or.inr ⟨rfl, fun z => absurd z (by omega)⟩ | exact Or.inl ⟨by omega, by omega, by omega, by omega⟩) (by omega)
              · skip
                refine i_iload_n (j := 4) (q := 70) C rfl rfl dX8_keysOf_69 rfl ?_
                refine i_iload_n (j := 2) (q := 71) C rfl rfl dX8_keysOf_70 rfl ?_
                refine i_icmp_ge (tgt := 99) (q := 74) C (by omega) (by omega) dX8_keysOf_71 (by decide) rfl (fun c_71 => ?_) (fun c_71 => ?_)
                · skip
                  refine V.lv [1, 2, 3, 4] rfl ?_
                  exact join_99 (n) (by first | exact Or.inr ⟨rfl, fun z => absurd z (by omega)⟩ | exact Or.inl ⟨by omega, by omega, by omega, by omega⟩) (by omega)
                · skip
                  refine i_aload_n (j := 1) (q := 75) C rfl rfl dX8_keysOf_74 rfl ?_
                  refine i_iload_n (j := 2) (q := 76) C rfl rfl dX8_keysOf_75 rfl ?_
                  refine i_iload_n (j := 4) (q := 77) C rfl rfl dX8_keysOf_76 rfl ?_
                  refine i_callV (wr := []) (As := [vI p, vI r]) (st := []) (i := 0) (j := 0) (q := 80) C (c_X8_sameOf K l (am) (st) (bk) (un) (ck) (ty) (tm) (tx) (ln) (rf) (dg) (dn) (rk) (pl) (iw) (wd) (wm) (od) (oc) (U) (p) (r) (by first | assumption | omega) (by first | assumption | omega) (by first | assumption | omega)) gX8_keysOf_X8_sameOf rfl hd_X8_sameOf ⟨Nat.le_of_ble_eq_true rfl, Nat.le_of_ble_eq_true rfl⟩ ⟨rfl, rfl⟩ ⟨Nat.le_of_ble_eq_true rfl, Nat.le_of_ble_eq_true rfl⟩ (permBy [0] (by decide) rfl rfl) rfl rfl rfl rfl (Nat.le_of_ble_eq_true rfl) dX8_keysOf_77 rfl (fun v w hq => ?_)
                  obtain ⟨rfl, rfl⟩ := hq
                  show V X 0 0 80 [(4, vI ((st ((14 * r) + 1)) - (st ((14 * p) + 1)))), (0, vP (am 0)), (1, vI p), (2, vI n), (3, vI r)] [vI (cp (lt st p) (lt st r) : Int)] [mdW am (st, bk, un, ck, ty, tm, tx, ln, rf, dg, dn, rk, pl, iw, wd, wm, od, oc)]
                  have hc := cp_le (lt st p) (lt st r)
                  refine i_istore (q := 82) (lv' := [(5, vI (cp (lt st p) (lt st r) : Int)), (4, vI ((st ((14 * r) + 1)) - (st ((14 * p) + 1)))), (0, vP (am 0)), (1, vI p), (2, vI n), (3, vI r)]) C (by decide) rfl dX8_keysOf_80 rfl ?_
                  refine i_iload (j := 0) (q := 84) C rfl dX8_keysOf_82 rfl ?_
                  refine i_iconst (q := 85) C dX8_keysOf_84 rfl ?_
                  refine i_iadd (q := 86) C dX8_keysOf_85 rfl ?_
                  refine i_iload_n (j := 4) (q := 87) C rfl rfl dX8_keysOf_86 rfl ?_
                  refine i_icmp_le (tgt := 97) (q := 90) C (by omega) (by omega) dX8_keysOf_87 (by decide) rfl (fun c_87 => ?_) (fun c_87 => ?_)
                  · skip
                    refine i_iload_n (j := 4) (q := 98) C rfl rfl dX8_keysOf_97 rfl ?_
                    refine i_istore_n (q := 99) (lv' := [(2, vI n), (5, vI (cp (lt st p) (lt st r) : Int)), (4, vI ((st ((14 * r) + 1)) - (st ((14 * p) + 1)))), (0, vP (am 0)), (1, vI p), (3, vI r)]) C rfl (by decide) rfl dX8_keysOf_98 rfl ?_
                    refine V.lv [3, 4, 0, 5] rfl ?_
                    exact join_99 (n) (by first | exact Or.inr ⟨rfl, fun z => absurd z (by omega)⟩ | exact Or.inl ⟨by omega, by omega, by omega, by omega⟩) (by omega)
                  · skip
                    refine i_iload (j := 0) (q := 92) C rfl dX8_keysOf_90 rfl ?_
                    refine i_iconst (q := 93) C dX8_keysOf_92 rfl ?_
                    refine i_iadd (q := 94) C dX8_keysOf_93 rfl ?_
                    refine i_goto (q := 98) C dX8_keysOf_94 (by decide) ?_
                    refine i_istore_n (q := 99) (lv' := [(2, vI ((cp (lt st p) (lt st r) : Int) + 1)), (5, vI (cp (lt st p) (lt st r) : Int)), (4, vI ((st ((14 * r) + 1)) - (st ((14 * p) + 1)))), (0, vP (am 0)), (1, vI p), (3, vI r)]) C rfl (by decide) rfl dX8_keysOf_98 rfl ?_
                    refine V.lv [3, 4, 0, 5] rfl ?_
                    exact join_99 ((cp (lt st p) (lt st r) : Int) + 1) (by first | exact Or.inr ⟨rfl, fun z => absurd z (by omega)⟩ | exact Or.inl ⟨by omega, by omega, by omega, by omega⟩) (by omega)
  refine V.lv [2, 3, 1, 0] rfl ?_
  exact loop_4 _ (0) (0) (Nat.lt_succ_self _) (by omega) (rfl) (by omega)

theorem hd_X8_keysOf : yX8_keysOf.cls = RX8 ∧ yX8_keysOf.cls ≠ "java/lang/invoke/MethodHandle" ∧ yX8_keysOf.cls ≠ "java/lang/invoke/VarHandle" ∧ (parseMethodDescriptor yX8_keysOf.desc).map (fun d => d.parameters.length) = some 1 := by decide +kernel
set_option maxHeartbeats 400000 in
set_option maxRecDepth 100000 in
theorem c_X8_keys (K : KT) (l : Launch) (am : Nat → Nat) (st : Int → Int) (bk : Int → Int) (un : Int) (ck : Int) (ty : Int → Int) (tm : Int) (tx : Int → Int) (ln : Int) (rf : Int → Int) (dg : Int) (dn : Int → Int) (rk : Int → Int) (pl : Int) (iw : Int) (wd : Int → Int) (wm : Int) (od : Int → Int) (oc : Int) (N : Int) (x : Int) (hm : okM N st bk un ck ty tm tx ln rf) (hN : N < 512) (hx : rI x) : Mt K l yX8_keys wsX8_keys ({ frames := 2, cells := 0, slots := 0, locals := 48 }) [vP (am 0), vI x] [mdW am (st, bk, un, ck, ty, tm, tx, ln, rf, dg, dn, rk, pl, iw, wd, wm, od, oc)] 0 0 (fun v w => ∃ rf3 : Int → Int, v = some (vI ((sp_keys x (absM st bk un ck ty tm tx ln rf)).1)) ∧ w = [mdW am (st, bk, un, ck, ty, tm, tx, ln, rf3, dg, dn, rk, pl, iw, wd, wm, od, oc)] ∧ (absM st bk un ck ty tm tx ln rf3 = (sp_keys x (absM st bk un ck ty tm tx ln rf)).2) ∧ (okM (N + 1) st bk un ck ty tm tx ln rf3)) := by
  refine Mt.of (own := RX8) (cc := cX8_keys) (maxL := 2) (ret := (some .int)) (lv0 := [(0, vP (am 0)), (1, vI x)]) (by decide) rfl rfl (Nat.le_of_ble_eq_true rfl) rfl (fun X C hR hNm => ?_)
  have hs := hm.hs
  have hgv := hs.gv
  have hN0 := hm.hN
  have hH := hm.hH
  have hck := hm.hck
  have htm := hm.htm
  have hln := hm.hln
  have hun := hH.1
  refine i_aload_n (j := 0) (q := 1) C rfl rfl dX8_keys_0 rfl ?_
  refine i_iload_n (j := 1) (q := 2) C rfl rfl dX8_keys_1 rfl ?_
  refine i_callV (wr := []) (As := [vI x]) (st := []) (i := 0) (j := 0) (q := 5) C (c_X8_isThere K l (am) (st) (bk) (un) (ck) (ty) (tm) (tx) (ln) (rf) (dg) (dn) (rk) (pl) (iw) (wd) (wm) (od) (oc) (24 * N) (x) (by first | assumption | omega) (by first | assumption | omega)) gX8_keys_X8_isThere rfl hd_X8_isThere ⟨Nat.le_of_ble_eq_true rfl, Nat.le_of_ble_eq_true rfl⟩ ⟨rfl, rfl⟩ ⟨Nat.le_of_ble_eq_true rfl, Nat.le_of_ble_eq_true rfl⟩ (permBy [0] (by decide) rfl rfl) rfl rfl rfl rfl (Nat.le_of_ble_eq_true rfl) dX8_keys_2 rfl (fun v w hq => ?_)
  obtain ⟨rfl, rfl⟩ := hq
  show V X 0 0 5 [(0, vP (am 0)), (1, vI x)] [vI (if 0 ≤ x ∧ x < st 2800 ∧ st (14 * x) = 1 then 1 else 0)] [mdW am (st, bk, un, ck, ty, tm, tx, ln, rf, dg, dn, rk, pl, iw, wd, wm, od, oc)]
  refine i_if_eq (tgt := 16) (q := 8) C (if01) dX8_keys_5 (by decide) rfl (fun c_5 => ?_) (fun c_5 => ?_)
  · skip
    have h_5 := if0 c_5
    refine i_aload_n (j := 0) (q := 17) C rfl rfl dX8_keys_16 rfl ?_
    refine i_callV (wr := []) (As := []) (st := []) (i := 0) (j := 0) (q := 20) C (c_X8_bad K l (am) (st) (bk) (un) (ck) (ty) (tm) (tx) (ln) (rf) (dg) (dn) (rk) (pl) (iw) (wd) (wm) (od) (oc) ) gX8_keys_X8_bad rfl hd_X8_bad ⟨Nat.le_of_ble_eq_true rfl, Nat.le_of_ble_eq_true rfl⟩ ⟨rfl, rfl⟩ ⟨Nat.le_of_ble_eq_true rfl, Nat.le_of_ble_eq_true rfl⟩ (permBy [0] (by decide) rfl rfl) rfl rfl rfl rfl (Nat.le_of_ble_eq_true rfl) dX8_keys_17 rfl (fun v w hq => ?_)
    obtain ⟨rfl, rfl⟩ := hq
    show V X 0 0 20 [(0, vP (am 0)), (1, vI x)] [vI (-2)] [mdW am (st, bk, un, ck, ty, tm, tx, ln, up rf 0 (rf 0 + 1), dg, dn, rk, pl, iw, wd, wm, od, oc)]
    refine i_iret C hR dX8_keys_20 ?_
    have hsp : (sp_keys x (absM st bk un ck ty tm tx ln rf)) = (-2, aBad (absM st bk un ck ty tm tx ln rf)) := by
      unfold absM
      simp only [sp_keys]
      rw [fnd_bo hs, if_neg h_5]
    exact ⟨up rf 0 (rf 0 + 1), by rw [hsp], rfl, by rw [hsp] <;> exact absM_bad, okM_bad hm hN⟩
  · skip
    have h_5 := ifn0 c_5
    refine i_aload_n (j := 0) (q := 9) C rfl rfl dX8_keys_8 rfl ?_
    refine i_iload_n (j := 1) (q := 10) C rfl rfl dX8_keys_9 rfl ?_
    refine i_callV (wr := []) (As := [vI x]) (st := []) (i := 0) (j := 0) (q := 13) C (c_X8_keysOf K l (am) (st) (bk) (un) (ck) (ty) (tm) (tx) (ln) (rf) (dg) (dn) (rk) (pl) (iw) (wd) (wm) (od) (oc) (24 * N) (x) (by first | assumption | omega) (by first | assumption | omega)) gX8_keys_X8_keysOf rfl hd_X8_keysOf ⟨Nat.le_of_ble_eq_true rfl, Nat.le_of_ble_eq_true rfl⟩ ⟨rfl, rfl⟩ ⟨Nat.le_of_ble_eq_true rfl, Nat.le_of_ble_eq_true rfl⟩ (permBy [0] (by decide) rfl rfl) rfl rfl rfl rfl (Nat.le_of_ble_eq_true rfl) dX8_keys_10 rfl (fun v w hq => ?_)
    obtain ⟨rfl, rfl⟩ := hq
    show V X 0 0 13 [(0, vP (am 0)), (1, vI x)] [vI (kys (ml st (st 2800).toNat) (mp st x))] [mdW am (st, bk, un, ck, ty, tm, tx, ln, rf, dg, dn, rk, pl, iw, wd, wm, od, oc)]
    refine i_goto (q := 20) C dX8_keys_13 (by decide) ?_
    refine i_iret C hR dX8_keys_20 ?_
    have hsp : (sp_keys x (absM st bk un ck ty tm tx ln rf)) = (kys (ml st (st 2800).toNat) (mp st x), absM st bk un ck ty tm tx ln rf) := by
      unfold absM
      simp only [sp_keys]
      rw [fnd_bo hs, if_pos h_5]
      rfl
    exact ⟨rf, by rw [hsp], rfl, by rw [hsp] <;> exact rfl, hm.s hN⟩

theorem lk_X8_saved_7 : Cond.fieldLink RX8 7 (TX8 0).1 (TX8 0).2.1 (TX8 0).2.2.1 ∈ wsX8_saved := List.mem_of_getElem? (i := 1) rfl
theorem hi_X8_saved_X8 : ∀ w ∈ u_ws RX8 TX8 18, w ∈ wsX8_saved := by decide +kernel
set_option maxHeartbeats 400000 in
set_option maxRecDepth 100000 in
theorem c_X8_saved (K : KT) (l : Launch) (am : Nat → Nat) (st : Int → Int) (bk : Int → Int) (un : Int) (ck : Int) (ty : Int → Int) (tm : Int) (tx : Int → Int) (ln : Int) (rf : Int → Int) (dg : Int) (dn : Int → Int) (rk : Int → Int) (pl : Int) (iw : Int) (wd : Int → Int) (wm : Int) (od : Int → Int) (oc : Int) (U : Int) (hs : okS U st) : Mt K l yX8_saved wsX8_saved ({ frames := 2, cells := 0, slots := 0, locals := 48 }) [vP (am 0)] [mdW am (st, bk, un, ck, ty, tm, tx, ln, rf, dg, dn, rk, pl, iw, wd, wm, od, oc)] 0 0 (fun v w => v = some (vI (svd (ml st (st 2800).toNat))) ∧ w = [mdW am (st, bk, un, ck, ty, tm, tx, ln, rf, dg, dn, rk, pl, iw, wd, wm, od, oc)]) := by
  refine Mt.of (own := RX8) (cc := cX8_saved) (maxL := 4) (ret := (some .int)) (lv0 := [(0, vP (am 0))]) (by decide) rfl rfl (Nat.le_of_ble_eq_true rfl) rfl (fun X C hR hNm => ?_)
  have hgv := hs.gv
  refine i_iconst (q := 1) C dX8_saved_0 rfl ?_
  refine i_istore_n (q := 2) (lv' := [(1, vI 0), (0, vP (am 0))]) C rfl (by decide) rfl dX8_saved_1 rfl ?_
  refine i_iconst (q := 3) C dX8_saved_2 rfl ?_
  refine i_istore_n (q := 4) (lv' := [(2, vI 0), (1, vI 0), (0, vP (am 0))]) C rfl (by decide) rfl dX8_saved_3 rfl ?_
  have loop_4 : ∀ (fuel : Nat) (p : Int) (n : Int), ((st 2800 - p).toNat) < fuel → (0 ≤ p ∧ p ≤ st 2800) → (n = (ml st (p).toNat).foldl (svd1 (ml st (st 2800).toNat)) 0) → V X 0 0 4 [(0, vP (am 0)), (1, vI n), (2, vI p)] [] [mdW am (st, bk, un, ck, ty, tm, tx, ln, rf, dg, dn, rk, pl, iw, wd, wm, od, oc)] := by
    intro fuel
    induction fuel with
    | zero => intro p n hz; exact absurd hz (Nat.not_lt_zero _)
    | succ fuel ih_4 =>
      intro p n hfu_4 hp hv
      refine i_iload_n (j := 2) (q := 5) C rfl rfl dX8_saved_4 rfl ?_
      refine i_aload_n (j := 0) (q := 6) C rfl rfl dX8_saved_5 rfl ?_
      refine i_get (i := 0) (j := 0) (f := 0) (q := 9) C rfl rfl rfl hi_X8_saved_X8 (by decide) lk_X8_saved_7 rfl dX8_saved_6 rfl ?_
      refine i_sipush (q := 12) C (by decide) dX8_saved_9 rfl ?_
      refine i_iald (i := 0) (j := 1) (q := 13) C rfl rfl (by omega) dX8_saved_12 rfl ?_
      have ld_12 := hs.gv
      refine i_icmp_ge (tgt := 70) (q := 16) C (by omega) (by omega) dX8_saved_13 (by decide) rfl (fun c_13 => ?_) (fun c_13 => ?_)
      · skip
        refine i_iload_n (j := 1) (q := 71) C rfl rfl dX8_saved_70 rfl ?_
        refine i_iret C hR dX8_saved_71 ?_
        have e9 : p = st 2800 := by omega
        subst e9; subst hv
        exact ⟨rfl, rfl⟩
      · skip
        have join_38 : ∀ (m : Int), ((m = kys (ml st (st 2800).toNat) (mp st p) ∧ st (14 * p) = 1) ∨ (m = -1 ∧ ¬ st (14 * p) = 1)) → V X 0 0 38 [(0, vP (am 0)), (1, vI n), (2, vI p)] [vI m] [mdW am (st, bk, un, ck, ty, tm, tx, ln, rf, dg, dn, rk, pl, iw, wd, wm, od, oc)] := by
          intro m hq
          refine i_istore_n (q := 39) (lv' := [(3, vI m), (0, vP (am 0)), (1, vI n), (2, vI p)]) C rfl (by decide) rfl dX8_saved_38 rfl ?_
          refine i_iload_n (j := 2) (q := 40) C rfl rfl dX8_saved_39 rfl ?_
          refine i_iload_n (j := 0) (q := 41) C rfl rfl dX8_saved_40 rfl ?_
          refine i_iconst (q := 42) C dX8_saved_41 rfl ?_
          refine i_icmp_ne (tgt := 49) (q := 45) C (by
            rcases hq with h | h
            · have h7 := kys_in (ml st (st 2800).toNat) (mp st p); have h8 : ((mp st p).2.1.length : Int) = st (14 * p + 3) := lt_len hs hp.1 (by omega); have h9 := hs.k3 p hp.1 (by omega); rw [h.1]; omega
            · omega) (by omega) dX8_saved_42 (by decide) rfl (fun c_42 => ?_) (fun c_42 => ?_)
          · skip
            have hq2 : st (14 * p) = 1 := by
              rcases hq with h | h
              · exact h.2
              · omega
            refine i_aload_n (j := 1) (q := 50) C rfl rfl dX8_saved_49 rfl ?_
            refine i_get (i := 0) (j := 0) (f := 0) (q := 53) C rfl rfl rfl hi_X8_saved_X8 (by decide) lk_X8_saved_7 rfl dX8_saved_50 rfl ?_
            refine i_bipush (q := 55) C (by decide) dX8_saved_53 rfl ?_
            refine i_iload_n (j := 3) (q := 56) C rfl rfl dX8_saved_55 rfl ?_
            refine i_imul (q := 57) C dX8_saved_56 rfl ?_
            refine i_iconst (q := 58) C dX8_saved_57 rfl ?_
            refine i_iadd (q := 59) C dX8_saved_58 rfl ?_
            refine i_iald (i := 0) (j := 1) (q := 60) C rfl rfl (by omega) dX8_saved_59 rfl ?_
            have ld_59 := hs.k3 p (by omega) (by omega)
            refine i_iload_n (j := 0) (q := 61) C rfl rfl dX8_saved_60 rfl ?_
            refine i_isub (q := 62) C dX8_saved_61 rfl ?_
            refine i_iadd (q := 63) C dX8_saved_62 rfl ?_
            refine i_istore_n (q := 64) (lv' := [(1, vI (n + ((st ((14 * p) + 3)) - m))), (3, vI m), (0, vP (am 0)), (2, vI p)]) C rfl (by decide) rfl dX8_saved_63 rfl ?_
            refine i_iinc (j := 3) (q := 67) (lv' := [(2, vI (p + 1)), (1, vI (n + ((st ((14 * p) + 3)) - m))), (3, vI m), (0, vP (am 0))]) C rfl (by decide) rfl dX8_saved_64 rfl ?_
            refine i_goto (q := 4) C dX8_saved_67 (by decide) ?_
            refine V.lv [3, 1, 0] rfl ?_
            exact ih_4 (p + 1) (n + ((st ((14 * p) + 3)) - m)) (by omega) (by omega) (by
              rw [fold_ml _ _ st hp.1, ← hv]
              rcases hq with ⟨h1, h2⟩ | ⟨h1, h2⟩
              · rw [if_pos h2]; unfold svd1; rw [← h1, show ((mp st p).2.1.length : Int) = st (14 * p + 3) from lt_len hs hp.1 (by omega)]
                first | rw [if_pos (by omega)] | rw [if_neg (by omega)]
              · rw [if_neg h2]; omega)
          · skip
            refine i_iconst (q := 46) C dX8_saved_45 rfl ?_
            refine i_goto (q := 62) C dX8_saved_46 (by decide) ?_
            refine i_iadd (q := 63) C dX8_saved_62 rfl ?_
            refine i_istore_n (q := 64) (lv' := [(1, vI (n + 0)), (3, vI m), (0, vP (am 0)), (2, vI p)]) C rfl (by decide) rfl dX8_saved_63 rfl ?_
            refine i_iinc (j := 3) (q := 67) (lv' := [(2, vI (p + 1)), (1, vI (n + 0)), (3, vI m), (0, vP (am 0))]) C rfl (by decide) rfl dX8_saved_64 rfl ?_
            refine i_goto (q := 4) C dX8_saved_67 (by decide) ?_
            refine V.lv [3, 1, 0] rfl ?_
            exact ih_4 (p + 1) (n + 0) (by omega) (by omega) (by
              rw [fold_ml _ _ st hp.1, ← hv]
              rcases hq with ⟨h1, h2⟩ | ⟨h1, h2⟩
              · rw [if_pos h2]; unfold svd1; rw [← h1, show ((mp st p).2.1.length : Int) = st (14 * p + 3) from lt_len hs hp.1 (by omega)]
                first | rw [if_pos (by omega)] | rw [if_neg (by omega)]
              · rw [if_neg h2]; omega)
        refine i_aload_n (j := 0) (q := 17) C rfl rfl dX8_saved_16 rfl ?_
        refine i_get (i := 0) (j := 0) (f := 0) (q := 20) C rfl rfl rfl hi_X8_saved_X8 (by decide) lk_X8_saved_7 rfl dX8_saved_17 rfl ?_
        refine i_bipush (q := 22) C (by decide) dX8_saved_20 rfl ?_
        refine i_iload_n (j := 2) (q := 23) C rfl rfl dX8_saved_22 rfl ?_
        refine i_imul (q := 24) C dX8_saved_23 rfl ?_
        refine i_iald (i := 0) (j := 1) (q := 25) C rfl rfl (by omega) dX8_saved_24 rfl ?_
        have ld_24 := hs.k0 p (by omega) (by omega)
        refine i_iconst (q := 26) C dX8_saved_25 rfl ?_
        refine i_icmp_ne (tgt := 37) (q := 29) C (by omega) (by omega) dX8_saved_26 (by decide) rfl (fun c_26 => ?_) (fun c_26 => ?_)
        · skip
          refine i_iconst (q := 38) C dX8_saved_37 rfl ?_
          exact join_38 ((-1)) (by first | exact Or.inr ⟨rfl, c_26⟩ | exact Or.inl ⟨rfl, c_26⟩)
        · skip
          refine i_aload_n (j := 0) (q := 30) C rfl rfl dX8_saved_29 rfl ?_
          refine i_iload_n (j := 2) (q := 31) C rfl rfl dX8_saved_30 rfl ?_
          refine i_callV (wr := []) (As := [vI p]) (st := []) (i := 0) (j := 0) (q := 34) C (c_X8_keysOf K l (am) (st) (bk) (un) (ck) (ty) (tm) (tx) (ln) (rf) (dg) (dn) (rk) (pl) (iw) (wd) (wm) (od) (oc) (U) (p) (by first | assumption | omega) (by first | assumption | omega)) gX8_saved_X8_keysOf rfl hd_X8_keysOf ⟨Nat.le_of_ble_eq_true rfl, Nat.le_of_ble_eq_true rfl⟩ ⟨rfl, rfl⟩ ⟨Nat.le_of_ble_eq_true rfl, Nat.le_of_ble_eq_true rfl⟩ (permBy [0] (by decide) rfl rfl) rfl rfl rfl rfl (Nat.le_of_ble_eq_true rfl) dX8_saved_31 rfl (fun v w hq => ?_)
          obtain ⟨rfl, rfl⟩ := hq
          show V X 0 0 34 [(0, vP (am 0)), (1, vI n), (2, vI p)] [vI (kys (ml st (st 2800).toNat) (mp st p))] [mdW am (st, bk, un, ck, ty, tm, tx, ln, rf, dg, dn, rk, pl, iw, wd, wm, od, oc)]
          refine i_goto (q := 38) C dX8_saved_34 (by decide) ?_
          exact join_38 (kys (ml st (st 2800).toNat) (mp st p)) (by first | exact Or.inr ⟨rfl, c_26⟩ | exact Or.inl ⟨rfl, c_26⟩)
  refine V.lv [2, 1, 0] rfl ?_
  exact loop_4 _ (0) (0) (Nat.lt_succ_self _) (by omega) (rfl)

theorem lk_X8_twins_7 : Cond.fieldLink RX8 7 (TX8 0).1 (TX8 0).2.1 (TX8 0).2.2.1 ∈ wsX8_twins := List.mem_of_getElem? (i := 1) rfl
theorem hi_X8_twins_X8 : ∀ w ∈ u_ws RX8 TX8 18, w ∈ wsX8_twins := by decide +kernel
set_option maxHeartbeats 400000 in
set_option maxRecDepth 100000 in
theorem c_X8_twins (K : KT) (l : Launch) (am : Nat → Nat) (st : Int → Int) (bk : Int → Int) (un : Int) (ck : Int) (ty : Int → Int) (tm : Int) (tx : Int → Int) (ln : Int) (rf : Int → Int) (dg : Int) (dn : Int → Int) (rk : Int → Int) (pl : Int) (iw : Int) (wd : Int → Int) (wm : Int) (od : Int → Int) (oc : Int) (N : Int) (x : Int) (hm : okM N st bk un ck ty tm tx ln rf) (hN : N < 512) (hx : rI x) : Mt K l yX8_twins wsX8_twins ({ frames := 2, cells := 0, slots := 0, locals := 43 }) [vP (am 0), vI x] [mdW am (st, bk, un, ck, ty, tm, tx, ln, rf, dg, dn, rk, pl, iw, wd, wm, od, oc)] 0 0 (fun v w => ∃ rf3 : Int → Int, v = some (vI ((sp_twins x (absM st bk un ck ty tm tx ln rf)).1)) ∧ w = [mdW am (st, bk, un, ck, ty, tm, tx, ln, rf3, dg, dn, rk, pl, iw, wd, wm, od, oc)] ∧ (absM st bk un ck ty tm tx ln rf3 = (sp_twins x (absM st bk un ck ty tm tx ln rf)).2) ∧ (okM (N + 1) st bk un ck ty tm tx ln rf3)) := by
  refine Mt.of (own := RX8) (cc := cX8_twins) (maxL := 5) (ret := (some .int)) (lv0 := [(0, vP (am 0)), (1, vI x)]) (by decide) rfl rfl (Nat.le_of_ble_eq_true rfl) rfl (fun X C hR hNm => ?_)
  have hs := hm.hs
  have hgv := hs.gv
  have hN0 := hm.hN
  have hH := hm.hH
  have hck := hm.hck
  have htm := hm.htm
  have hln := hm.hln
  have hun := hH.1
  refine i_aload_n (j := 0) (q := 1) C rfl rfl dX8_twins_0 rfl ?_
  refine i_iload_n (j := 1) (q := 2) C rfl rfl dX8_twins_1 rfl ?_
  refine i_callV (wr := []) (As := [vI x]) (st := []) (i := 0) (j := 0) (q := 5) C (c_X8_isThere K l (am) (st) (bk) (un) (ck) (ty) (tm) (tx) (ln) (rf) (dg) (dn) (rk) (pl) (iw) (wd) (wm) (od) (oc) (24 * N) (x) (by first | assumption | omega) (by first | assumption | omega)) gX8_twins_X8_isThere rfl hd_X8_isThere ⟨Nat.le_of_ble_eq_true rfl, Nat.le_of_ble_eq_true rfl⟩ ⟨rfl, rfl⟩ ⟨Nat.le_of_ble_eq_true rfl, Nat.le_of_ble_eq_true rfl⟩ (permBy [0] (by decide) rfl rfl) rfl rfl rfl rfl (Nat.le_of_ble_eq_true rfl) dX8_twins_2 rfl (fun v w hq => ?_)
  obtain ⟨rfl, rfl⟩ := hq
  show V X 0 0 5 [(0, vP (am 0)), (1, vI x)] [vI (if 0 ≤ x ∧ x < st 2800 ∧ st (14 * x) = 1 then 1 else 0)] [mdW am (st, bk, un, ck, ty, tm, tx, ln, rf, dg, dn, rk, pl, iw, wd, wm, od, oc)]
  refine i_if_ne (tgt := 13) (q := 8) C (if01) dX8_twins_5 (by decide) rfl (fun c_5 => ?_) (fun c_5 => ?_)
  · skip
    have h_5 := ifn0 c_5
    refine i_aload_n (j := 0) (q := 14) C rfl rfl dX8_twins_13 rfl ?_
    refine i_get (i := 0) (j := 0) (f := 0) (q := 17) C rfl rfl rfl hi_X8_twins_X8 (by decide) lk_X8_twins_7 rfl dX8_twins_14 rfl ?_
    refine i_bipush (q := 19) C (by decide) dX8_twins_17 rfl ?_
    refine i_iload_n (j := 1) (q := 20) C rfl rfl dX8_twins_19 rfl ?_
    refine i_imul (q := 21) C dX8_twins_20 rfl ?_
    refine i_iconst (q := 22) C dX8_twins_21 rfl ?_
    refine i_iadd (q := 23) C dX8_twins_22 rfl ?_
    refine i_iald (i := 0) (j := 1) (q := 24) C rfl rfl (by omega) dX8_twins_23 rfl ?_
    have ld_23 := hs.k2 x (by omega) (by omega)
    refine i_istore_n (q := 25) (lv' := [(2, vI (st ((14 * x) + 2))), (0, vP (am 0)), (1, vI x)]) C rfl (by decide) rfl dX8_twins_24 rfl ?_
    refine i_iconst (q := 26) C dX8_twins_25 rfl ?_
    refine i_istore_n (q := 27) (lv' := [(3, vI 0), (2, vI (st ((14 * x) + 2))), (0, vP (am 0)), (1, vI x)]) C rfl (by decide) rfl dX8_twins_26 rfl ?_
    refine i_iconst (q := 28) C dX8_twins_27 rfl ?_
    refine i_istore (q := 30) (lv' := [(4, vI 0), (3, vI 0), (2, vI (st ((14 * x) + 2))), (0, vP (am 0)), (1, vI x)]) C (by decide) rfl dX8_twins_28 rfl ?_
    have loop_30 : ∀ (fuel : Nat) (r : Int) (n : Int), ((st 2800 - r).toNat) < fuel → (0 ≤ r ∧ r ≤ st 2800) → (n = (((ml st r.toNat).filter (fun y : Ph => !(y.1 == (mp st x).1) && decide (0 < (mp st x).2.2.2.1) && (y.2.2.2.1 == (mp st x).2.2.2.1))).length : Int)) → V X 0 0 30 [(0, vP (am 0)), (1, vI x), (2, vI (st ((14 * x) + 2))), (3, vI n), (4, vI r)] [] [mdW am (st, bk, un, ck, ty, tm, tx, ln, rf, dg, dn, rk, pl, iw, wd, wm, od, oc)] := by
      intro fuel
      induction fuel with
      | zero => intro r n hz; exact absurd hz (Nat.not_lt_zero _)
      | succ fuel ih_30 =>
        intro r n hfu_30 hr hv
        refine i_iload (j := 4) (q := 32) C rfl dX8_twins_30 rfl ?_
        refine i_aload_n (j := 0) (q := 33) C rfl rfl dX8_twins_32 rfl ?_
        refine i_get (i := 0) (j := 0) (f := 0) (q := 36) C rfl rfl rfl hi_X8_twins_X8 (by decide) lk_X8_twins_7 rfl dX8_twins_33 rfl ?_
        refine i_sipush (q := 39) C (by decide) dX8_twins_36 rfl ?_
        refine i_iald (i := 0) (j := 1) (q := 40) C rfl rfl (by omega) dX8_twins_39 rfl ?_
        have ld_39 := hs.gv
        refine i_icmp_ge (tgt := 97) (q := 43) C (by omega) (by omega) dX8_twins_40 (by decide) rfl (fun c_40 => ?_) (fun c_40 => ?_)
        · skip
          refine i_iload_n (j := 3) (q := 98) C rfl rfl dX8_twins_97 rfl ?_
          refine i_iret C hR dX8_twins_98 ?_
          have hsp : (sp_twins x (absM st bk un ck ty tm tx ln rf)) = (n, absM st bk un ck ty tm tx ln rf) := by
            unfold absM
            simp only [sp_twins]
            have e9 : r = st 2800 := by omega
            subst e9
            rw [fnd_bo hs, if_pos h_5, hv]
            rfl
          exact ⟨rf, by rw [hsp], rfl, by rw [hsp] <;> exact rfl, hm.s hN⟩
        · skip
          have join_89 : ∀ (b : Int), ((b = 1 ∧ (st (14 * r) = 1 ∧ (r ≠ x ∧ 0 < st (14 * x + 2) ∧ st (14 * r + 2) = st (14 * x + 2)))) ∨ (b = 0 ∧ ¬ (st (14 * r) = 1 ∧ (r ≠ x ∧ 0 < st (14 * x + 2) ∧ st (14 * r + 2) = st (14 * x + 2))))) → V X 0 0 89 [(0, vP (am 0)), (1, vI x), (2, vI (st ((14 * x) + 2))), (3, vI n), (4, vI r)] [vI b, vI n] [mdW am (st, bk, un, ck, ty, tm, tx, ln, rf, dg, dn, rk, pl, iw, wd, wm, od, oc)] := by
            intro b hq
            refine i_iadd (q := 90) C dX8_twins_89 rfl ?_
            refine i_istore_n (q := 91) (lv' := [(3, vI (n + b)), (0, vP (am 0)), (1, vI x), (2, vI (st ((14 * x) + 2))), (4, vI r)]) C rfl (by decide) rfl dX8_twins_90 rfl ?_
            refine i_iinc (j := 4) (q := 94) (lv' := [(4, vI (r + 1)), (3, vI (n + b)), (0, vP (am 0)), (1, vI x), (2, vI (st ((14 * x) + 2)))]) C rfl (by decide) rfl dX8_twins_91 rfl ?_
            refine i_goto (q := 30) C dX8_twins_94 (by decide) ?_
            refine V.lv [2, 3, 4, 1, 0] rfl ?_
            exact ih_30 (r + 1) (n + b) (by omega) (by omega) (by
              have hiff : (fun y : Ph => !(y.1 == (mp st x).1) && decide (0 < (mp st x).2.2.2.1) && (y.2.2.2.1 == (mp st x).2.2.2.1)) (mp st r) = true ↔ (r ≠ x ∧ 0 < st (14 * x + 2) ∧ st (14 * r + 2) = st (14 * x + 2)) := by
                simp only [mp, Bool.and_eq_true, Bool.not_eq_true', beq_eq_false_iff_ne, beq_iff_eq, decide_eq_true_eq]
                constructor
                · intro z; exact ⟨by simpa using z.1.1, of_decide_eq_true z.1.2, z.2⟩
                · intro z; exact ⟨⟨by simpa using z.1, decide_eq_true z.2.1⟩, z.2.2⟩
              rw [fil_ml _ st hr.1, ← hv]
              rcases hq with ⟨h1, h2⟩ | ⟨h1, h2⟩
              · rw [if_pos ⟨h2.1, hiff.mpr h2.2⟩, h1]
              · rw [if_neg (fun z => h2 ⟨z.1, hiff.mp z.2⟩), h1])
          refine i_iload_n (j := 3) (q := 44) C rfl rfl dX8_twins_43 rfl ?_
          refine i_iload (j := 4) (q := 46) C rfl dX8_twins_44 rfl ?_
          refine i_iload_n (j := 1) (q := 47) C rfl rfl dX8_twins_46 rfl ?_
          refine i_icmp_eq (tgt := 88) (q := 50) C (by omega) (by omega) dX8_twins_47 (by decide) rfl (fun c_47 => ?_) (fun c_47 => ?_)
          · skip
            refine i_iconst (q := 89) C dX8_twins_88 rfl ?_
            exact join_89 (0) (by first | exact Or.inr ⟨rfl, fun z => absurd z (by omega)⟩ | exact Or.inl ⟨rfl, by omega, by omega, by omega, by omega⟩)
          · skip
            refine i_iload_n (j := 2) (q := 51) C rfl rfl dX8_twins_50 rfl ?_
            refine i_if_le (tgt := 88) (q := 54) C (by omega) dX8_twins_51 (by decide) rfl (fun c_51 => ?_) (fun c_51 => ?_)
            · skip
              refine i_iconst (q := 89) C dX8_twins_88 rfl ?_
              exact join_89 (0) (by first | exact Or.inr ⟨rfl, fun z => absurd z (by omega)⟩ | exact Or.inl ⟨rfl, by omega, by omega, by omega, by omega⟩)
            · skip
              refine i_aload_n (j := 0) (q := 55) C rfl rfl dX8_twins_54 rfl ?_
              refine i_get (i := 0) (j := 0) (f := 0) (q := 58) C rfl rfl rfl hi_X8_twins_X8 (by decide) lk_X8_twins_7 rfl dX8_twins_55 rfl ?_
              refine i_bipush (q := 60) C (by decide) dX8_twins_58 rfl ?_
              refine i_iload (j := 4) (q := 62) C rfl dX8_twins_60 rfl ?_
              refine i_imul (q := 63) C dX8_twins_62 rfl ?_
              refine i_iald (i := 0) (j := 1) (q := 64) C rfl rfl (by omega) dX8_twins_63 rfl ?_
              have ld_63 := hs.k0 r (by omega) (by omega)
              refine i_iconst (q := 65) C dX8_twins_64 rfl ?_
              refine i_icmp_ne (tgt := 88) (q := 68) C (by omega) (by omega) dX8_twins_65 (by decide) rfl (fun c_65 => ?_) (fun c_65 => ?_)
              · skip
                refine i_iconst (q := 89) C dX8_twins_88 rfl ?_
                exact join_89 (0) (by first | exact Or.inr ⟨rfl, fun z => absurd z (by omega)⟩ | exact Or.inl ⟨rfl, by omega, by omega, by omega, by omega⟩)
              · skip
                refine i_aload_n (j := 0) (q := 69) C rfl rfl dX8_twins_68 rfl ?_
                refine i_get (i := 0) (j := 0) (f := 0) (q := 72) C rfl rfl rfl hi_X8_twins_X8 (by decide) lk_X8_twins_7 rfl dX8_twins_69 rfl ?_
                refine i_bipush (q := 74) C (by decide) dX8_twins_72 rfl ?_
                refine i_iload (j := 4) (q := 76) C rfl dX8_twins_74 rfl ?_
                refine i_imul (q := 77) C dX8_twins_76 rfl ?_
                refine i_iconst (q := 78) C dX8_twins_77 rfl ?_
                refine i_iadd (q := 79) C dX8_twins_78 rfl ?_
                refine i_iald (i := 0) (j := 1) (q := 80) C rfl rfl (by omega) dX8_twins_79 rfl ?_
                have ld_79 := hs.k2 r (by omega) (by omega)
                refine i_iload_n (j := 2) (q := 81) C rfl rfl dX8_twins_80 rfl ?_
                refine i_icmp_ne (tgt := 88) (q := 84) C (by omega) (by omega) dX8_twins_81 (by decide) rfl (fun c_81 => ?_) (fun c_81 => ?_)
                · skip
                  refine i_iconst (q := 89) C dX8_twins_88 rfl ?_
                  exact join_89 (0) (by first | exact Or.inr ⟨rfl, fun z => absurd z (by omega)⟩ | exact Or.inl ⟨rfl, by omega, by omega, by omega, by omega⟩)
                · skip
                  refine i_iconst (q := 85) C dX8_twins_84 rfl ?_
                  refine i_goto (q := 89) C dX8_twins_85 (by decide) ?_
                  exact join_89 (1) (by first | exact Or.inr ⟨rfl, fun z => absurd z (by omega)⟩ | exact Or.inl ⟨rfl, by omega, by omega, by omega, by omega⟩)
    refine V.lv [3, 4, 2, 1, 0] rfl ?_
    exact loop_30 _ (0) (0) (Nat.lt_succ_self _) (by omega) (rfl)
  · skip
    have h_5 := if0 c_5
    refine i_aload_n (j := 0) (q := 9) C rfl rfl dX8_twins_8 rfl ?_
    refine i_callV (wr := []) (As := []) (st := []) (i := 0) (j := 0) (q := 12) C (c_X8_bad K l (am) (st) (bk) (un) (ck) (ty) (tm) (tx) (ln) (rf) (dg) (dn) (rk) (pl) (iw) (wd) (wm) (od) (oc) ) gX8_twins_X8_bad rfl hd_X8_bad ⟨Nat.le_of_ble_eq_true rfl, Nat.le_of_ble_eq_true rfl⟩ ⟨rfl, rfl⟩ ⟨Nat.le_of_ble_eq_true rfl, Nat.le_of_ble_eq_true rfl⟩ (permBy [0] (by decide) rfl rfl) rfl rfl rfl rfl (Nat.le_of_ble_eq_true rfl) dX8_twins_9 rfl (fun v w hq => ?_)
    obtain ⟨rfl, rfl⟩ := hq
    show V X 0 0 12 [(0, vP (am 0)), (1, vI x)] [vI (-2)] [mdW am (st, bk, un, ck, ty, tm, tx, ln, up rf 0 (rf 0 + 1), dg, dn, rk, pl, iw, wd, wm, od, oc)]
    refine i_iret C hR dX8_twins_12 ?_
    have hsp : (sp_twins x (absM st bk un ck ty tm tx ln rf)) = (-2, aBad (absM st bk un ck ty tm tx ln rf)) := by
      unfold absM
      simp only [sp_twins]
      rw [fnd_bo hs, if_neg h_5]
    exact ⟨up rf 0 (rf 0 + 1), by rw [hsp], rfl, by rw [hsp] <;> exact absM_bad, okM_bad hm hN⟩

set_option maxHeartbeats 400000 in
set_option maxRecDepth 100000 in
theorem c_X8_alike (K : KT) (l : Launch) (am : Nat → Nat) (st : Int → Int) (bk : Int → Int) (un : Int) (ck : Int) (ty : Int → Int) (tm : Int) (tx : Int → Int) (ln : Int) (rf : Int → Int) (dg : Int) (dn : Int → Int) (rk : Int → Int) (pl : Int) (iw : Int) (wd : Int → Int) (wm : Int) (od : Int → Int) (oc : Int) (N : Int) (x : Int) (y : Int) (hm : okM N st bk un ck ty tm tx ln rf) (hN : N < 512) (hx : rI x) (hy : rI y) : Mt K l yX8_alike wsX8_alike ({ frames := 2, cells := 0, slots := 0, locals := 43 }) [vP (am 0), vI x, vI y] [mdW am (st, bk, un, ck, ty, tm, tx, ln, rf, dg, dn, rk, pl, iw, wd, wm, od, oc)] 0 0 (fun v w => ∃ rf3 : Int → Int, v = some (vI ((sp_alike x y (absM st bk un ck ty tm tx ln rf)).1)) ∧ w = [mdW am (st, bk, un, ck, ty, tm, tx, ln, rf3, dg, dn, rk, pl, iw, wd, wm, od, oc)] ∧ (absM st bk un ck ty tm tx ln rf3 = (sp_alike x y (absM st bk un ck ty tm tx ln rf)).2) ∧ (okM (N + 1) st bk un ck ty tm tx ln rf3)) := by
  refine Mt.of (own := RX8) (cc := cX8_alike) (maxL := 3) (ret := (some .int)) (lv0 := [(0, vP (am 0)), (1, vI x), (2, vI y)]) (by decide) rfl rfl (Nat.le_of_ble_eq_true rfl) rfl (fun X C hR hNm => ?_)
  have hs := hm.hs
  have hgv := hs.gv
  have hN0 := hm.hN
  have hH := hm.hH
  have hck := hm.hck
  have htm := hm.htm
  have hln := hm.hln
  have hun := hH.1
  refine i_aload_n (j := 0) (q := 1) C rfl rfl dX8_alike_0 rfl ?_
  refine i_iload_n (j := 1) (q := 2) C rfl rfl dX8_alike_1 rfl ?_
  refine i_callV (wr := []) (As := [vI x]) (st := []) (i := 0) (j := 0) (q := 5) C (c_X8_isThere K l (am) (st) (bk) (un) (ck) (ty) (tm) (tx) (ln) (rf) (dg) (dn) (rk) (pl) (iw) (wd) (wm) (od) (oc) (24 * N) (x) (by first | assumption | omega) (by first | assumption | omega)) gX8_alike_X8_isThere rfl hd_X8_isThere ⟨Nat.le_of_ble_eq_true rfl, Nat.le_of_ble_eq_true rfl⟩ ⟨rfl, rfl⟩ ⟨Nat.le_of_ble_eq_true rfl, Nat.le_of_ble_eq_true rfl⟩ (permBy [0] (by decide) rfl rfl) rfl rfl rfl rfl (Nat.le_of_ble_eq_true rfl) dX8_alike_2 rfl (fun v w hq => ?_)
  obtain ⟨rfl, rfl⟩ := hq
  show V X 0 0 5 [(0, vP (am 0)), (1, vI x), (2, vI y)] [vI (if 0 ≤ x ∧ x < st 2800 ∧ st (14 * x) = 1 then 1 else 0)] [mdW am (st, bk, un, ck, ty, tm, tx, ln, rf, dg, dn, rk, pl, iw, wd, wm, od, oc)]
  refine i_if_eq (tgt := 25) (q := 8) C (if01) dX8_alike_5 (by decide) rfl (fun c_5 => ?_) (fun c_5 => ?_)
  · skip
    have h_5 := if0 c_5
    refine i_aload_n (j := 0) (q := 26) C rfl rfl dX8_alike_25 rfl ?_
    refine i_callV (wr := []) (As := []) (st := []) (i := 0) (j := 0) (q := 29) C (c_X8_bad K l (am) (st) (bk) (un) (ck) (ty) (tm) (tx) (ln) (rf) (dg) (dn) (rk) (pl) (iw) (wd) (wm) (od) (oc) ) gX8_alike_X8_bad rfl hd_X8_bad ⟨Nat.le_of_ble_eq_true rfl, Nat.le_of_ble_eq_true rfl⟩ ⟨rfl, rfl⟩ ⟨Nat.le_of_ble_eq_true rfl, Nat.le_of_ble_eq_true rfl⟩ (permBy [0] (by decide) rfl rfl) rfl rfl rfl rfl (Nat.le_of_ble_eq_true rfl) dX8_alike_26 rfl (fun v w hq => ?_)
    obtain ⟨rfl, rfl⟩ := hq
    show V X 0 0 29 [(0, vP (am 0)), (1, vI x), (2, vI y)] [vI (-2)] [mdW am (st, bk, un, ck, ty, tm, tx, ln, up rf 0 (rf 0 + 1), dg, dn, rk, pl, iw, wd, wm, od, oc)]
    refine i_iret C hR dX8_alike_29 ?_
    have hsp : (sp_alike x y (absM st bk un ck ty tm tx ln rf)) = (-2, aBad (absM st bk un ck ty tm tx ln rf)) := by
      unfold absM
      simp only [sp_alike]
      rw [fnd_bo hs, if_neg h_5]
    exact ⟨up rf 0 (rf 0 + 1), by rw [hsp], rfl, by rw [hsp] <;> exact absM_bad, okM_bad hm hN⟩
  · skip
    have h_5 := ifn0 c_5
    refine i_aload_n (j := 0) (q := 9) C rfl rfl dX8_alike_8 rfl ?_
    refine i_iload_n (j := 2) (q := 10) C rfl rfl dX8_alike_9 rfl ?_
    refine i_callV (wr := []) (As := [vI y]) (st := []) (i := 0) (j := 0) (q := 13) C (c_X8_isThere K l (am) (st) (bk) (un) (ck) (ty) (tm) (tx) (ln) (rf) (dg) (dn) (rk) (pl) (iw) (wd) (wm) (od) (oc) (24 * N) (y) (by first | assumption | omega) (by first | assumption | omega)) gX8_alike_X8_isThere rfl hd_X8_isThere ⟨Nat.le_of_ble_eq_true rfl, Nat.le_of_ble_eq_true rfl⟩ ⟨rfl, rfl⟩ ⟨Nat.le_of_ble_eq_true rfl, Nat.le_of_ble_eq_true rfl⟩ (permBy [0] (by decide) rfl rfl) rfl rfl rfl rfl (Nat.le_of_ble_eq_true rfl) dX8_alike_10 rfl (fun v w hq => ?_)
    obtain ⟨rfl, rfl⟩ := hq
    show V X 0 0 13 [(0, vP (am 0)), (1, vI x), (2, vI y)] [vI (if 0 ≤ y ∧ y < st 2800 ∧ st (14 * y) = 1 then 1 else 0)] [mdW am (st, bk, un, ck, ty, tm, tx, ln, rf, dg, dn, rk, pl, iw, wd, wm, od, oc)]
    refine i_if_eq (tgt := 25) (q := 16) C (if01) dX8_alike_13 (by decide) rfl (fun c_13 => ?_) (fun c_13 => ?_)
    · skip
      have h_13 := if0 c_13
      refine i_aload_n (j := 0) (q := 26) C rfl rfl dX8_alike_25 rfl ?_
      refine i_callV (wr := []) (As := []) (st := []) (i := 0) (j := 0) (q := 29) C (c_X8_bad K l (am) (st) (bk) (un) (ck) (ty) (tm) (tx) (ln) (rf) (dg) (dn) (rk) (pl) (iw) (wd) (wm) (od) (oc) ) gX8_alike_X8_bad rfl hd_X8_bad ⟨Nat.le_of_ble_eq_true rfl, Nat.le_of_ble_eq_true rfl⟩ ⟨rfl, rfl⟩ ⟨Nat.le_of_ble_eq_true rfl, Nat.le_of_ble_eq_true rfl⟩ (permBy [0] (by decide) rfl rfl) rfl rfl rfl rfl (Nat.le_of_ble_eq_true rfl) dX8_alike_26 rfl (fun v w hq => ?_)
      obtain ⟨rfl, rfl⟩ := hq
      show V X 0 0 29 [(0, vP (am 0)), (1, vI x), (2, vI y)] [vI (-2)] [mdW am (st, bk, un, ck, ty, tm, tx, ln, up rf 0 (rf 0 + 1), dg, dn, rk, pl, iw, wd, wm, od, oc)]
      refine i_iret C hR dX8_alike_29 ?_
      have hsp : (sp_alike x y (absM st bk un ck ty tm tx ln rf)) = (-2, aBad (absM st bk un ck ty tm tx ln rf)) := by
        unfold absM
        simp only [sp_alike]
        rw [fnd_bo hs, if_pos h_5]
        simp only
        rw [fnd_bo hs, if_neg h_13]
      exact ⟨up rf 0 (rf 0 + 1), by rw [hsp], rfl, by rw [hsp] <;> exact absM_bad, okM_bad hm hN⟩
    · skip
      have h_13 := ifn0 c_13
      refine i_aload_n (j := 0) (q := 17) C rfl rfl dX8_alike_16 rfl ?_
      refine i_iload_n (j := 1) (q := 18) C rfl rfl dX8_alike_17 rfl ?_
      refine i_iload_n (j := 2) (q := 19) C rfl rfl dX8_alike_18 rfl ?_
      refine i_callV (wr := []) (As := [vI x, vI y]) (st := []) (i := 0) (j := 0) (q := 22) C (c_X8_sameOf K l (am) (st) (bk) (un) (ck) (ty) (tm) (tx) (ln) (rf) (dg) (dn) (rk) (pl) (iw) (wd) (wm) (od) (oc) (24 * N) (x) (y) (by first | assumption | omega) (by first | assumption | omega) (by first | assumption | omega)) gX8_alike_X8_sameOf rfl hd_X8_sameOf ⟨Nat.le_of_ble_eq_true rfl, Nat.le_of_ble_eq_true rfl⟩ ⟨rfl, rfl⟩ ⟨Nat.le_of_ble_eq_true rfl, Nat.le_of_ble_eq_true rfl⟩ (permBy [0] (by decide) rfl rfl) rfl rfl rfl rfl (Nat.le_of_ble_eq_true rfl) dX8_alike_19 rfl (fun v w hq => ?_)
      obtain ⟨rfl, rfl⟩ := hq
      show V X 0 0 22 [(0, vP (am 0)), (1, vI x), (2, vI y)] [vI (cp (lt st x) (lt st y) : Int)] [mdW am (st, bk, un, ck, ty, tm, tx, ln, rf, dg, dn, rk, pl, iw, wd, wm, od, oc)]
      refine i_goto (q := 29) C dX8_alike_22 (by decide) ?_
      refine i_iret C hR dX8_alike_29 ?_
      have hsp : (sp_alike x y (absM st bk un ck ty tm tx ln rf)) = ((cp (lt st x) (lt st y) : Int), absM st bk un ck ty tm tx ln rf) := by
        unfold absM
        simp only [sp_alike]
        rw [fnd_bo hs, if_pos h_5]
        simp only
        rw [fnd_bo hs, if_pos h_13]
        rfl
      exact ⟨rf, by rw [hsp], rfl, by rw [hsp] <;> exact rfl, hm.s hN⟩

theorem lk_X8_told_7 : Cond.fieldLink RX8 7 (TX8 0).1 (TX8 0).2.1 (TX8 0).2.2.1 ∈ wsX8_told := List.mem_of_getElem? (i := 1) rfl
theorem hi_X8_told_X8 : ∀ w ∈ u_ws RX8 TX8 18, w ∈ wsX8_told := by decide +kernel
theorem lk_X8_told_50 : Cond.fieldLink RX8 50 (TX8 3).1 (TX8 3).2.1 (TX8 3).2.2.1 ∈ wsX8_told := List.mem_of_getElem? (i := 2) rfl
theorem lk_X8_told_53 : Cond.fieldLink RX8 53 (TX8 5).1 (TX8 5).2.1 (TX8 5).2.2.1 ∈ wsX8_told := List.mem_of_getElem? (i := 3) rfl
theorem lk_X8_told_46 : Cond.fieldLink RX8 46 (TX8 2).1 (TX8 2).2.1 (TX8 2).2.2.1 ∈ wsX8_told := List.mem_of_getElem? (i := 4) rfl
theorem lk_X8_told_56 : Cond.fieldLink RX8 56 (TX8 7).1 (TX8 7).2.1 (TX8 7).2.2.1 ∈ wsX8_told := List.mem_of_getElem? (i := 5) rfl
theorem lk_X8_told_23 : Cond.fieldLink RX8 23 (TX8 8).1 (TX8 8).2.1 (TX8 8).2.2.1 ∈ wsX8_told := List.mem_of_getElem? (i := 6) rfl
set_option maxHeartbeats 400000 in
set_option maxRecDepth 100000 in
theorem c_X8_tolds (K : KT) (l : Launch) (am : Nat → Nat) (st : Int → Int) (bk : Int → Int) (un : Int) (ck : Int) (ty : Int → Int) (tm : Int) (tx : Int → Int) (ln : Int) (rf : Int → Int) (dg : Int) (dn : Int → Int) (rk : Int → Int) (pl : Int) (iw : Int) (wd : Int → Int) (wm : Int) (od : Int → Int) (oc : Int) (U : Int) (x : Int) (hs : okS U st) (hx : 0 ≤ x ∧ x ≤ 10) (htm : 0 ≤ tm) (hun : 0 ≤ un) (hln : 0 ≤ ln) : Mt K l yX8_told wsX8_told ({ frames := 1, cells := 0, slots := 0, locals := 22 }) [vP (am 0), vI x] [mdW am (st, bk, un, ck, ty, tm, tx, ln, rf, dg, dn, rk, pl, iw, wd, wm, od, oc)] 0 0 (fun v w => v = some (vI (tld x (absM st bk un ck ty tm tx ln rf))) ∧ w = [mdW am (st, bk, un, ck, ty, tm, tx, ln, rf, dg, dn, rk, pl, iw, wd, wm, od, oc)]) := by
  refine Mt.of (own := RX8) (cc := cX8_told) (maxL := 2) (ret := (some .int)) (lv0 := [(0, vP (am 0)), (1, vI x)]) (by decide) rfl rfl (Nat.le_of_ble_eq_true rfl) rfl (fun X C hR hNm => ?_)
  have hgv := hs.gv
  refine i_iload_n (j := 1) (q := 1) C rfl rfl dX8_told_0 rfl ?_
  by_cases e_1_0 : x = 0
  · skip
    refine i_tsIn (q := 60) 0 C e_1_0 dX8_told_1 (by decide) rfl (by decide) ?_
    refine i_aload_n (j := 0) (q := 61) C rfl rfl dX8_told_60 rfl ?_
    refine i_callV (wr := []) (As := []) (st := []) (i := 0) (j := 0) (q := 64) C (c_X8_many K l (am) (st) (bk) (un) (ck) (ty) (tm) (tx) (ln) (rf) (dg) (dn) (rk) (pl) (iw) (wd) (wm) (od) (oc) (U) (by first | assumption | omega)) gX8_told_X8_many rfl hd_X8_many ⟨Nat.le_of_ble_eq_true rfl, Nat.le_of_ble_eq_true rfl⟩ ⟨rfl, rfl⟩ ⟨Nat.le_of_ble_eq_true rfl, Nat.le_of_ble_eq_true rfl⟩ (permBy [0] (by decide) rfl rfl) rfl rfl rfl rfl (Nat.le_of_ble_eq_true rfl) dX8_told_61 rfl (fun v w hq => ?_)
    obtain ⟨rfl, rfl⟩ := hq
    show V X 0 0 64 [(0, vP (am 0)), (1, vI x)] [vI ((ml st (st 2800).toNat).length : Int)] [mdW am (st, bk, un, ck, ty, tm, tx, ln, rf, dg, dn, rk, pl, iw, wd, wm, od, oc)]
    refine i_iret C hR dX8_told_64 ?_
    exact ⟨by
      unfold absM bo tld
      simp only [rg_len, hs_len, Option.some.injEq, Sum.inl.injEq]
      rw [e_1_0]; simp, rfl⟩
  by_cases e_1_1 : x = 1
  · skip
    refine i_tsIn (q := 65) 1 C e_1_1 dX8_told_1 (by decide) rfl (by decide) ?_
    refine i_aload_n (j := 0) (q := 66) C rfl rfl dX8_told_65 rfl ?_
    refine i_get (i := 0) (j := 0) (f := 0) (q := 69) C rfl rfl rfl hi_X8_told_X8 (by decide) lk_X8_told_7 rfl dX8_told_66 rfl ?_
    refine i_sipush (q := 72) C (by decide) dX8_told_69 rfl ?_
    refine i_iald (i := 0) (j := 1) (q := 73) C rfl rfl (by omega) dX8_told_72 rfl ?_
    have ld_72 := hs.gv
    refine i_iret C hR dX8_told_73 ?_
    exact ⟨by
      unfold absM bo tld
      simp only [rg_len, hs_len, Option.some.injEq, Sum.inl.injEq]
      rw [e_1_1]; simp, rfl⟩
  by_cases e_1_2 : x = 2
  · skip
    refine i_tsIn (q := 74) 2 C e_1_2 dX8_told_1 (by decide) rfl (by decide) ?_
    refine i_aload_n (j := 0) (q := 75) C rfl rfl dX8_told_74 rfl ?_
    refine i_get (i := 0) (j := 0) (f := 3) (q := 78) C rfl rfl rfl hi_X8_told_X8 (by decide) lk_X8_told_50 rfl dX8_told_75 rfl ?_
    refine i_iret C hR dX8_told_78 ?_
    exact ⟨by
      unfold absM bo tld
      simp only [rg_len, hs_len, Option.some.injEq, Sum.inl.injEq]
      rw [e_1_2]; simp, rfl⟩
  by_cases e_1_3 : x = 3
  · skip
    refine i_tsIn (q := 79) 3 C e_1_3 dX8_told_1 (by decide) rfl (by decide) ?_
    refine i_aload_n (j := 0) (q := 80) C rfl rfl dX8_told_79 rfl ?_
    refine i_get (i := 0) (j := 0) (f := 0) (q := 83) C rfl rfl rfl hi_X8_told_X8 (by decide) lk_X8_told_7 rfl dX8_told_80 rfl ?_
    refine i_sipush (q := 86) C (by decide) dX8_told_83 rfl ?_
    refine i_iald (i := 0) (j := 1) (q := 87) C rfl rfl (by omega) dX8_told_86 rfl ?_
    have ld_86 := hs.kd
    refine i_iret C hR dX8_told_87 ?_
    exact ⟨by
      unfold absM bo tld
      simp only [rg_len, hs_len, Option.some.injEq, Sum.inl.injEq]
      rw [e_1_3]; simp, rfl⟩
  by_cases e_1_4 : x = 4
  · skip
    refine i_tsIn (q := 88) 4 C e_1_4 dX8_told_1 (by decide) rfl (by decide) ?_
    refine i_aload_n (j := 0) (q := 89) C rfl rfl dX8_told_88 rfl ?_
    refine i_get (i := 0) (j := 0) (f := 0) (q := 92) C rfl rfl rfl hi_X8_told_X8 (by decide) lk_X8_told_7 rfl dX8_told_89 rfl ?_
    refine i_sipush (q := 95) C (by decide) dX8_told_92 rfl ?_
    refine i_iald (i := 0) (j := 1) (q := 96) C rfl rfl (by omega) dX8_told_95 rfl ?_
    have ld_95 := hs.sl
    refine i_iret C hR dX8_told_96 ?_
    exact ⟨by
      unfold absM bo tld
      simp only [rg_len, hs_len, Option.some.injEq, Sum.inl.injEq]
      rw [e_1_4]; simp, rfl⟩
  by_cases e_1_5 : x = 5
  · skip
    refine i_tsIn (q := 97) 5 C e_1_5 dX8_told_1 (by decide) rfl (by decide) ?_
    refine i_aload_n (j := 0) (q := 98) C rfl rfl dX8_told_97 rfl ?_
    refine i_get (i := 0) (j := 0) (f := 5) (q := 101) C rfl rfl rfl hi_X8_told_X8 (by decide) lk_X8_told_53 rfl dX8_told_98 rfl ?_
    refine i_iret C hR dX8_told_101 ?_
    exact ⟨by
      unfold absM bo tld
      simp only [rg_len, hs_len, Option.some.injEq, Sum.inl.injEq]
      rw [e_1_5]; simp; omega, rfl⟩
  by_cases e_1_6 : x = 6
  · skip
    refine i_tsIn (q := 102) 6 C e_1_6 dX8_told_1 (by decide) rfl (by decide) ?_
    refine i_aload_n (j := 0) (q := 103) C rfl rfl dX8_told_102 rfl ?_
    refine i_get (i := 0) (j := 0) (f := 2) (q := 106) C rfl rfl rfl hi_X8_told_X8 (by decide) lk_X8_told_46 rfl dX8_told_103 rfl ?_
    refine i_iret C hR dX8_told_106 ?_
    exact ⟨by
      unfold absM bo tld
      simp only [rg_len, hs_len, Option.some.injEq, Sum.inl.injEq]
      rw [e_1_6]; simp; omega, rfl⟩
  by_cases e_1_7 : x = 7
  · skip
    refine i_tsIn (q := 107) 7 C e_1_7 dX8_told_1 (by decide) rfl (by decide) ?_
    refine i_aload_n (j := 0) (q := 108) C rfl rfl dX8_told_107 rfl ?_
    refine i_get (i := 0) (j := 0) (f := 7) (q := 111) C rfl rfl rfl hi_X8_told_X8 (by decide) lk_X8_told_56 rfl dX8_told_108 rfl ?_
    refine i_iret C hR dX8_told_111 ?_
    exact ⟨by
      unfold absM bo tld
      simp only [rg_len, hs_len, Option.some.injEq, Sum.inl.injEq]
      rw [e_1_7]; simp; omega, rfl⟩
  by_cases e_1_8 : x = 8
  · skip
    refine i_tsIn (q := 112) 8 C e_1_8 dX8_told_1 (by decide) rfl (by decide) ?_
    refine i_aload_n (j := 0) (q := 113) C rfl rfl dX8_told_112 rfl ?_
    refine i_get (i := 0) (j := 0) (f := 8) (q := 116) C rfl rfl rfl hi_X8_told_X8 (by decide) lk_X8_told_23 rfl dX8_told_113 rfl ?_
    refine i_iload_n (j := 1) (q := 117) C rfl rfl dX8_told_116 rfl ?_
    refine i_bipush (q := 119) C (by decide) dX8_told_117 rfl ?_
    refine i_isub (q := 120) C dX8_told_119 rfl ?_
    refine i_iald (i := 0) (j := 5) (q := 121) C rfl rfl (by omega) dX8_told_120 rfl ?_
    refine i_iret C hR dX8_told_121 ?_
    exact ⟨by
      unfold absM bo tld
      simp only [rg_len, hs_len, Option.some.injEq, Sum.inl.injEq]
      rw [e_1_8]; simp, rfl⟩
  by_cases e_1_9 : x = 9
  · skip
    refine i_tsIn (q := 112) 9 C e_1_9 dX8_told_1 (by decide) rfl (by decide) ?_
    refine i_aload_n (j := 0) (q := 113) C rfl rfl dX8_told_112 rfl ?_
    refine i_get (i := 0) (j := 0) (f := 8) (q := 116) C rfl rfl rfl hi_X8_told_X8 (by decide) lk_X8_told_23 rfl dX8_told_113 rfl ?_
    refine i_iload_n (j := 1) (q := 117) C rfl rfl dX8_told_116 rfl ?_
    refine i_bipush (q := 119) C (by decide) dX8_told_117 rfl ?_
    refine i_isub (q := 120) C dX8_told_119 rfl ?_
    refine i_iald (i := 0) (j := 5) (q := 121) C rfl rfl (by omega) dX8_told_120 rfl ?_
    refine i_iret C hR dX8_told_121 ?_
    exact ⟨by
      unfold absM bo tld
      simp only [rg_len, hs_len, Option.some.injEq, Sum.inl.injEq]
      rw [e_1_9]; simp, rfl⟩
  by_cases e_1_10 : x = 10
  · skip
    refine i_tsIn (q := 112) 10 C e_1_10 dX8_told_1 (by decide) rfl (by decide) ?_
    refine i_aload_n (j := 0) (q := 113) C rfl rfl dX8_told_112 rfl ?_
    refine i_get (i := 0) (j := 0) (f := 8) (q := 116) C rfl rfl rfl hi_X8_told_X8 (by decide) lk_X8_told_23 rfl dX8_told_113 rfl ?_
    refine i_iload_n (j := 1) (q := 117) C rfl rfl dX8_told_116 rfl ?_
    refine i_bipush (q := 119) C (by decide) dX8_told_117 rfl ?_
    refine i_isub (q := 120) C dX8_told_119 rfl ?_
    refine i_iald (i := 0) (j := 5) (q := 121) C rfl rfl (by omega) dX8_told_120 rfl ?_
    refine i_iret C hR dX8_told_121 ?_
    exact ⟨by
      unfold absM bo tld
      simp only [rg_len, hs_len, Option.some.injEq, Sum.inl.injEq]
      rw [e_1_10]; simp, rfl⟩
  omega

set_option maxHeartbeats 400000 in
set_option maxRecDepth 100000 in
theorem c_X8_told (K : KT) (l : Launch) (am : Nat → Nat) (st : Int → Int) (bk : Int → Int) (un : Int) (ck : Int) (ty : Int → Int) (tm : Int) (tx : Int → Int) (ln : Int) (rf : Int → Int) (dg : Int) (dn : Int → Int) (rk : Int → Int) (pl : Int) (iw : Int) (wd : Int → Int) (wm : Int) (od : Int → Int) (oc : Int) (N : Int) (x : Int) (hm : okM N st bk un ck ty tm tx ln rf) (hN : N < 512) (hx : rI x) : Mt K l yX8_told wsX8_told ({ frames := 1, cells := 0, slots := 0, locals := 22 }) [vP (am 0), vI x] [mdW am (st, bk, un, ck, ty, tm, tx, ln, rf, dg, dn, rk, pl, iw, wd, wm, od, oc)] 0 0 (fun v w => ∃ rf3 : Int → Int, v = some (vI ((sp_told x (absM st bk un ck ty tm tx ln rf)).1)) ∧ w = [mdW am (st, bk, un, ck, ty, tm, tx, ln, rf3, dg, dn, rk, pl, iw, wd, wm, od, oc)] ∧ (absM st bk un ck ty tm tx ln rf3 = (sp_told x (absM st bk un ck ty tm tx ln rf)).2) ∧ (okM (N + 1) st bk un ck ty tm tx ln rf3)) := by
  refine Mt.of (own := RX8) (cc := cX8_told) (maxL := 2) (ret := (some .int)) (lv0 := [(0, vP (am 0)), (1, vI x)]) (by decide) rfl rfl (Nat.le_of_ble_eq_true rfl) rfl (fun X C hR hNm => ?_)
  have hs := hm.hs
  have hgv := hs.gv
  have hN0 := hm.hN
  have hH := hm.hH
  have hck := hm.hck
  have htm := hm.htm
  have hln := hm.hln
  have hun := hH.1
  refine i_iload_n (j := 1) (q := 1) C rfl rfl dX8_told_0 rfl ?_
  by_cases e_1_0 : x = 0
  · skip
    refine i_tsIn (q := 60) 0 C e_1_0 dX8_told_1 (by decide) rfl (by decide) ?_
    refine i_aload_n (j := 0) (q := 61) C rfl rfl dX8_told_60 rfl ?_
    refine i_callV (wr := []) (As := []) (st := []) (i := 0) (j := 0) (q := 64) C (c_X8_many K l (am) (st) (bk) (un) (ck) (ty) (tm) (tx) (ln) (rf) (dg) (dn) (rk) (pl) (iw) (wd) (wm) (od) (oc) (24 * N) (by first | assumption | omega)) gX8_told_X8_many rfl hd_X8_many ⟨Nat.le_of_ble_eq_true rfl, Nat.le_of_ble_eq_true rfl⟩ ⟨rfl, rfl⟩ ⟨Nat.le_of_ble_eq_true rfl, Nat.le_of_ble_eq_true rfl⟩ (permBy [0] (by decide) rfl rfl) rfl rfl rfl rfl (Nat.le_of_ble_eq_true rfl) dX8_told_61 rfl (fun v w hq => ?_)
    obtain ⟨rfl, rfl⟩ := hq
    show V X 0 0 64 [(0, vP (am 0)), (1, vI x)] [vI ((ml st (st 2800).toNat).length : Int)] [mdW am (st, bk, un, ck, ty, tm, tx, ln, rf, dg, dn, rk, pl, iw, wd, wm, od, oc)]
    refine i_iret C hR dX8_told_64 ?_
    have hsp : (sp_told x (absM st bk un ck ty tm tx ln rf)) = (((ml st (st 2800).toNat).length : Int), absM st bk un ck ty tm tx ln rf) := by
      unfold absM
      simp only [sp_told]
      rw [if_pos (by omega)]
      unfold bo tld
      simp only [rg_len, hs_len]
      rw [e_1_0]
      simp
      try omega
    exact ⟨rf, by rw [hsp], rfl, by rw [hsp] <;> exact rfl, hm.s hN⟩
  by_cases e_1_1 : x = 1
  · skip
    refine i_tsIn (q := 65) 1 C e_1_1 dX8_told_1 (by decide) rfl (by decide) ?_
    refine i_aload_n (j := 0) (q := 66) C rfl rfl dX8_told_65 rfl ?_
    refine i_get (i := 0) (j := 0) (f := 0) (q := 69) C rfl rfl rfl hi_X8_told_X8 (by decide) lk_X8_told_7 rfl dX8_told_66 rfl ?_
    refine i_sipush (q := 72) C (by decide) dX8_told_69 rfl ?_
    refine i_iald (i := 0) (j := 1) (q := 73) C rfl rfl (by omega) dX8_told_72 rfl ?_
    have ld_72 := hs.gv
    refine i_iret C hR dX8_told_73 ?_
    have hsp : (sp_told x (absM st bk un ck ty tm tx ln rf)) = (st 2800, absM st bk un ck ty tm tx ln rf) := by
      unfold absM
      simp only [sp_told]
      rw [if_pos (by omega)]
      unfold bo tld
      simp only [rg_len, hs_len]
      rw [e_1_1]
      simp
      try omega
    exact ⟨rf, by rw [hsp], rfl, by rw [hsp] <;> exact rfl, hm.s hN⟩
  by_cases e_1_2 : x = 2
  · skip
    refine i_tsIn (q := 74) 2 C e_1_2 dX8_told_1 (by decide) rfl (by decide) ?_
    refine i_aload_n (j := 0) (q := 75) C rfl rfl dX8_told_74 rfl ?_
    refine i_get (i := 0) (j := 0) (f := 3) (q := 78) C rfl rfl rfl hi_X8_told_X8 (by decide) lk_X8_told_50 rfl dX8_told_75 rfl ?_
    refine i_iret C hR dX8_told_78 ?_
    have hsp : (sp_told x (absM st bk un ck ty tm tx ln rf)) = (ck, absM st bk un ck ty tm tx ln rf) := by
      unfold absM
      simp only [sp_told]
      rw [if_pos (by omega)]
      unfold bo tld
      simp only [rg_len, hs_len]
      rw [e_1_2]
      simp
      try omega
    exact ⟨rf, by rw [hsp], rfl, by rw [hsp] <;> exact rfl, hm.s hN⟩
  by_cases e_1_3 : x = 3
  · skip
    refine i_tsIn (q := 79) 3 C e_1_3 dX8_told_1 (by decide) rfl (by decide) ?_
    refine i_aload_n (j := 0) (q := 80) C rfl rfl dX8_told_79 rfl ?_
    refine i_get (i := 0) (j := 0) (f := 0) (q := 83) C rfl rfl rfl hi_X8_told_X8 (by decide) lk_X8_told_7 rfl dX8_told_80 rfl ?_
    refine i_sipush (q := 86) C (by decide) dX8_told_83 rfl ?_
    refine i_iald (i := 0) (j := 1) (q := 87) C rfl rfl (by omega) dX8_told_86 rfl ?_
    have ld_86 := hs.kd
    refine i_iret C hR dX8_told_87 ?_
    have hsp : (sp_told x (absM st bk un ck ty tm tx ln rf)) = (st 2801, absM st bk un ck ty tm tx ln rf) := by
      unfold absM
      simp only [sp_told]
      rw [if_pos (by omega)]
      unfold bo tld
      simp only [rg_len, hs_len]
      rw [e_1_3]
      simp
      try omega
    exact ⟨rf, by rw [hsp], rfl, by rw [hsp] <;> exact rfl, hm.s hN⟩
  by_cases e_1_4 : x = 4
  · skip
    refine i_tsIn (q := 88) 4 C e_1_4 dX8_told_1 (by decide) rfl (by decide) ?_
    refine i_aload_n (j := 0) (q := 89) C rfl rfl dX8_told_88 rfl ?_
    refine i_get (i := 0) (j := 0) (f := 0) (q := 92) C rfl rfl rfl hi_X8_told_X8 (by decide) lk_X8_told_7 rfl dX8_told_89 rfl ?_
    refine i_sipush (q := 95) C (by decide) dX8_told_92 rfl ?_
    refine i_iald (i := 0) (j := 1) (q := 96) C rfl rfl (by omega) dX8_told_95 rfl ?_
    have ld_95 := hs.sl
    refine i_iret C hR dX8_told_96 ?_
    have hsp : (sp_told x (absM st bk un ck ty tm tx ln rf)) = (st 2802, absM st bk un ck ty tm tx ln rf) := by
      unfold absM
      simp only [sp_told]
      rw [if_pos (by omega)]
      unfold bo tld
      simp only [rg_len, hs_len]
      rw [e_1_4]
      simp
      try omega
    exact ⟨rf, by rw [hsp], rfl, by rw [hsp] <;> exact rfl, hm.s hN⟩
  by_cases e_1_5 : x = 5
  · skip
    refine i_tsIn (q := 97) 5 C e_1_5 dX8_told_1 (by decide) rfl (by decide) ?_
    refine i_aload_n (j := 0) (q := 98) C rfl rfl dX8_told_97 rfl ?_
    refine i_get (i := 0) (j := 0) (f := 5) (q := 101) C rfl rfl rfl hi_X8_told_X8 (by decide) lk_X8_told_53 rfl dX8_told_98 rfl ?_
    refine i_iret C hR dX8_told_101 ?_
    have hsp : (sp_told x (absM st bk un ck ty tm tx ln rf)) = (tm, absM st bk un ck ty tm tx ln rf) := by
      unfold absM
      simp only [sp_told]
      rw [if_pos (by omega)]
      unfold bo tld
      simp only [rg_len, hs_len]
      rw [e_1_5]
      simp
      try omega
    exact ⟨rf, by rw [hsp], rfl, by rw [hsp] <;> exact rfl, hm.s hN⟩
  by_cases e_1_6 : x = 6
  · skip
    refine i_tsIn (q := 102) 6 C e_1_6 dX8_told_1 (by decide) rfl (by decide) ?_
    refine i_aload_n (j := 0) (q := 103) C rfl rfl dX8_told_102 rfl ?_
    refine i_get (i := 0) (j := 0) (f := 2) (q := 106) C rfl rfl rfl hi_X8_told_X8 (by decide) lk_X8_told_46 rfl dX8_told_103 rfl ?_
    refine i_iret C hR dX8_told_106 ?_
    have hsp : (sp_told x (absM st bk un ck ty tm tx ln rf)) = (un, absM st bk un ck ty tm tx ln rf) := by
      unfold absM
      simp only [sp_told]
      rw [if_pos (by omega)]
      unfold bo tld
      simp only [rg_len, hs_len]
      rw [e_1_6]
      simp
      try omega
    exact ⟨rf, by rw [hsp], rfl, by rw [hsp] <;> exact rfl, hm.s hN⟩
  by_cases e_1_7 : x = 7
  · skip
    refine i_tsIn (q := 107) 7 C e_1_7 dX8_told_1 (by decide) rfl (by decide) ?_
    refine i_aload_n (j := 0) (q := 108) C rfl rfl dX8_told_107 rfl ?_
    refine i_get (i := 0) (j := 0) (f := 7) (q := 111) C rfl rfl rfl hi_X8_told_X8 (by decide) lk_X8_told_56 rfl dX8_told_108 rfl ?_
    refine i_iret C hR dX8_told_111 ?_
    have hsp : (sp_told x (absM st bk un ck ty tm tx ln rf)) = (ln, absM st bk un ck ty tm tx ln rf) := by
      unfold absM
      simp only [sp_told]
      rw [if_pos (by omega)]
      unfold bo tld
      simp only [rg_len, hs_len]
      rw [e_1_7]
      simp
      try omega
    exact ⟨rf, by rw [hsp], rfl, by rw [hsp] <;> exact rfl, hm.s hN⟩
  by_cases e_1_8 : x = 8
  · skip
    refine i_tsIn (q := 112) 8 C e_1_8 dX8_told_1 (by decide) rfl (by decide) ?_
    refine i_aload_n (j := 0) (q := 113) C rfl rfl dX8_told_112 rfl ?_
    refine i_get (i := 0) (j := 0) (f := 8) (q := 116) C rfl rfl rfl hi_X8_told_X8 (by decide) lk_X8_told_23 rfl dX8_told_113 rfl ?_
    refine i_iload_n (j := 1) (q := 117) C rfl rfl dX8_told_116 rfl ?_
    refine i_bipush (q := 119) C (by decide) dX8_told_117 rfl ?_
    refine i_isub (q := 120) C dX8_told_119 rfl ?_
    refine i_iald (i := 0) (j := 5) (q := 121) C rfl rfl (by omega) dX8_told_120 rfl ?_
    refine i_iret C hR dX8_told_121 ?_
    have hsp : (sp_told x (absM st bk un ck ty tm tx ln rf)) = (rf (x - 8), absM st bk un ck ty tm tx ln rf) := by
      unfold absM
      simp only [sp_told]
      rw [if_pos (by omega)]
      unfold bo tld
      simp only [rg_len, hs_len]
      rw [e_1_8]
      simp
      try omega
    exact ⟨rf, by rw [hsp], rfl, by rw [hsp] <;> exact rfl, hm.s hN⟩
  by_cases e_1_9 : x = 9
  · skip
    refine i_tsIn (q := 112) 9 C e_1_9 dX8_told_1 (by decide) rfl (by decide) ?_
    refine i_aload_n (j := 0) (q := 113) C rfl rfl dX8_told_112 rfl ?_
    refine i_get (i := 0) (j := 0) (f := 8) (q := 116) C rfl rfl rfl hi_X8_told_X8 (by decide) lk_X8_told_23 rfl dX8_told_113 rfl ?_
    refine i_iload_n (j := 1) (q := 117) C rfl rfl dX8_told_116 rfl ?_
    refine i_bipush (q := 119) C (by decide) dX8_told_117 rfl ?_
    refine i_isub (q := 120) C dX8_told_119 rfl ?_
    refine i_iald (i := 0) (j := 5) (q := 121) C rfl rfl (by omega) dX8_told_120 rfl ?_
    refine i_iret C hR dX8_told_121 ?_
    have hsp : (sp_told x (absM st bk un ck ty tm tx ln rf)) = (rf (x - 8), absM st bk un ck ty tm tx ln rf) := by
      unfold absM
      simp only [sp_told]
      rw [if_pos (by omega)]
      unfold bo tld
      simp only [rg_len, hs_len]
      rw [e_1_9]
      simp
      try omega
    exact ⟨rf, by rw [hsp], rfl, by rw [hsp] <;> exact rfl, hm.s hN⟩
  by_cases e_1_10 : x = 10
  · skip
    refine i_tsIn (q := 112) 10 C e_1_10 dX8_told_1 (by decide) rfl (by decide) ?_
    refine i_aload_n (j := 0) (q := 113) C rfl rfl dX8_told_112 rfl ?_
    refine i_get (i := 0) (j := 0) (f := 8) (q := 116) C rfl rfl rfl hi_X8_told_X8 (by decide) lk_X8_told_23 rfl dX8_told_113 rfl ?_
    refine i_iload_n (j := 1) (q := 117) C rfl rfl dX8_told_116 rfl ?_
    refine i_bipush (q := 119) C (by decide) dX8_told_117 rfl ?_
    refine i_isub (q := 120) C dX8_told_119 rfl ?_
    refine i_iald (i := 0) (j := 5) (q := 121) C rfl rfl (by omega) dX8_told_120 rfl ?_
    refine i_iret C hR dX8_told_121 ?_
    have hsp : (sp_told x (absM st bk un ck ty tm tx ln rf)) = (rf (x - 8), absM st bk un ck ty tm tx ln rf) := by
      unfold absM
      simp only [sp_told]
      rw [if_pos (by omega)]
      unfold bo tld
      simp only [rg_len, hs_len]
      rw [e_1_10]
      simp
      try omega
    exact ⟨rf, by rw [hsp], rfl, by rw [hsp] <;> exact rfl, hm.s hN⟩
  refine i_tsOut (q := 122) C (by omega) (by omega) dX8_told_1 (by decide) ?_
  refine i_aload_n (j := 0) (q := 123) C rfl rfl dX8_told_122 rfl ?_
  refine i_callV (wr := []) (As := []) (st := []) (i := 0) (j := 0) (q := 126) C (c_X8_bad K l (am) (st) (bk) (un) (ck) (ty) (tm) (tx) (ln) (rf) (dg) (dn) (rk) (pl) (iw) (wd) (wm) (od) (oc) ) gX8_told_X8_bad rfl hd_X8_bad ⟨Nat.le_of_ble_eq_true rfl, Nat.le_of_ble_eq_true rfl⟩ ⟨rfl, rfl⟩ ⟨Nat.le_of_ble_eq_true rfl, Nat.le_of_ble_eq_true rfl⟩ (permBy [0] (by decide) rfl rfl) rfl rfl rfl rfl (Nat.le_of_ble_eq_true rfl) dX8_told_123 rfl (fun v w hq => ?_)
  obtain ⟨rfl, rfl⟩ := hq
  show V X 0 0 126 [(0, vP (am 0)), (1, vI x)] [vI (-2)] [mdW am (st, bk, un, ck, ty, tm, tx, ln, up rf 0 (rf 0 + 1), dg, dn, rk, pl, iw, wd, wm, od, oc)]
  refine i_iret C hR dX8_told_126 ?_
  have hsp : (sp_told x (absM st bk un ck ty tm tx ln rf)) = (-2, aBad (absM st bk un ck ty tm tx ln rf)) := by
    unfold absM
    simp only [sp_told]
    rw [if_neg (by omega)]
  exact ⟨up rf 0 (rf 0 + 1), by rw [hsp], rfl, by rw [hsp] <;> exact absM_bad, okM_bad hm hN⟩
