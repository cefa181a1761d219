theorem lk_X8_begins_7 : Cond.fieldLink RX8 7 (TX8 0).1 (TX8 0).2.1 (TX8 0).2.2.1 ∈ wsX8_begins := List.mem_of_getElem? (i := 1) rfl
theorem hi_X8_begins_X8 : ∀ w ∈ u_ws RX8 TX8 18, w ∈ wsX8_begins := by decide +kernel
theorem lk_X8_begins_53 : Cond.fieldLink RX8 53 (TX8 5).1 (TX8 5).2.1 (TX8 5).2.2.1 ∈ wsX8_begins := List.mem_of_getElem? (i := 2) rfl
theorem lk_X8_begins_17 : Cond.fieldLink RX8 17 (TX8 4).1 (TX8 4).2.1 (TX8 4).2.2.1 ∈ wsX8_begins := List.mem_of_getElem? (i := 3) rfl
set_option maxHeartbeats 400000 in
set_option maxRecDepth 100000 in
theorem c_X8_begins (K : KT) (l : Launch) (am : Nat → Nat) (st : Int → Int) (bk : Int → Int) (un : Int) (ck : Int) (ty : Int → Int) (tm : Int) (tx : Int → Int) (ln : Int) (rf : Int → Int) (dg : Int) (dn : Int → Int) (rk : Int → Int) (pl : Int) (iw : Int) (wd : Int → Int) (wm : Int) (od : Int → Int) (oc : Int) (U : Int) (p : Int) (hs : okS U st) (htm : 0 ≤ tm ∧ tm ≤ 12) (hty : ∀ k, 0 ≤ k → k < tm → 0 ≤ ty k ∧ ty k ≤ 7) (hp : 0 ≤ p ∧ p < st 2800) : Mt K l yX8_begins wsX8_begins ({ frames := 0, cells := 0, slots := 0, locals := 0 }) [vP (am 0), vI p] [mdW am (st, bk, un, ck, ty, tm, tx, ln, rf, dg, dn, rk, pl, iw, wd, wm, od, oc)] 0 0 (fun v w => v = some (vI (if bgs (rg ty tm) (lt st p) = true then 1 else 0)) ∧ w = [mdW am (st, bk, un, ck, ty, tm, tx, ln, rf, dg, dn, rk, pl, iw, wd, wm, od, oc)]) := by
  refine Mt.of (own := RX8) (cc := cX8_begins) (maxL := 4) (ret := (some .boolean)) (lv0 := [(0, vP (am 0)), (1, vI p)]) (by decide) rfl rfl (Nat.le_of_ble_eq_true rfl) rfl (fun X C hR hNm => ?_)
  have hgv := hs.gv
  have k3 := hs.k3 p hp.1 hp.2
  have hbg : bgs (rg ty tm) (lt st p) = true ↔ tm ≤ st (14 * p + 3) ∧ ∀ k, 0 ≤ k → k < tm → st (14 * p + 6 + k) = ty k := bgs_rg (by omega) (by omega)
  refine i_aload_n (j := 0) (q := 1) C rfl rfl dX8_begins_0 rfl ?_
  refine i_get (i := 0) (j := 0) (f := 0) (q := 4) C rfl rfl rfl hi_X8_begins_X8 (by decide) lk_X8_begins_7 rfl dX8_begins_1 rfl ?_
  refine i_bipush (q := 6) C (by decide) dX8_begins_4 rfl ?_
  refine i_iload_n (j := 1) (q := 7) C rfl rfl dX8_begins_6 rfl ?_
  refine i_imul (q := 8) C dX8_begins_7 rfl ?_
  refine i_iconst (q := 9) C dX8_begins_8 rfl ?_
  refine i_iadd (q := 10) C dX8_begins_9 rfl ?_
  refine i_iald (i := 0) (j := 1) (q := 11) C rfl rfl (by omega) dX8_begins_10 rfl ?_
  have ld_10 := hs.k3 p (by omega) (by omega)
  refine i_aload_n (j := 0) (q := 12) C rfl rfl dX8_begins_11 rfl ?_
  refine i_get (i := 0) (j := 0) (f := 5) (q := 15) C rfl rfl rfl hi_X8_begins_X8 (by decide) lk_X8_begins_53 rfl dX8_begins_12 rfl ?_
  refine i_icmp_lt (tgt := 22) (q := 18) C (by omega) (by omega) dX8_begins_15 (by decide) rfl (fun c_15 => ?_) (fun c_15 => ?_)
  · skip
    refine i_iconst (q := 23) C dX8_begins_22 rfl ?_
    refine i_istore_n (q := 24) (lv' := [(2, vI 0), (0, vP (am 0)), (1, vI p)]) C rfl (by decide) rfl dX8_begins_23 rfl ?_
    refine i_iconst (q := 25) C dX8_begins_24 rfl ?_
    refine i_istore_n (q := 26) (lv' := [(3, vI 0), (2, vI 0), (0, vP (am 0)), (1, vI p)]) C rfl (by decide) rfl dX8_begins_25 rfl ?_
    have loop_26 : ∀ (fuel : Nat) (k : Int) (b : Int), ((tm - k).toNat) < fuel → (0 ≤ k ∧ k ≤ tm) → ((b = 1 ∧ tm ≤ st (14 * p + 3) ∧ ∀ j, 0 ≤ j → j < k → st (14 * p + 6 + j) = ty j) ∨ (b = 0 ∧ ¬ (tm ≤ st (14 * p + 3) ∧ ∀ j, 0 ≤ j → j < tm → st (14 * p + 6 + j) = ty j))) → V X 0 0 26 [(0, vP (am 0)), (1, vI p), (2, vI b), (3, vI k)] [] [mdW am (st, bk, un, ck, ty, tm, tx, ln, rf, dg, dn, rk, pl, iw, wd, wm, od, oc)] := by
      intro fuel
      induction fuel with
      | zero => intro k b hz; exact absurd hz (Nat.not_lt_zero _)
      | succ fuel ih_26 =>
        intro k b hfu_26 hk hb
        refine i_iload_n (j := 3) (q := 27) C rfl rfl dX8_begins_26 rfl ?_
        refine i_aload_n (j := 0) (q := 28) C rfl rfl dX8_begins_27 rfl ?_
        refine i_get (i := 0) (j := 0) (f := 5) (q := 31) C rfl rfl rfl hi_X8_begins_X8 (by decide) lk_X8_begins_53 rfl dX8_begins_28 rfl ?_
        refine i_icmp_ge (tgt := 73) (q := 34) C (by omega) (by omega) dX8_begins_31 (by decide) rfl (fun c_31 => ?_) (fun c_31 => ?_)
        · skip
          refine i_iload_n (j := 2) (q := 74) C rfl rfl dX8_begins_73 rfl ?_
          refine i_zret C hR (by omega) dX8_begins_74 ?_
          exact ⟨by
            simp only [Option.some.injEq, Sum.inl.injEq]
            rcases hb with ⟨h1, h2, h3⟩ | ⟨h1, h2⟩
            · rw [if_pos (hbg.mpr ⟨h2, fun j g0 g1 => h3 j g0 (by omega)⟩)]; exact h1
            · rw [if_neg (fun z => h2 (hbg.mp z))]; exact h1, rfl⟩
        · skip
          refine i_iload_n (j := 2) (q := 35) C rfl rfl dX8_begins_34 rfl ?_
          refine i_if_eq (tgt := 73) (q := 38) C (by omega) dX8_begins_35 (by decide) rfl (fun c_35 => ?_) (fun c_35 => ?_)
          · skip
            refine i_iload_n (j := 2) (q := 74) C rfl rfl dX8_begins_73 rfl ?_
            refine i_zret C hR (by omega) dX8_begins_74 ?_
            exact ⟨by
              simp only [Option.some.injEq, Sum.inl.injEq]
              rcases hb with ⟨h1, h2, h3⟩ | ⟨h1, h2⟩
              · rw [if_pos (hbg.mpr ⟨h2, fun j g0 g1 => h3 j g0 (by omega)⟩)]; exact h1
              · rw [if_neg (fun z => h2 (hbg.mp z))]; exact h1, rfl⟩
          · skip
            obtain ⟨hb2, hb3, hb4⟩ : b = 1 ∧ tm ≤ st (14 * p + 3) ∧ ∀ j, 0 ≤ j → j < k → st (14 * p + 6 + j) = ty j := by
              rcases hb with h | h
              · exact h
              · omega
            refine i_aload_n (j := 0) (q := 39) C rfl rfl dX8_begins_38 rfl ?_
            refine i_get (i := 0) (j := 0) (f := 0) (q := 42) C rfl rfl rfl hi_X8_begins_X8 (by decide) lk_X8_begins_7 rfl dX8_begins_39 rfl ?_
            refine i_bipush (q := 44) C (by decide) dX8_begins_42 rfl ?_
            refine i_iload_n (j := 1) (q := 45) C rfl rfl dX8_begins_44 rfl ?_
            refine i_imul (q := 46) C dX8_begins_45 rfl ?_
            refine i_bipush (q := 48) C (by decide) dX8_begins_46 rfl ?_
            refine i_iadd (q := 49) C dX8_begins_48 rfl ?_
            refine i_iload_n (j := 3) (q := 50) C rfl rfl dX8_begins_49 rfl ?_
            refine i_iadd (q := 51) C dX8_begins_50 rfl ?_
            refine i_iald (i := 0) (j := 1) (q := 52) C rfl rfl (by omega) dX8_begins_51 rfl ?_
            have ld_51 := hs.k6 p (by omega) (by omega) k (by omega) (by omega)
            refine i_aload_n (j := 0) (q := 53) C rfl rfl dX8_begins_52 rfl ?_
            refine i_get (i := 0) (j := 0) (f := 4) (q := 56) C rfl rfl rfl hi_X8_begins_X8 (by decide) lk_X8_begins_17 rfl dX8_begins_53 rfl ?_
            refine i_iload_n (j := 3) (q := 57) C rfl rfl dX8_begins_56 rfl ?_
            refine i_iald (i := 0) (j := 3) (q := 58) C rfl rfl (by omega) dX8_begins_57 rfl ?_
            have ld_57 := hty k (by omega) (by omega)
            refine i_icmp_ne (tgt := 65) (q := 61) C (by omega) (by omega) dX8_begins_58 (by decide) rfl (fun c_58 => ?_) (fun c_58 => ?_)
            · skip
              have hnb : ((0 : Int) = 1 ∧ tm ≤ st (14 * p + 3) ∧ ∀ j, 0 ≤ j → j < k + 1 → st (14 * p + 6 + j) = ty j) ∨ ((0 : Int) = 0 ∧ ¬ (tm ≤ st (14 * p + 3) ∧ ∀ j, 0 ≤ j → j < tm → st (14 * p + 6 + j) = ty j)) := Or.inr ⟨rfl, fun h => c_58 (h.2 k (by omega) (by omega))⟩
              refine i_iconst (q := 66) C dX8_begins_65 rfl ?_
              refine i_istore_n (q := 67) (lv' := [(2, vI 0), (0, vP (am 0)), (1, vI p), (3, vI k)]) C rfl (by decide) rfl dX8_begins_66 rfl ?_
              refine i_iinc (j := 3) (q := 70) (lv' := [(3, vI (k + 1)), (2, vI 0), (0, vP (am 0)), (1, vI p)]) C rfl (by decide) rfl dX8_begins_67 rfl ?_
              refine i_goto (q := 26) C dX8_begins_70 (by decide) ?_
              refine V.lv [2, 3, 1, 0] rfl ?_
              exact ih_26 (k + 1) (0) (by omega) (by omega) (hnb)
            · skip
              have hnb : ((1 : Int) = 1 ∧ tm ≤ st (14 * p + 3) ∧ ∀ j, 0 ≤ j → j < k + 1 → st (14 * p + 6 + j) = ty j) ∨ ((1 : Int) = 0 ∧ ¬ (tm ≤ st (14 * p + 3) ∧ ∀ j, 0 ≤ j → j < tm → st (14 * p + 6 + j) = ty j)) := Or.inl ⟨rfl, hb3, fun j g0 g1 => by
                by_cases e : j = k
                · subst e; exact c_58
                · exact hb4 j g0 (by omega)⟩
              refine i_iconst (q := 62) C dX8_begins_61 rfl ?_
              refine i_goto (q := 66) C dX8_begins_62 (by decide) ?_
              refine i_istore_n (q := 67) (lv' := [(2, vI 1), (0, vP (am 0)), (1, vI p), (3, vI k)]) C rfl (by decide) rfl dX8_begins_66 rfl ?_
              refine i_iinc (j := 3) (q := 70) (lv' := [(3, vI (k + 1)), (2, vI 1), (0, vP (am 0)), (1, vI p)]) C rfl (by decide) rfl dX8_begins_67 rfl ?_
              refine i_goto (q := 26) C dX8_begins_70 (by decide) ?_
              refine V.lv [2, 3, 1, 0] rfl ?_
              exact ih_26 (k + 1) (1) (by omega) (by omega) (hnb)
    refine V.lv [2, 3, 1, 0] rfl ?_
    exact loop_26 _ (0) (0) (Nat.lt_succ_self _) (by omega) (by first | exact Or.inl ⟨rfl, by omega, fun j _ _ => by omega⟩ | exact Or.inr ⟨rfl, fun h => by omega⟩)
  · skip
    refine i_iconst (q := 19) C dX8_begins_18 rfl ?_
    refine i_goto (q := 23) C dX8_begins_19 (by decide) ?_
    refine i_istore_n (q := 24) (lv' := [(2, vI 1), (0, vP (am 0)), (1, vI p)]) C rfl (by decide) rfl dX8_begins_23 rfl ?_
    refine i_iconst (q := 25) C dX8_begins_24 rfl ?_
    refine i_istore_n (q := 26) (lv' := [(3, vI 0), (2, vI 1), (0, vP (am 0)), (1, vI p)]) C rfl (by decide) rfl dX8_begins_25 rfl ?_
    have loop_26 : ∀ (fuel : Nat) (k : Int) (b : Int), ((tm - k).toNat) < fuel → (0 ≤ k ∧ k ≤ tm) → ((b = 1 ∧ tm ≤ st (14 * p + 3) ∧ ∀ j, 0 ≤ j → j < k → st (14 * p + 6 + j) = ty j) ∨ (b = 0 ∧ ¬ (tm ≤ st (14 * p + 3) ∧ ∀ j, 0 ≤ j → j < tm → st (14 * p + 6 + j) = ty j))) → V X 0 0 26 [(0, vP (am 0)), (1, vI p), (2, vI b), (3, vI k)] [] [mdW am (st, bk, un, ck, ty, tm, tx, ln, rf, dg, dn, rk, pl, iw, wd, wm, od, oc)] := by
      intro fuel
      induction fuel with
      | zero => intro k b hz; exact absurd hz (Nat.not_lt_zero _)
      | succ fuel ih_26 =>
        intro k b hfu_26 hk hb
        refine i_iload_n (j := 3) (q := 27) C rfl rfl dX8_begins_26 rfl ?_
        refine i_aload_n (j := 0) (q := 28) C rfl rfl dX8_begins_27 rfl ?_
        refine i_get (i := 0) (j := 0) (f := 5) (q := 31) C rfl rfl rfl hi_X8_begins_X8 (by decide) lk_X8_begins_53 rfl dX8_begins_28 rfl ?_
        refine i_icmp_ge (tgt := 73) (q := 34) C (by omega) (by omega) dX8_begins_31 (by decide) rfl (fun c_31 => ?_) (fun c_31 => ?_)
        · skip
          refine i_iload_n (j := 2) (q := 74) C rfl rfl dX8_begins_73 rfl ?_
          refine i_zret C hR (by omega) dX8_begins_74 ?_
          exact ⟨by
            simp only [Option.some.injEq, Sum.inl.injEq]
            rcases hb with ⟨h1, h2, h3⟩ | ⟨h1, h2⟩
            · rw [if_pos (hbg.mpr ⟨h2, fun j g0 g1 => h3 j g0 (by omega)⟩)]; exact h1
            · rw [if_neg (fun z => h2 (hbg.mp z))]; exact h1, rfl⟩
        · skip
          refine i_iload_n (j := 2) (q := 35) C rfl rfl dX8_begins_34 rfl ?_
          refine i_if_eq (tgt := 73) (q := 38) C (by omega) dX8_begins_35 (by decide) rfl (fun c_35 => ?_) (fun c_35 => ?_)
          · skip
            refine i_iload_n (j := 2) (q := 74) C rfl rfl dX8_begins_73 rfl ?_
            refine i_zret C hR (by omega) dX8_begins_74 ?_
            exact ⟨by
              simp only [Option.some.injEq, Sum.inl.injEq]
              rcases hb with ⟨h1, h2, h3⟩ | ⟨h1, h2⟩
              · rw [if_pos (hbg.mpr ⟨h2, fun j g0 g1 => h3 j g0 (by omega)⟩)]; exact h1
              · rw [if_neg (fun z => h2 (hbg.mp z))]; exact h1, rfl⟩
          · skip
            obtain ⟨hb2, hb3, hb4⟩ : b = 1 ∧ tm ≤ st (14 * p + 3) ∧ ∀ j, 0 ≤ j → j < k → st (14 * p + 6 + j) = ty j := by
              rcases hb with h | h
              · exact h
              · omega
            refine i_aload_n (j := 0) (q := 39) C rfl rfl dX8_begins_38 rfl ?_
            refine i_get (i := 0) (j := 0) (f := 0) (q := 42) C rfl rfl rfl hi_X8_begins_X8 (by decide) lk_X8_begins_7 rfl dX8_begins_39 rfl ?_
            refine i_bipush (q := 44) C (by decide) dX8_begins_42 rfl ?_
            refine i_iload_n (j := 1) (q := 45) C rfl rfl dX8_begins_44 rfl ?_
            refine i_imul (q := 46) C dX8_begins_45 rfl ?_
            refine i_bipush (q := 48) C (by decide) dX8_begins_46 rfl ?_
            refine i_iadd (q := 49) C dX8_begins_48 rfl ?_
            refine i_iload_n (j := 3) (q := 50) C rfl rfl dX8_begins_49 rfl ?_
            refine i_iadd (q := 51) C dX8_begins_50 rfl ?_
            refine i_iald (i := 0) (j := 1) (q := 52) C rfl rfl (by omega) dX8_begins_51 rfl ?_
            have ld_51 := hs.k6 p (by omega) (by omega) k (by omega) (by omega)
            refine i_aload_n (j := 0) (q := 53) C rfl rfl dX8_begins_52 rfl ?_
            refine i_get (i := 0) (j := 0) (f := 4) (q := 56) C rfl rfl rfl hi_X8_begins_X8 (by decide) lk_X8_begins_17 rfl dX8_begins_53 rfl ?_
            refine i_iload_n (j := 3) (q := 57) C rfl rfl dX8_begins_56 rfl ?_
            refine i_iald (i := 0) (j := 3) (q := 58) C rfl rfl (by omega) dX8_begins_57 rfl ?_
            have ld_57 := hty k (by omega) (by omega)
            refine i_icmp_ne (tgt := 65) (q := 61) C (by omega) (by omega) dX8_begins_58 (by decide) rfl (fun c_58 => ?_) (fun c_58 => ?_)
            · skip
              have hnb : ((0 : Int) = 1 ∧ tm ≤ st (14 * p + 3) ∧ ∀ j, 0 ≤ j → j < k + 1 → st (14 * p + 6 + j) = ty j) ∨ ((0 : Int) = 0 ∧ ¬ (tm ≤ st (14 * p + 3) ∧ ∀ j, 0 ≤ j → j < tm → st (14 * p + 6 + j) = ty j)) := Or.inr ⟨rfl, fun h => c_58 (h.2 k (by omega) (by omega))⟩
              refine i_iconst (q := 66) C dX8_begins_65 rfl ?_
              refine i_istore_n (q := 67) (lv' := [(2, vI 0), (0, vP (am 0)), (1, vI p), (3, vI k)]) C rfl (by decide) rfl dX8_begins_66 rfl ?_
              refine i_iinc (j := 3) (q := 70) (lv' := [(3, vI (k + 1)), (2, vI 0), (0, vP (am 0)), (1, vI p)]) C rfl (by decide) rfl dX8_begins_67 rfl ?_
              refine i_goto (q := 26) C dX8_begins_70 (by decide) ?_
              refine V.lv [2, 3, 1, 0] rfl ?_
              exact ih_26 (k + 1) (0) (by omega) (by omega) (hnb)
            · skip
              have hnb : ((1 : Int) = 1 ∧ tm ≤ st (14 * p + 3) ∧ ∀ j, 0 ≤ j → j < k + 1 → st (14 * p + 6 + j) = ty j) ∨ ((1 : Int) = 0 ∧ ¬ (tm ≤ st (14 * p + 3) ∧ ∀ j, 0 ≤ j → j < tm → st (14 * p + 6 + j) = ty j)) := Or.inl ⟨rfl, hb3, fun j g0 g1 => by
                by_cases e : j = k
                · subst e; exact c_58
                · exact hb4 j g0 (by omega)⟩
              refine i_iconst (q := 62) C dX8_begins_61 rfl ?_
              refine i_goto (q := 66) C dX8_begins_62 (by decide) ?_
              refine i_istore_n (q := 67) (lv' := [(2, vI 1), (0, vP (am 0)), (1, vI p), (3, vI k)]) C rfl (by decide) rfl dX8_begins_66 rfl ?_
              refine i_iinc (j := 3) (q := 70) (lv' := [(3, vI (k + 1)), (2, vI 1), (0, vP (am 0)), (1, vI p)]) C rfl (by decide) rfl dX8_begins_67 rfl ?_
              refine i_goto (q := 26) C dX8_begins_70 (by decide) ?_
              refine V.lv [2, 3, 1, 0] rfl ?_
              exact ih_26 (k + 1) (1) (by omega) (by omega) (hnb)
    refine V.lv [2, 3, 1, 0] rfl ?_
    exact loop_26 _ (0) (1) (Nat.lt_succ_self _) (by omega) (by first | exact Or.inl ⟨rfl, by omega, fun j _ _ => by omega⟩ | exact Or.inr ⟨rfl, fun h => by omega⟩)

theorem lk_X8_sameOf_7 : Cond.fieldLink RX8 7 (TX8 0).1 (TX8 0).2.1 (TX8 0).2.2.1 ∈ wsX8_sameOf := List.mem_of_getElem? (i := 1) rfl
theorem hi_X8_sameOf_X8 : ∀ w ∈ u_ws RX8 TX8 18, w ∈ wsX8_sameOf := by decide +kernel
set_option maxHeartbeats 400000 in
set_option maxRecDepth 100000 in
theorem c_X8_sameOf (K : KT) (l : Launch) (am : Nat → Nat) (st : Int → Int) (bk : Int → Int) (un : Int) (ck : Int) (ty : Int → Int) (tm : Int) (tx : Int → Int) (ln : Int) (rf : Int → Int) (dg : Int) (dn : Int → Int) (rk : Int → Int) (pl : Int) (iw : Int) (wd : Int → Int) (wm : Int) (od : Int → Int) (oc : Int) (U : Int) (p : Int) (r : Int) (hs : okS U st) (hp : 0 ≤ p ∧ p < st 2800) (hr : 0 ≤ r ∧ r < st 2800) : Mt K l yX8_sameOf wsX8_sameOf ({ frames := 0, cells := 0, slots := 0, locals := 0 }) [vP (am 0), vI p, vI r] [mdW am (st, bk, un, ck, ty, tm, tx, ln, rf, dg, dn, rk, pl, iw, wd, wm, od, oc)] 0 0 (fun v w => v = some (vI ((cp (lt st p) (lt st r) : Int))) ∧ w = [mdW am (st, bk, un, ck, ty, tm, tx, ln, rf, dg, dn, rk, pl, iw, wd, wm, od, oc)]) := by
  refine Mt.of (own := RX8) (cc := cX8_sameOf) (maxL := 4) (ret := (some .int)) (lv0 := [(0, vP (am 0)), (1, vI p), (2, vI r)]) (by decide) rfl rfl (Nat.le_of_ble_eq_true rfl) rfl (fun X C hR hNm => ?_)
  have hgv := hs.gv
  have k3 := hs.k3 p hp.1 hp.2
  have k3r := hs.k3 r hr.1 hr.2
  refine i_iconst (q := 1) C dX8_sameOf_0 rfl ?_
  refine i_istore_n (q := 2) (lv' := [(3, vI 0), (0, vP (am 0)), (1, vI p), (2, vI r)]) C rfl (by decide) rfl dX8_sameOf_1 rfl ?_
  have loop_2 : ∀ (fuel : Nat) (n : Int), ((st (14 * p + 3) - n).toNat) < fuel → (0 ≤ n ∧ n ≤ st (14 * p + 3) ∧ n ≤ st (14 * r + 3)) → (∀ k, 0 ≤ k → k < n → st (14 * p + 6 + k) = st (14 * r + 6 + k)) → V X 0 0 2 [(0, vP (am 0)), (1, vI p), (2, vI r), (3, vI n)] [] [mdW am (st, bk, un, ck, ty, tm, tx, ln, rf, dg, dn, rk, pl, iw, wd, wm, od, oc)] := by
    intro fuel
    induction fuel with
    | zero => intro n hz; exact absurd hz (Nat.not_lt_zero _)
    | succ fuel ih_2 =>
      intro n hfu_2 hn he
      refine i_iload_n (j := 3) (q := 3) C rfl rfl dX8_sameOf_2 rfl ?_
      refine i_aload_n (j := 0) (q := 4) C rfl rfl dX8_sameOf_3 rfl ?_
      refine i_get (i := 0) (j := 0) (f := 0) (q := 7) C rfl rfl rfl hi_X8_sameOf_X8 (by decide) lk_X8_sameOf_7 rfl dX8_sameOf_4 rfl ?_
      refine i_bipush (q := 9) C (by decide) dX8_sameOf_7 rfl ?_
      refine i_iload_n (j := 1) (q := 10) C rfl rfl dX8_sameOf_9 rfl ?_
      refine i_imul (q := 11) C dX8_sameOf_10 rfl ?_
      refine i_iconst (q := 12) C dX8_sameOf_11 rfl ?_
      refine i_iadd (q := 13) C dX8_sameOf_12 rfl ?_
      refine i_iald (i := 0) (j := 1) (q := 14) C rfl rfl (by omega) dX8_sameOf_13 rfl ?_
      have ld_13 := hs.k3 p (by omega) (by omega)
      refine i_icmp_ge (tgt := 69) (q := 17) C (by omega) (by omega) dX8_sameOf_14 (by decide) rfl (fun c_14 => ?_) (fun c_14 => ?_)
      · skip
        refine i_iload_n (j := 3) (q := 70) C rfl rfl dX8_sameOf_69 rfl ?_
        refine i_iret C hR dX8_sameOf_70 ?_
        exact ⟨by
          have := cp_rg (f := fun k => st (14 * p + 6 + k)) (g := fun k => st (14 * r + 6 + k)) (a := st (14 * p + 3)) (b := st (14 * r + 3)) hn.1 hn.2.1 hn.2.2 he (by first | exact Or.inl (by omega) | exact Or.inr (Or.inl (by omega)) | exact Or.inr (Or.inr c_60))
          exact congrArg (fun z => some (vI z)) this.symm, rfl⟩
      · skip
        refine i_iload_n (j := 3) (q := 18) C rfl rfl dX8_sameOf_17 rfl ?_
        refine i_aload_n (j := 0) (q := 19) C rfl rfl dX8_sameOf_18 rfl ?_
        refine i_get (i := 0) (j := 0) (f := 0) (q := 22) C rfl rfl rfl hi_X8_sameOf_X8 (by decide) lk_X8_sameOf_7 rfl dX8_sameOf_19 rfl ?_
        refine i_bipush (q := 24) C (by decide) dX8_sameOf_22 rfl ?_
        refine i_iload_n (j := 2) (q := 25) C rfl rfl dX8_sameOf_24 rfl ?_
        refine i_imul (q := 26) C dX8_sameOf_25 rfl ?_
        refine i_iconst (q := 27) C dX8_sameOf_26 rfl ?_
        refine i_iadd (q := 28) C dX8_sameOf_27 rfl ?_
        refine i_iald (i := 0) (j := 1) (q := 29) C rfl rfl (by omega) dX8_sameOf_28 rfl ?_
        have ld_28 := hs.k3 r (by omega) (by omega)
        refine i_icmp_ge (tgt := 69) (q := 32) C (by omega) (by omega) dX8_sameOf_29 (by decide) rfl (fun c_29 => ?_) (fun c_29 => ?_)
        · skip
          refine i_iload_n (j := 3) (q := 70) C rfl rfl dX8_sameOf_69 rfl ?_
          refine i_iret C hR dX8_sameOf_70 ?_
          exact ⟨by
            have := cp_rg (f := fun k => st (14 * p + 6 + k)) (g := fun k => st (14 * r + 6 + k)) (a := st (14 * p + 3)) (b := st (14 * r + 3)) hn.1 hn.2.1 hn.2.2 he (by first | exact Or.inl (by omega) | exact Or.inr (Or.inl (by omega)) | exact Or.inr (Or.inr c_60))
            exact congrArg (fun z => some (vI z)) this.symm, rfl⟩
        · skip
          refine i_aload_n (j := 0) (q := 33) C rfl rfl dX8_sameOf_32 rfl ?_
          refine i_get (i := 0) (j := 0) (f := 0) (q := 36) C rfl rfl rfl hi_X8_sameOf_X8 (by decide) lk_X8_sameOf_7 rfl dX8_sameOf_33 rfl ?_
          refine i_bipush (q := 38) C (by decide) dX8_sameOf_36 rfl ?_
          refine i_iload_n (j := 1) (q := 39) C rfl rfl dX8_sameOf_38 rfl ?_
          refine i_imul (q := 40) C dX8_sameOf_39 rfl ?_
          refine i_bipush (q := 42) C (by decide) dX8_sameOf_40 rfl ?_
          refine i_iadd (q := 43) C dX8_sameOf_42 rfl ?_
          refine i_iload_n (j := 3) (q := 44) C rfl rfl dX8_sameOf_43 rfl ?_
          refine i_iadd (q := 45) C dX8_sameOf_44 rfl ?_
          refine i_iald (i := 0) (j := 1) (q := 46) C rfl rfl (by omega) dX8_sameOf_45 rfl ?_
          have ld_45 := hs.k6 p (by omega) (by omega) n (by omega) (by omega)
          refine i_aload_n (j := 0) (q := 47) C rfl rfl dX8_sameOf_46 rfl ?_
          refine i_get (i := 0) (j := 0) (f := 0) (q := 50) C rfl rfl rfl hi_X8_sameOf_X8 (by decide) lk_X8_sameOf_7 rfl dX8_sameOf_47 rfl ?_
          refine i_bipush (q := 52) C (by decide) dX8_sameOf_50 rfl ?_
          refine i_iload_n (j := 2) (q := 53) C rfl rfl dX8_sameOf_52 rfl ?_
          refine i_imul (q := 54) C dX8_sameOf_53 rfl ?_
          refine i_bipush (q := 56) C (by decide) dX8_sameOf_54 rfl ?_
          refine i_iadd (q := 57) C dX8_sameOf_56 rfl ?_
          refine i_iload_n (j := 3) (q := 58) C rfl rfl dX8_sameOf_57 rfl ?_
          refine i_iadd (q := 59) C dX8_sameOf_58 rfl ?_
          refine i_iald (i := 0) (j := 1) (q := 60) C rfl rfl (by omega) dX8_sameOf_59 rfl ?_
          have ld_59 := hs.k6 r (by omega) (by omega) n (by omega) (by omega)
          refine i_icmp_ne (tgt := 69) (q := 63) C (by omega) (by omega) dX8_sameOf_60 (by decide) rfl (fun c_60 => ?_) (fun c_60 => ?_)
          · skip
            refine i_iload_n (j := 3) (q := 70) C rfl rfl dX8_sameOf_69 rfl ?_
            refine i_iret C hR dX8_sameOf_70 ?_
            exact ⟨by
              have := cp_rg (f := fun k => st (14 * p + 6 + k)) (g := fun k => st (14 * r + 6 + k)) (a := st (14 * p + 3)) (b := st (14 * r + 3)) hn.1 hn.2.1 hn.2.2 he (by first | exact Or.inl (by omega) | exact Or.inr (Or.inl (by omega)) | exact Or.inr (Or.inr c_60))
              exact congrArg (fun z => some (vI z)) this.symm, rfl⟩
          · skip
            refine i_iinc (j := 3) (q := 66) (lv' := [(3, vI (n + 1)), (0, vP (am 0)), (1, vI p), (2, vI r)]) C rfl (by decide) rfl dX8_sameOf_63 rfl ?_
            refine i_goto (q := 2) C dX8_sameOf_66 (by decide) ?_
            refine V.lv [1, 2, 3, 0] rfl ?_
            exact ih_2 (n + 1) (by omega) (by omega) (fun k g0 g1 => by
              by_cases e : k = n
              · subst e; exact c_60
              · exact he k g0 (by omega))
  refine V.lv [1, 2, 3, 0] rfl ?_
  exact loop_2 _ (0) (Nat.lt_succ_self _) (by omega) (fun k _ _ => by omega)

theorem lk_X8_becomes_53 : Cond.fieldLink RX8 53 (TX8 5).1 (TX8 5).2.1 (TX8 5).2.2.1 ∈ wsX8_becomes := List.mem_of_getElem? (i := 1) rfl
theorem hi_X8_becomes_X8 : ∀ w ∈ u_ws RX8 TX8 18, w ∈ wsX8_becomes := by decide +kernel
theorem lk_X8_becomes_7 : Cond.fieldLink RX8 7 (TX8 0).1 (TX8 0).2.1 (TX8 0).2.2.1 ∈ wsX8_becomes := List.mem_of_getElem? (i := 2) rfl
theorem lk_X8_becomes_17 : Cond.fieldLink RX8 17 (TX8 4).1 (TX8 4).2.1 (TX8 4).2.2.1 ∈ wsX8_becomes := List.mem_of_getElem? (i := 3) rfl
set_option maxHeartbeats 400000 in
set_option maxRecDepth 100000 in
theorem c_X8_becomes (K : KT) (l : Launch) (am : Nat → Nat) (st : Int → Int) (bk : Int → Int) (un : Int) (ck : Int) (ty : Int → Int) (tm : Int) (tx : Int → Int) (ln : Int) (rf : Int → Int) (dg : Int) (dn : Int → Int) (rk : Int → Int) (pl : Int) (iw : Int) (wd : Int → Int) (wm : Int) (od : Int → Int) (oc : Int) (U : Int) (p : Int) (n : Int) (hs : okS U st) (htm : 0 ≤ tm ∧ tm ≤ 12) (hty : ∀ k, 0 ≤ k → k < tm → 0 ≤ ty k ∧ ty k ≤ 7) (hp : 0 ≤ p ∧ p < st 2800) (hn : 0 ≤ n ∧ n ≤ st (14 * p + 3)) : Mt K l yX8_becomes wsX8_becomes ({ frames := 0, cells := 0, slots := 0, locals := 0 }) [vP (am 0), vI p, vI n] [mdW am (st, bk, un, ck, ty, tm, tx, ln, rf, dg, dn, rk, pl, iw, wd, wm, od, oc)] 0 0 (fun v w => v = some (vI (if bec (rg (fun k => st (14 * p + 6 + k)) n) (rg ty tm) = true then 1 else 0)) ∧ w = [mdW am (st, bk, un, ck, ty, tm, tx, ln, rf, dg, dn, rk, pl, iw, wd, wm, od, oc)]) := by
  refine Mt.of (own := RX8) (cc := cX8_becomes) (maxL := 8) (ret := (some .boolean)) (lv0 := [(0, vP (am 0)), (1, vI p), (2, vI n)]) (by decide) rfl rfl (Nat.le_of_ble_eq_true rfl) rfl (fun X C hR hNm => ?_)
  have hgv := hs.gv
  have k3 := hs.k3 p hp.1 hp.2
  refine i_aload_n (j := 0) (q := 1) C rfl rfl dX8_becomes_0 rfl ?_
  refine i_get (i := 0) (j := 0) (f := 5) (q := 4) C rfl rfl rfl hi_X8_becomes_X8 (by decide) lk_X8_becomes_53 rfl dX8_becomes_1 rfl ?_
  refine i_iload_n (j := 2) (q := 5) C rfl rfl dX8_becomes_4 rfl ?_
  refine i_isub (q := 6) C dX8_becomes_5 rfl ?_
  refine i_istore_n (q := 7) (lv' := [(3, vI (tm - n)), (0, vP (am 0)), (1, vI p), (2, vI n)]) C rfl (by decide) rfl dX8_becomes_6 rfl ?_
  refine i_iload_n (j := 0) (q := 8) C rfl rfl dX8_becomes_7 rfl ?_
  refine i_iconst (q := 9) C dX8_becomes_8 rfl ?_
  refine i_icmp_lt (tgt := 17) (q := 12) C (by omega) (by omega) dX8_becomes_9 (by decide) rfl (fun c_9 => ?_) (fun c_9 => ?_)
  · skip
    refine i_iconst (q := 18) C dX8_becomes_17 rfl ?_
    refine i_zret C hR (by omega) dX8_becomes_18 ?_
    exact ⟨by
      simp only [Option.some.injEq, Sum.inl.injEq]
      rw [if_neg]
      intro z
      have hcl := cp_le (rg (fun k => st (14 * p + 6 + k)) n) (rg ty tm)
      have := ((bec_rg (f := (fun k => st (14 * p + 6 + k))) (g := ty) (n := n) (m := tm) hn.1 htm.1 rfl).mp z).1
      omega, rfl⟩
  · skip
    refine i_iload_n (j := 0) (q := 13) C rfl rfl dX8_becomes_12 rfl ?_
    refine i_iconst (q := 14) C dX8_becomes_13 rfl ?_
    refine i_icmp_le (tgt := 19) (q := 17) C (by omega) (by omega) dX8_becomes_14 (by decide) rfl (fun c_14 => ?_) (fun c_14 => ?_)
    · skip
      refine i_bipush (q := 21) C (by decide) dX8_becomes_19 rfl ?_
      refine i_iload_n (j := 2) (q := 22) C rfl rfl dX8_becomes_21 rfl ?_
      refine i_imul (q := 23) C dX8_becomes_22 rfl ?_
      refine i_bipush (q := 25) C (by decide) dX8_becomes_23 rfl ?_
      refine i_iadd (q := 26) C dX8_becomes_25 rfl ?_
      refine i_istore (q := 28) (lv' := [(4, vI ((14 * p) + 6)), (3, vI (tm - n)), (0, vP (am 0)), (1, vI p), (2, vI n)]) C (by decide) rfl dX8_becomes_26 rfl ?_
      refine i_iconst (q := 29) C dX8_becomes_28 rfl ?_
      refine i_istore (q := 31) (lv' := [(5, vI 0), (4, vI ((14 * p) + 6)), (3, vI (tm - n)), (0, vP (am 0)), (1, vI p), (2, vI n)]) C (by decide) rfl dX8_becomes_29 rfl ?_
      have join_72 : ∀ (k : Int), (0 ≤ k ∧ k ≤ n ∧ k ≤ tm) → (∀ j, 0 ≤ j → j < k → st (14 * p + 6 + j) = ty j) → (k = n ∨ k = tm ∨ st (14 * p + 6 + k) ≠ ty k) → V X 0 0 72 [(0, vP (am 0)), (1, vI p), (2, vI n), (3, vI (tm - n)), (4, vI ((14 * p) + 6)), (5, vI k)] [] [mdW am (st, bk, un, ck, ty, tm, tx, ln, rf, dg, dn, rk, pl, iw, wd, wm, od, oc)] := by
        intro k hk he hst
        have hcp : (cp (rg (fun k => st (14 * p + 6 + k)) n) (rg ty tm) : Int) = k := cp_rg hk.1 hk.2.1 hk.2.2 he hst
        have hbx := bec_rg (f := (fun k => st (14 * p + 6 + k))) (g := ty) (n := n) (m := tm) (k := k) hn.1 htm.1 hcp
        refine i_iload_n (j := 3) (q := 73) C rfl rfl dX8_becomes_72 rfl ?_
        refine i_if_ne (tgt := 84) (q := 76) C (by omega) dX8_becomes_73 (by decide) rfl (fun c_73 => ?_) (fun c_73 => ?_)
        · skip
          refine i_iload (j := 5) (q := 86) C rfl dX8_becomes_84 rfl ?_
          refine i_iload_n (j := 3) (q := 87) C rfl rfl dX8_becomes_86 rfl ?_
          refine i_iconst (q := 88) C dX8_becomes_87 rfl ?_
          refine i_icmp_ne (tgt := 95) (q := 91) C (by omega) (by omega) dX8_becomes_88 (by decide) rfl (fun c_88 => ?_) (fun c_88 => ?_)
          · skip
            refine i_iconst (q := 96) C dX8_becomes_95 rfl ?_
            refine i_iadd (q := 97) C dX8_becomes_96 rfl ?_
            refine i_istore (q := 99) (lv' := [(6, vI (k + 1)), (0, vP (am 0)), (1, vI p), (2, vI n), (3, vI (tm - n)), (4, vI ((14 * p) + 6)), (5, vI k)]) C (by decide) rfl dX8_becomes_97 rfl ?_
            refine i_iload (j := 6) (q := 101) C rfl dX8_becomes_99 rfl ?_
            refine i_iload_n (j := 4) (q := 102) C rfl rfl dX8_becomes_101 rfl ?_
            refine i_iconst (q := 103) C dX8_becomes_102 rfl ?_
            refine i_icmp_ne (tgt := 110) (q := 106) C (by omega) (by omega) dX8_becomes_103 (by decide) rfl (fun c_103 => ?_) (fun c_103 => ?_)
            · skip
              refine i_iconst (q := 111) C dX8_becomes_110 rfl ?_
              refine i_iadd (q := 112) C dX8_becomes_111 rfl ?_
              refine i_istore (q := 114) (lv' := [(7, vI (k + 1)), (6, vI (k + 1)), (0, vP (am 0)), (1, vI p), (2, vI n), (3, vI (tm - n)), (4, vI ((14 * p) + 6)), (5, vI k)]) C (by decide) rfl dX8_becomes_112 rfl ?_
              have join_158 : ∀ (i : Int) (j : Int), (k + (if tm - n = 1 then 0 else 1) ≤ i ∧ i ≤ n ∧ j = i + (tm - n)) → (∀ e, k + (if tm - n = 1 then 0 else 1) ≤ e → e < i → st (14 * p + 6 + e) = ty (e + (tm - n))) → (i = n ∨ st (14 * p + 6 + i) ≠ ty j) → V X 0 0 158 [(0, vP (am 0)), (1, vI p), (2, vI n), (3, vI (tm - n)), (4, vI ((14 * p) + 6)), (5, vI k), (6, vI i), (7, vI j)] [] [mdW am (st, bk, un, ck, ty, tm, tx, ln, rf, dg, dn, rk, pl, iw, wd, wm, od, oc)] := by
                intro i j hi hd hst2
                refine i_iload (j := 6) (q := 160) C rfl dX8_becomes_158 rfl ?_
                refine i_iload_n (j := 2) (q := 161) C rfl rfl dX8_becomes_160 rfl ?_
                refine i_icmp_ne (tgt := 177) (q := 164) C (by omega) (by omega) dX8_becomes_161 (by decide) rfl (fun c_161 => ?_) (fun c_161 => ?_)
                · skip
                  refine i_iconst (q := 178) C dX8_becomes_177 rfl ?_
                  refine i_zret C hR (by omega) dX8_becomes_178 ?_
                  exact ⟨by
                    simp only [Option.some.injEq, Sum.inl.injEq]
                    rw [if_neg]
                    intro z
                    rcases hst2 with h | h
                    · exact c_161 h
                    · have := (hbx.mp z).2.2 i hi.1 (by omega)
                      exact h (by rw [hi.2.2]; exact this), rfl⟩
                · skip
                  refine i_iload (j := 7) (q := 166) C rfl dX8_becomes_164 rfl ?_
                  refine i_aload_n (j := 0) (q := 167) C rfl rfl dX8_becomes_166 rfl ?_
                  refine i_get (i := 0) (j := 0) (f := 5) (q := 170) C rfl rfl rfl hi_X8_becomes_X8 (by decide) lk_X8_becomes_53 rfl dX8_becomes_167 rfl ?_
                  refine i_icmp_ne (tgt := 177) (q := 173) C (by omega) (by omega) dX8_becomes_170 (by decide) rfl (fun c_170 => ?_) (fun c_170 => ?_)
                  · skip
                    refine i_iconst (q := 178) C dX8_becomes_177 rfl ?_
                    refine i_zret C hR (by omega) dX8_becomes_178 ?_
                    exact ⟨by
                      simp only [Option.some.injEq, Sum.inl.injEq]
                      omega, rfl⟩
                  · skip
                    refine i_iconst (q := 174) C dX8_becomes_173 rfl ?_
                    refine i_goto (q := 178) C dX8_becomes_174 (by decide) ?_
                    refine i_zret C hR (by omega) dX8_becomes_178 ?_
                    exact ⟨by
                      simp only [Option.some.injEq, Sum.inl.injEq]
                      rw [if_pos]
                      refine hbx.mpr ⟨by omega, fun e => ?_, fun e g0 g1 => hd e g0 (by omega)⟩
                      first | omega | (intro z; omega), rfl⟩
              have loop_114 : ∀ (fuel : Nat) (i : Int) (j : Int), ((n - i).toNat) < fuel → (k + (if tm - n = 1 then 0 else 1) ≤ i ∧ i ≤ n ∧ j = i + (tm - n)) → (∀ e, k + (if tm - n = 1 then 0 else 1) ≤ e → e < i → st (14 * p + 6 + e) = ty (e + (tm - n))) → V X 0 0 114 [(0, vP (am 0)), (1, vI p), (2, vI n), (3, vI (tm - n)), (4, vI ((14 * p) + 6)), (5, vI k), (6, vI i), (7, vI j)] [] [mdW am (st, bk, un, ck, ty, tm, tx, ln, rf, dg, dn, rk, pl, iw, wd, wm, od, oc)] := by
                intro fuel
                induction fuel with
                | zero => intro i j hz; exact absurd hz (Nat.not_lt_zero _)
                | succ fuel ih_114 =>
                  intro i j hfu_114 hi hd
                  refine i_iload (j := 6) (q := 116) C rfl dX8_becomes_114 rfl ?_
                  refine i_iload_n (j := 2) (q := 117) C rfl rfl dX8_becomes_116 rfl ?_
                  refine i_icmp_ge (tgt := 158) (q := 120) C (by omega) (by omega) dX8_becomes_117 (by decide) rfl (fun c_117 => ?_) (fun c_117 => ?_)
                  · skip
                    exact join_158 (i) (j) (hi) (hd) (by first | exact Or.inl (by omega) | exact Or.inr c_146)
                  · skip
                    refine i_iload (j := 7) (q := 122) C rfl dX8_becomes_120 rfl ?_
                    refine i_aload_n (j := 0) (q := 123) C rfl rfl dX8_becomes_122 rfl ?_
                    refine i_get (i := 0) (j := 0) (f := 5) (q := 126) C rfl rfl rfl hi_X8_becomes_X8 (by decide) lk_X8_becomes_53 rfl dX8_becomes_123 rfl ?_
                    refine i_icmp_ge (tgt := 158) (q := 129) C (by omega) (by omega) dX8_becomes_126 (by decide) rfl (fun c_126 => ?_) (fun c_126 => ?_)
                    · skip
                      exact join_158 (i) (j) (hi) (hd) (by first | exact Or.inl (by omega) | exact Or.inr c_146)
                    · skip
                      refine i_aload_n (j := 0) (q := 130) C rfl rfl dX8_becomes_129 rfl ?_
                      refine i_get (i := 0) (j := 0) (f := 0) (q := 133) C rfl rfl rfl hi_X8_becomes_X8 (by decide) lk_X8_becomes_7 rfl dX8_becomes_130 rfl ?_
                      refine i_iload (j := 4) (q := 135) C rfl dX8_becomes_133 rfl ?_
                      refine i_iload (j := 6) (q := 137) C rfl dX8_becomes_135 rfl ?_
                      refine i_iadd (q := 138) C dX8_becomes_137 rfl ?_
                      refine i_iald (i := 0) (j := 1) (q := 139) C rfl rfl (by omega) dX8_becomes_138 rfl ?_
                      have ld_138 := hs.k6 p (by omega) (by omega) i (by omega) (by omega)
                      refine i_aload_n (j := 0) (q := 140) C rfl rfl dX8_becomes_139 rfl ?_
                      refine i_get (i := 0) (j := 0) (f := 4) (q := 143) C rfl rfl rfl hi_X8_becomes_X8 (by decide) lk_X8_becomes_17 rfl dX8_becomes_140 rfl ?_
                      refine i_iload (j := 7) (q := 145) C rfl dX8_becomes_143 rfl ?_
                      refine i_iald (i := 0) (j := 3) (q := 146) C rfl rfl (by omega) dX8_becomes_145 rfl ?_
                      have ld_145 := hty j (by omega) (by omega)
                      refine i_icmp_ne (tgt := 158) (q := 149) C (by omega) (by omega) dX8_becomes_146 (by decide) rfl (fun c_146 => ?_) (fun c_146 => ?_)
                      · skip
                        exact join_158 (i) (j) (hi) (hd) (by first | exact Or.inl (by omega) | exact Or.inr c_146)
                      · skip
                        refine i_iinc (j := 6) (q := 152) (lv' := [(6, vI (i + 1)), (0, vP (am 0)), (1, vI p), (2, vI n), (3, vI (tm - n)), (4, vI ((14 * p) + 6)), (5, vI k), (7, vI j)]) C rfl (by decide) rfl dX8_becomes_149 rfl ?_
                        refine i_iinc (j := 7) (q := 155) (lv' := [(7, vI (j + 1)), (6, vI (i + 1)), (0, vP (am 0)), (1, vI p), (2, vI n), (3, vI (tm - n)), (4, vI ((14 * p) + 6)), (5, vI k)]) C rfl (by decide) rfl dX8_becomes_152 rfl ?_
                        refine i_goto (q := 114) C dX8_becomes_155 (by decide) ?_
                        refine V.lv [2, 3, 4, 5, 6, 7, 1, 0] rfl ?_
                        exact ih_114 (i + 1) (j + 1) (by omega) (by omega) (fun e g0 g1 => by
                          by_cases e2 : e = i
                          · subst e2; rw [c_146]; congr 1; omega
                          · exact hd e g0 (by omega))
              refine V.lv [2, 3, 4, 5, 6, 7, 1, 0] rfl ?_
              exact loop_114 _ (k + 1) (k + 1) (Nat.lt_succ_self _) (by split <;> omega) (fun e g0 g1 => by split at g0 <;> omega)
            · skip
              refine i_iconst (q := 107) C dX8_becomes_106 rfl ?_
              refine i_goto (q := 111) C dX8_becomes_107 (by decide) ?_
              refine i_iadd (q := 112) C dX8_becomes_111 rfl ?_
              refine i_istore (q := 114) (lv' := [(7, vI (k + 0)), (6, vI (k + 1)), (0, vP (am 0)), (1, vI p), (2, vI n), (3, vI (tm - n)), (4, vI ((14 * p) + 6)), (5, vI k)]) C (by decide) rfl dX8_becomes_112 rfl ?_
              have join_158 : ∀ (i : Int) (j : Int), (k + (if tm - n = 1 then 0 else 1) ≤ i ∧ i ≤ n ∧ j = i + (tm - n)) → (∀ e, k + (if tm - n = 1 then 0 else 1) ≤ e → e < i → st (14 * p + 6 + e) = ty (e + (tm - n))) → (i = n ∨ st (14 * p + 6 + i) ≠ ty j) → V X 0 0 158 [(0, vP (am 0)), (1, vI p), (2, vI n), (3, vI (tm - n)), (4, vI ((14 * p) + 6)), (5, vI k), (6, vI i), (7, vI j)] [] [mdW am (st, bk, un, ck, ty, tm, tx, ln, rf, dg, dn, rk, pl, iw, wd, wm, od, oc)] := by
                intro i j hi hd hst2
                refine i_iload (j := 6) (q := 160) C rfl dX8_becomes_158 rfl ?_
                refine i_iload_n (j := 2) (q := 161) C rfl rfl dX8_becomes_160 rfl ?_
                refine i_icmp_ne (tgt := 177) (q := 164) C (by omega) (by omega) dX8_becomes_161 (by decide) rfl (fun c_161 => ?_) (fun c_161 => ?_)
                · skip
                  refine i_iconst (q := 178) C dX8_becomes_177 rfl ?_
                  refine i_zret C hR (by omega) dX8_becomes_178 ?_
                  exact ⟨by
                    simp only [Option.some.injEq, Sum.inl.injEq]
                    rw [if_neg]
                    intro z
                    rcases hst2 with h | h
                    · exact c_161 h
                    · have := (hbx.mp z).2.2 i hi.1 (by omega)
                      exact h (by rw [hi.2.2]; exact this), rfl⟩
                · skip
                  refine i_iload (j := 7) (q := 166) C rfl dX8_becomes_164 rfl ?_
                  refine i_aload_n (j := 0) (q := 167) C rfl rfl dX8_becomes_166 rfl ?_
                  refine i_get (i := 0) (j := 0) (f := 5) (q := 170) C rfl rfl rfl hi_X8_becomes_X8 (by decide) lk_X8_becomes_53 rfl dX8_becomes_167 rfl ?_
                  refine i_icmp_ne (tgt := 177) (q := 173) C (by omega) (by omega) dX8_becomes_170 (by decide) rfl (fun c_170 => ?_) (fun c_170 => ?_)
                  · skip
                    refine i_iconst (q := 178) C dX8_becomes_177 rfl ?_
                    refine i_zret C hR (by omega) dX8_becomes_178 ?_
                    exact ⟨by
                      simp only [Option.some.injEq, Sum.inl.injEq]
                      omega, rfl⟩
                  · skip
                    refine i_iconst (q := 174) C dX8_becomes_173 rfl ?_
                    refine i_goto (q := 178) C dX8_becomes_174 (by decide) ?_
                    refine i_zret C hR (by omega) dX8_becomes_178 ?_
                    exact ⟨by
                      simp only [Option.some.injEq, Sum.inl.injEq]
                      rw [if_pos]
                      refine hbx.mpr ⟨by omega, fun e => ?_, fun e g0 g1 => hd e g0 (by omega)⟩
                      first | omega | (intro z; omega), rfl⟩
              have loop_114 : ∀ (fuel : Nat) (i : Int) (j : Int), ((n - i).toNat) < fuel → (k + (if tm - n = 1 then 0 else 1) ≤ i ∧ i ≤ n ∧ j = i + (tm - n)) → (∀ e, k + (if tm - n = 1 then 0 else 1) ≤ e → e < i → st (14 * p + 6 + e) = ty (e + (tm - n))) → V X 0 0 114 [(0, vP (am 0)), (1, vI p), (2, vI n), (3, vI (tm - n)), (4, vI ((14 * p) + 6)), (5, vI k), (6, vI i), (7, vI j)] [] [mdW am (st, bk, un, ck, ty, tm, tx, ln, rf, dg, dn, rk, pl, iw, wd, wm, od, oc)] := by
                intro fuel
                induction fuel with
                | zero => intro i j hz; exact absurd hz (Nat.not_lt_zero _)
                | succ fuel ih_114 =>
                  intro i j hfu_114 hi hd
                  refine i_iload (j := 6) (q := 116) C rfl dX8_becomes_114 rfl ?_
                  refine i_iload_n (j := 2) (q := 117) C rfl rfl dX8_becomes_116 rfl ?_
                  refine i_icmp_ge (tgt := 158) (q := 120) C (by omega) (by omega) dX8_becomes_117 (by decide) rfl (fun c_117 => ?_) (fun c_117 => ?_)
                  · skip
                    exact join_158 (i) (j) (hi) (hd) (by first | exact Or.inl (by omega) | exact Or.inr c_146)
                  · skip
                    refine i_iload (j := 7) (q := 122) C rfl dX8_becomes_120 rfl ?_
                    refine i_aload_n (j := 0) (q := 123) C rfl rfl dX8_becomes_122 rfl ?_
                    refine i_get (i := 0) (j := 0) (f := 5) (q := 126) C rfl rfl rfl hi_X8_becomes_X8 (by decide) lk_X8_becomes_53 rfl dX8_becomes_123 rfl ?_
                    refine i_icmp_ge (tgt := 158) (q := 129) C (by omega) (by omega) dX8_becomes_126 (by decide) rfl (fun c_126 => ?_) (fun c_126 => ?_)
                    · skip
                      exact join_158 (i) (j) (hi) (hd) (by first | exact Or.inl (by omega) | exact Or.inr c_146)
                    · skip
                      refine i_aload_n (j := 0) (q := 130) C rfl rfl dX8_becomes_129 rfl ?_
                      refine i_get (i := 0) (j := 0) (f := 0) (q := 133) C rfl rfl rfl hi_X8_becomes_X8 (by decide) lk_X8_becomes_7 rfl dX8_becomes_130 rfl ?_
                      refine i_iload (j := 4) (q := 135) C rfl dX8_becomes_133 rfl ?_
                      refine i_iload (j := 6) (q := 137) C rfl dX8_becomes_135 rfl ?_
                      refine i_iadd (q := 138) C dX8_becomes_137 rfl ?_
                      refine i_iald (i := 0) (j := 1) (q := 139) C rfl rfl (by omega) dX8_becomes_138 rfl ?_
                      have ld_138 := hs.k6 p (by omega) (by omega) i (by omega) (by omega)
                      refine i_aload_n (j := 0) (q := 140) C rfl rfl dX8_becomes_139 rfl ?_
                      refine i_get (i := 0) (j := 0) (f := 4) (q := 143) C rfl rfl rfl hi_X8_becomes_X8 (by decide) lk_X8_becomes_17 rfl dX8_becomes_140 rfl ?_
                      refine i_iload (j := 7) (q := 145) C rfl dX8_becomes_143 rfl ?_
                      refine i_iald (i := 0) (j := 3) (q := 146) C rfl rfl (by omega) dX8_becomes_145 rfl ?_
                      have ld_145 := hty j (by omega) (by omega)
                      refine i_icmp_ne (tgt := 158) (q := 149) C (by omega) (by omega) dX8_becomes_146 (by decide) rfl (fun c_146 => ?_) (fun c_146 => ?_)
                      · skip
                        exact join_158 (i) (j) (hi) (hd) (by first | exact Or.inl (by omega) | exact Or.inr c_146)
                      · skip
                        refine i_iinc (j := 6) (q := 152) (lv' := [(6, vI (i + 1)), (0, vP (am 0)), (1, vI p), (2, vI n), (3, vI (tm - n)), (4, vI ((14 * p) + 6)), (5, vI k), (7, vI j)]) C rfl (by decide) rfl dX8_becomes_149 rfl ?_
                        refine i_iinc (j := 7) (q := 155) (lv' := [(7, vI (j + 1)), (6, vI (i + 1)), (0, vP (am 0)), (1, vI p), (2, vI n), (3, vI (tm - n)), (4, vI ((14 * p) + 6)), (5, vI k)]) C rfl (by decide) rfl dX8_becomes_152 rfl ?_
                        refine i_goto (q := 114) C dX8_becomes_155 (by decide) ?_
                        refine V.lv [2, 3, 4, 5, 6, 7, 1, 0] rfl ?_
                        exact ih_114 (i + 1) (j + 1) (by omega) (by omega) (fun e g0 g1 => by
                          by_cases e2 : e = i
                          · subst e2; rw [c_146]; congr 1; omega
                          · exact hd e g0 (by omega))
              refine V.lv [2, 3, 4, 5, 6, 7, 1, 0] rfl ?_
              exact loop_114 _ (k + 1) (k + 0) (Nat.lt_succ_self _) (by split <;> omega) (fun e g0 g1 => by split at g0 <;> omega)
          · skip
            refine i_iconst (q := 92) C dX8_becomes_91 rfl ?_
            refine i_goto (q := 96) C dX8_becomes_92 (by decide) ?_
            refine i_iadd (q := 97) C dX8_becomes_96 rfl ?_
            refine i_istore (q := 99) (lv' := [(6, vI (k + 0)), (0, vP (am 0)), (1, vI p), (2, vI n), (3, vI (tm - n)), (4, vI ((14 * p) + 6)), (5, vI k)]) C (by decide) rfl dX8_becomes_97 rfl ?_
            refine i_iload (j := 6) (q := 101) C rfl dX8_becomes_99 rfl ?_
            refine i_iload_n (j := 4) (q := 102) C rfl rfl dX8_becomes_101 rfl ?_
            refine i_iconst (q := 103) C dX8_becomes_102 rfl ?_
            refine i_icmp_ne (tgt := 110) (q := 106) C (by omega) (by omega) dX8_becomes_103 (by decide) rfl (fun c_103 => ?_) (fun c_103 => ?_)
            · skip
              refine i_iconst (q := 111) C dX8_becomes_110 rfl ?_
              refine i_iadd (q := 112) C dX8_becomes_111 rfl ?_
              refine i_istore (q := 114) (lv' := [(7, vI (k + 1)), (6, vI (k + 0)), (0, vP (am 0)), (1, vI p), (2, vI n), (3, vI (tm - n)), (4, vI ((14 * p) + 6)), (5, vI k)]) C (by decide) rfl dX8_becomes_112 rfl ?_
              have join_158 : ∀ (i : Int) (j : Int), (k + (if tm - n = 1 then 0 else 1) ≤ i ∧ i ≤ n ∧ j = i + (tm - n)) → (∀ e, k + (if tm - n = 1 then 0 else 1) ≤ e → e < i → st (14 * p + 6 + e) = ty (e + (tm - n))) → (i = n ∨ st (14 * p + 6 + i) ≠ ty j) → V X 0 0 158 [(0, vP (am 0)), (1, vI p), (2, vI n), (3, vI (tm - n)), (4, vI ((14 * p) + 6)), (5, vI k), (6, vI i), (7, vI j)] [] [mdW am (st, bk, un, ck, ty, tm, tx, ln, rf, dg, dn, rk, pl, iw, wd, wm, od, oc)] := by
                intro i j hi hd hst2
                refine i_iload (j := 6) (q := 160) C rfl dX8_becomes_158 rfl ?_
                refine i_iload_n (j := 2) (q := 161) C rfl rfl dX8_becomes_160 rfl ?_
                refine i_icmp_ne (tgt := 177) (q := 164) C (by omega) (by omega) dX8_becomes_161 (by decide) rfl (fun c_161 => ?_) (fun c_161 => ?_)
                · skip
                  refine i_iconst (q := 178) C dX8_becomes_177 rfl ?_
                  refine i_zret C hR (by omega) dX8_becomes_178 ?_
                  exact ⟨by
                    simp only [Option.some.injEq, Sum.inl.injEq]
                    rw [if_neg]
                    intro z
                    rcases hst2 with h | h
                    · exact c_161 h
                    · have := (hbx.mp z).2.2 i hi.1 (by omega)
                      exact h (by rw [hi.2.2]; exact this), rfl⟩
                · skip
                  refine i_iload (j := 7) (q := 166) C rfl dX8_becomes_164 rfl ?_
                  refine i_aload_n (j := 0) (q := 167) C rfl rfl dX8_becomes_166 rfl ?_
                  refine i_get (i := 0) (j := 0) (f := 5) (q := 170) C rfl rfl rfl hi_X8_becomes_X8 (by decide) lk_X8_becomes_53 rfl dX8_becomes_167 rfl ?_
                  refine i_icmp_ne (tgt := 177) (q := 173) C (by omega) (by omega) dX8_becomes_170 (by decide) rfl (fun c_170 => ?_) (fun c_170 => ?_)
                  · skip
                    refine i_iconst (q := 178) C dX8_becomes_177 rfl ?_
                    refine i_zret C hR (by omega) dX8_becomes_178 ?_
                    exact ⟨by
                      simp only [Option.some.injEq, Sum.inl.injEq]
                      omega, rfl⟩
                  · skip
                    refine i_iconst (q := 174) C dX8_becomes_173 rfl ?_
                    refine i_goto (q := 178) C dX8_becomes_174 (by decide) ?_
                    refine i_zret C hR (by omega) dX8_becomes_178 ?_
                    exact ⟨by
                      simp only [Option.some.injEq, Sum.inl.injEq]
                      rw [if_pos]
                      refine hbx.mpr ⟨by omega, fun e => ?_, fun e g0 g1 => hd e g0 (by omega)⟩
                      first | omega | (intro z; omega), rfl⟩
              have loop_114 : ∀ (fuel : Nat) (i : Int) (j : Int), ((n - i).toNat) < fuel → (k + (if tm - n = 1 then 0 else 1) ≤ i ∧ i ≤ n ∧ j = i + (tm - n)) → (∀ e, k + (if tm - n = 1 then 0 else 1) ≤ e → e < i → st (14 * p + 6 + e) = ty (e + (tm - n))) → V X 0 0 114 [(0, vP (am 0)), (1, vI p), (2, vI n), (3, vI (tm - n)), (4, vI ((14 * p) + 6)), (5, vI k), (6, vI i), (7, vI j)] [] [mdW am (st, bk, un, ck, ty, tm, tx, ln, rf, dg, dn, rk, pl, iw, wd, wm, od, oc)] := by
                intro fuel
                induction fuel with
                | zero => intro i j hz; exact absurd hz (Nat.not_lt_zero _)
                | succ fuel ih_114 =>
                  intro i j hfu_114 hi hd
                  refine i_iload (j := 6) (q := 116) C rfl dX8_becomes_114 rfl ?_
                  refine i_iload_n (j := 2) (q := 117) C rfl rfl dX8_becomes_116 rfl ?_
                  refine i_icmp_ge (tgt := 158) (q := 120) C (by omega) (by omega) dX8_becomes_117 (by decide) rfl (fun c_117 => ?_) (fun c_117 => ?_)
                  · skip
                    exact join_158 (i) (j) (hi) (hd) (by first | exact Or.inl (by omega) | exact Or.inr c_146)
                  · skip
                    refine i_iload (j := 7) (q := 122) C rfl dX8_becomes_120 rfl ?_
                    refine i_aload_n (j := 0) (q := 123) C rfl rfl dX8_becomes_122 rfl ?_
                    refine i_get (i := 0) (j := 0) (f := 5) (q := 126) C rfl rfl rfl hi_X8_becomes_X8 (by decide) lk_X8_becomes_53 rfl dX8_becomes_123 rfl ?_
                    refine i_icmp_ge (tgt := 158) (q := 129) C (by omega) (by omega) dX8_becomes_126 (by decide) rfl (fun c_126 => ?_) (fun c_126 => ?_)
                    · skip
                      exact join_158 (i) (j) (hi) (hd) (by first | exact Or.inl (by omega) | exact Or.inr c_146)
                    · skip
                      refine i_aload_n (j := 0) (q := 130) C rfl rfl dX8_becomes_129 rfl ?_
                      refine i_get (i := 0) (j := 0) (f := 0) (q := 133) C rfl rfl rfl hi_X8_becomes_X8 (by decide) lk_X8_becomes_7 rfl dX8_becomes_130 rfl ?_
                      refine i_iload (j := 4) (q := 135) C rfl dX8_becomes_133 rfl ?_
                      refine i_iload (j := 6) (q := 137) C rfl dX8_becomes_135 rfl ?_
                      refine i_iadd (q := 138) C dX8_becomes_137 rfl ?_
                      refine i_iald (i := 0) (j := 1) (q := 139) C rfl rfl (by omega) dX8_becomes_138 rfl ?_
                      have ld_138 := hs.k6 p (by omega) (by omega) i (by omega) (by omega)
                      refine i_aload_n (j := 0) (q := 140) C rfl rfl dX8_becomes_139 rfl ?_
                      refine i_get (i := 0) (j := 0) (f := 4) (q := 143) C rfl rfl rfl hi_X8_becomes_X8 (by decide) lk_X8_becomes_17 rfl dX8_becomes_140 rfl ?_
                      refine i_iload (j := 7) (q := 145) C rfl dX8_becomes_143 rfl ?_
                      refine i_iald (i := 0) (j := 3) (q := 146) C rfl rfl (by omega) dX8_becomes_145 rfl ?_
                      have ld_145 := hty j (by omega) (by omega)
                      refine i_icmp_ne (tgt := 158) (q := 149) C (by omega) (by omega) dX8_becomes_146 (by decide) rfl (fun c_146 => ?_) (fun c_146 => ?_)
                      · skip
                        exact join_158 (i) (j) (hi) (hd) (by first | exact Or.inl (by omega) | exact Or.inr c_146)
                      · skip
                        refine i_iinc (j := 6) (q := 152) (lv' := [(6, vI (i + 1)), (0, vP (am 0)), (1, vI p), (2, vI n), (3, vI (tm - n)), (4, vI ((14 * p) + 6)), (5, vI k), (7, vI j)]) C rfl (by decide) rfl dX8_becomes_149 rfl ?_
                        refine i_iinc (j := 7) (q := 155) (lv' := [(7, vI (j + 1)), (6, vI (i + 1)), (0, vP (am 0)), (1, vI p), (2, vI n), (3, vI (tm - n)), (4, vI ((14 * p) + 6)), (5, vI k)]) C rfl (by decide) rfl dX8_becomes_152 rfl ?_
                        refine i_goto (q := 114) C dX8_becomes_155 (by decide) ?_
                        refine V.lv [2, 3, 4, 5, 6, 7, 1, 0] rfl ?_
                        exact ih_114 (i + 1) (j + 1) (by omega) (by omega) (fun e g0 g1 => by
                          by_cases e2 : e = i
                          · subst e2; rw [c_146]; congr 1; omega
                          · exact hd e g0 (by omega))
              refine V.lv [2, 3, 4, 5, 6, 7, 1, 0] rfl ?_
              exact loop_114 _ (k + 0) (k + 1) (Nat.lt_succ_self _) (by split <;> omega) (fun e g0 g1 => by split at g0 <;> omega)
            · skip
              refine i_iconst (q := 107) C dX8_becomes_106 rfl ?_
              refine i_goto (q := 111) C dX8_becomes_107 (by decide) ?_
              refine i_iadd (q := 112) C dX8_becomes_111 rfl ?_
              refine i_istore (q := 114) (lv' := [(7, vI (k + 0)), (6, vI (k + 0)), (0, vP (am 0)), (1, vI p), (2, vI n), (3, vI (tm - n)), (4, vI ((14 * p) + 6)), (5, vI k)]) C (by decide) rfl dX8_becomes_112 rfl ?_
              have join_158 : ∀ (i : Int) (j : Int), (k + (if tm - n = 1 then 0 else 1) ≤ i ∧ i ≤ n ∧ j = i + (tm - n)) → (∀ e, k + (if tm - n = 1 then 0 else 1) ≤ e → e < i → st (14 * p + 6 + e) = ty (e + (tm - n))) → (i = n ∨ st (14 * p + 6 + i) ≠ ty j) → V X 0 0 158 [(0, vP (am 0)), (1, vI p), (2, vI n), (3, vI (tm - n)), (4, vI ((14 * p) + 6)), (5, vI k), (6, vI i), (7, vI j)] [] [mdW am (st, bk, un, ck, ty, tm, tx, ln, rf, dg, dn, rk, pl, iw, wd, wm, od, oc)] := by
                intro i j hi hd hst2
                refine i_iload (j := 6) (q := 160) C rfl dX8_becomes_158 rfl ?_
                refine i_iload_n (j := 2) (q := 161) C rfl rfl dX8_becomes_160 rfl ?_
                refine i_icmp_ne (tgt := 177) (q := 164) C (by omega) (by omega) dX8_becomes_161 (by decide) rfl (fun c_161 => ?_) (fun c_161 => ?_)
                · skip
                  refine i_iconst (q := 178) C dX8_becomes_177 rfl ?_
                  refine i_zret C hR (by omega) dX8_becomes_178 ?_
                  exact ⟨by
                    simp only [Option.some.injEq, Sum.inl.injEq]
                    rw [if_neg]
                    intro z
                    rcases hst2 with h | h
                    · exact c_161 h
                    · have := (hbx.mp z).2.2 i hi.1 (by omega)
                      exact h (by rw [hi.2.2]; exact this), rfl⟩
                · skip
                  refine i_iload (j := 7) (q := 166) C rfl dX8_becomes_164 rfl ?_
                  refine i_aload_n (j := 0) (q := 167) C rfl rfl dX8_becomes_166 rfl ?_
                  refine i_get (i := 0) (j := 0) (f := 5) (q := 170) C rfl rfl rfl hi_X8_becomes_X8 (by decide) lk_X8_becomes_53 rfl dX8_becomes_167 rfl ?_
                  refine i_icmp_ne (tgt := 177) (q := 173) C (by omega) (by omega) dX8_becomes_170 (by decide) rfl (fun c_170 => ?_) (fun c_170 => ?_)
                  · skip
                    refine i_iconst (q := 178) C dX8_becomes_177 rfl ?_
                    refine i_zret C hR (by omega) dX8_becomes_178 ?_
                    exact ⟨by
                      simp only [Option.some.injEq, Sum.inl.injEq]
                      omega, rfl⟩
                  · skip
                    refine i_iconst (q := 174) C dX8_becomes_173 rfl ?_
                    refine i_goto (q := 178) C dX8_becomes_174 (by decide) ?_
                    refine i_zret C hR (by omega) dX8_becomes_178 ?_
                    exact ⟨by
                      simp only [Option.some.injEq, Sum.inl.injEq]
                      rw [if_pos]
                      refine hbx.mpr ⟨by omega, fun e => ?_, fun e g0 g1 => hd e g0 (by omega)⟩
                      first | omega | (intro z; omega), rfl⟩
              have loop_114 : ∀ (fuel : Nat) (i : Int) (j : Int), ((n - i).toNat) < fuel → (k + (if tm - n = 1 then 0 else 1) ≤ i ∧ i ≤ n ∧ j = i + (tm - n)) → (∀ e, k + (if tm - n = 1 then 0 else 1) ≤ e → e < i → st (14 * p + 6 + e) = ty (e + (tm - n))) → V X 0 0 114 [(0, vP (am 0)), (1, vI p), (2, vI n), (3, vI (tm - n)), (4, vI ((14 * p) + 6)), (5, vI k), (6, vI i), (7, vI j)] [] [mdW am (st, bk, un, ck, ty, tm, tx, ln, rf, dg, dn, rk, pl, iw, wd, wm, od, oc)] := by
                intro fuel
                induction fuel with
                | zero => intro i j hz; exact absurd hz (Nat.not_lt_zero _)
                | succ fuel ih_114 =>
                  intro i j hfu_114 hi hd
                  refine i_iload (j := 6) (q := 116) C rfl dX8_becomes_114 rfl ?_
                  refine i_iload_n (j := 2) (q := 117) C rfl rfl dX8_becomes_116 rfl ?_
                  refine i_icmp_ge (tgt := 158) (q := 120) C (by omega) (by omega) dX8_becomes_117 (by decide) rfl (fun c_117 => ?_) (fun c_117 => ?_)
                  · skip
                    exact join_158 (i) (j) (hi) (hd) (by first | exact Or.inl (by omega) | exact Or.inr c_146)
                  · skip
                    refine i_iload (j := 7) (q := 122) C rfl dX8_becomes_120 rfl ?_
                    refine i_aload_n (j := 0) (q := 123) C rfl rfl dX8_becomes_122 rfl ?_
                    refine i_get (i := 0) (j := 0) (f := 5) (q := 126) C rfl rfl rfl hi_X8_becomes_X8 (by decide) lk_X8_becomes_53 rfl dX8_becomes_123 rfl ?_
                    refine i_icmp_ge (tgt := 158) (q := 129) C (by omega) (by omega) dX8_becomes_126 (by decide) rfl (fun c_126 => ?_) (fun c_126 => ?_)
                    · skip
                      exact join_158 (i) (j) (hi) (hd) (by first | exact Or.inl (by omega) | exact Or.inr c_146)
                    · skip
                      refine i_aload_n (j := 0) (q := 130) C rfl rfl dX8_becomes_129 rfl ?_
                      refine i_get (i := 0) (j := 0) (f := 0) (q := 133) C rfl rfl rfl hi_X8_becomes_X8 (by decide) lk_X8_becomes_7 rfl dX8_becomes_130 rfl ?_
                      refine i_iload (j := 4) (q := 135) C rfl dX8_becomes_133 rfl ?_
                      refine i_iload (j := 6) (q := 137) C rfl dX8_becomes_135 rfl ?_
                      refine i_iadd (q := 138) C dX8_becomes_137 rfl ?_
                      refine i_iald (i := 0) (j := 1) (q := 139) C rfl rfl (by omega) dX8_becomes_138 rfl ?_
                      have ld_138 := hs.k6 p (by omega) (by omega) i (by omega) (by omega)
                      refine i_aload_n (j := 0) (q := 140) C rfl rfl dX8_becomes_139 rfl ?_
                      refine i_get (i := 0) (j := 0) (f := 4) (q := 143) C rfl rfl rfl hi_X8_becomes_X8 (by decide) lk_X8_becomes_17 rfl dX8_becomes_140 rfl ?_
                      refine i_iload (j := 7) (q := 145) C rfl dX8_becomes_143 rfl ?_
                      refine i_iald (i := 0) (j := 3) (q := 146) C rfl rfl (by omega) dX8_becomes_145 rfl ?_
                      have ld_145 := hty j (by omega) (by omega)
                      refine i_icmp_ne (tgt := 158) (q := 149) C (by omega) (by omega) dX8_becomes_146 (by decide) rfl (fun c_146 => ?_) (fun c_146 => ?_)
                      · skip
                        exact join_158 (i) (j) (hi) (hd) (by first | exact Or.inl (by omega) | exact Or.inr c_146)
                      · skip
                        refine i_iinc (j := 6) (q := 152) (lv' := [(6, vI (i + 1)), (0, vP (am 0)), (1, vI p), (2, vI n), (3, vI (tm - n)), (4, vI ((14 * p) + 6)), (5, vI k), (7, vI j)]) C rfl (by decide) rfl dX8_becomes_149 rfl ?_
                        refine i_iinc (j := 7) (q := 155) (lv' := [(7, vI (j + 1)), (6, vI (i + 1)), (0, vP (am 0)), (1, vI p), (2, vI n), (3, vI (tm - n)), (4, vI ((14 * p) + 6)), (5, vI k)]) C rfl (by decide) rfl dX8_becomes_152 rfl ?_
                        refine i_goto (q := 114) C dX8_becomes_155 (by decide) ?_
                        refine V.lv [2, 3, 4, 5, 6, 7, 1, 0] rfl ?_
                        exact ih_114 (i + 1) (j + 1) (by omega) (by omega) (fun e g0 g1 => by
                          by_cases e2 : e = i
                          · subst e2; rw [c_146]; congr 1; omega
                          · exact hd e g0 (by omega))
              refine V.lv [2, 3, 4, 5, 6, 7, 1, 0] rfl ?_
              exact loop_114 _ (k + 0) (k + 0) (Nat.lt_succ_self _) (by split <;> omega) (fun e g0 g1 => by split at g0 <;> omega)
        · skip
          refine i_iload (j := 5) (q := 78) C rfl dX8_becomes_76 rfl ?_
          refine i_iload_n (j := 2) (q := 79) C rfl rfl dX8_becomes_78 rfl ?_
          refine i_icmp_ne (tgt := 84) (q := 82) C (by omega) (by omega) dX8_becomes_79 (by decide) rfl (fun c_79 => ?_) (fun c_79 => ?_)
          · skip
            refine i_iload (j := 5) (q := 86) C rfl dX8_becomes_84 rfl ?_
            refine i_iload_n (j := 3) (q := 87) C rfl rfl dX8_becomes_86 rfl ?_
            refine i_iconst (q := 88) C dX8_becomes_87 rfl ?_
            refine i_icmp_ne (tgt := 95) (q := 91) C (by omega) (by omega) dX8_becomes_88 (by decide) rfl (fun c_88 => ?_) (fun c_88 => ?_)
            · skip
              refine i_iconst (q := 96) C dX8_becomes_95 rfl ?_
              refine i_iadd (q := 97) C dX8_becomes_96 rfl ?_
              refine i_istore (q := 99) (lv' := [(6, vI (k + 1)), (0, vP (am 0)), (1, vI p), (2, vI n), (3, vI (tm - n)), (4, vI ((14 * p) + 6)), (5, vI k)]) C (by decide) rfl dX8_becomes_97 rfl ?_
              refine i_iload (j := 6) (q := 101) C rfl dX8_becomes_99 rfl ?_
              refine i_iload_n (j := 4) (q := 102) C rfl rfl dX8_becomes_101 rfl ?_
              refine i_iconst (q := 103) C dX8_becomes_102 rfl ?_
              refine i_icmp_ne (tgt := 110) (q := 106) C (by omega) (by omega) dX8_becomes_103 (by decide) rfl (fun c_103 => ?_) (fun c_103 => ?_)
              · skip
                refine i_iconst (q := 111) C dX8_becomes_110 rfl ?_
                refine i_iadd (q := 112) C dX8_becomes_111 rfl ?_
                refine i_istore (q := 114) (lv' := [(7, vI (k + 1)), (6, vI (k + 1)), (0, vP (am 0)), (1, vI p), (2, vI n), (3, vI (tm - n)), (4, vI ((14 * p) + 6)), (5, vI k)]) C (by decide) rfl dX8_becomes_112 rfl ?_
                have join_158 : ∀ (i : Int) (j : Int), (k + (if tm - n = 1 then 0 else 1) ≤ i ∧ i ≤ n ∧ j = i + (tm - n)) → (∀ e, k + (if tm - n = 1 then 0 else 1) ≤ e → e < i → st (14 * p + 6 + e) = ty (e + (tm - n))) → (i = n ∨ st (14 * p + 6 + i) ≠ ty j) → V X 0 0 158 [(0, vP (am 0)), (1, vI p), (2, vI n), (3, vI (tm - n)), (4, vI ((14 * p) + 6)), (5, vI k), (6, vI i), (7, vI j)] [] [mdW am (st, bk, un, ck, ty, tm, tx, ln, rf, dg, dn, rk, pl, iw, wd, wm, od, oc)] := by
                  intro i j hi hd hst2
                  refine i_iload (j := 6) (q := 160) C rfl dX8_becomes_158 rfl ?_
                  refine i_iload_n (j := 2) (q := 161) C rfl rfl dX8_becomes_160 rfl ?_
                  refine i_icmp_ne (tgt := 177) (q := 164) C (by omega) (by omega) dX8_becomes_161 (by decide) rfl (fun c_161 => ?_) (fun c_161 => ?_)
                  · skip
                    refine i_iconst (q := 178) C dX8_becomes_177 rfl ?_
                    refine i_zret C hR (by omega) dX8_becomes_178 ?_
                    exact ⟨by
                      simp only [Option.some.injEq, Sum.inl.injEq]
                      rw [if_neg]
                      intro z
                      rcases hst2 with h | h
                      · exact c_161 h
                      · have := (hbx.mp z).2.2 i hi.1 (by omega)
                        exact h (by rw [hi.2.2]; exact this), rfl⟩
                  · skip
                    refine i_iload (j := 7) (q := 166) C rfl dX8_becomes_164 rfl ?_
                    refine i_aload_n (j := 0) (q := 167) C rfl rfl dX8_becomes_166 rfl ?_
                    refine i_get (i := 0) (j := 0) (f := 5) (q := 170) C rfl rfl rfl hi_X8_becomes_X8 (by decide) lk_X8_becomes_53 rfl dX8_becomes_167 rfl ?_
                    refine i_icmp_ne (tgt := 177) (q := 173) C (by omega) (by omega) dX8_becomes_170 (by decide) rfl (fun c_170 => ?_) (fun c_170 => ?_)
                    · skip
                      refine i_iconst (q := 178) C dX8_becomes_177 rfl ?_
                      refine i_zret C hR (by omega) dX8_becomes_178 ?_
                      exact ⟨by
                        simp only [Option.some.injEq, Sum.inl.injEq]
                        omega, rfl⟩
                    · skip
                      refine i_iconst (q := 174) C dX8_becomes_173 rfl ?_
                      refine i_goto (q := 178) C dX8_becomes_174 (by decide) ?_
                      refine i_zret C hR (by omega) dX8_becomes_178 ?_
                      exact ⟨by
                        simp only [Option.some.injEq, Sum.inl.injEq]
                        rw [if_pos]
                        refine hbx.mpr ⟨by omega, fun e => ?_, fun e g0 g1 => hd e g0 (by omega)⟩
                        first | omega | (intro z; omega), rfl⟩
                have loop_114 : ∀ (fuel : Nat) (i : Int) (j : Int), ((n - i).toNat) < fuel → (k + (if tm - n = 1 then 0 else 1) ≤ i ∧ i ≤ n ∧ j = i + (tm - n)) → (∀ e, k + (if tm - n = 1 then 0 else 1) ≤ e → e < i → st (14 * p + 6 + e) = ty (e + (tm - n))) → V X 0 0 114 [(0, vP (am 0)), (1, vI p), (2, vI n), (3, vI (tm - n)), (4, vI ((14 * p) + 6)), (5, vI k), (6, vI i), (7, vI j)] [] [mdW am (st, bk, un, ck, ty, tm, tx, ln, rf, dg, dn, rk, pl, iw, wd, wm, od, oc)] := by
                  intro fuel
                  induction fuel with
                  | zero => intro i j hz; exact absurd hz (Nat.not_lt_zero _)
                  | succ fuel ih_114 =>
                    intro i j hfu_114 hi hd
                    refine i_iload (j := 6) (q := 116) C rfl dX8_becomes_114 rfl ?_
                    refine i_iload_n (j := 2) (q := 117) C rfl rfl dX8_becomes_116 rfl ?_
                    refine i_icmp_ge (tgt := 158) (q := 120) C (by omega) (by omega) dX8_becomes_117 (by decide) rfl (fun c_117 => ?_) (fun c_117 => ?_)
                    · skip
                      exact join_158 (i) (j) (hi) (hd) (by first | exact Or.inl (by omega) | exact Or.inr c_146)
                    · skip
                      refine i_iload (j := 7) (q := 122) C rfl dX8_becomes_120 rfl ?_
                      refine i_aload_n (j := 0) (q := 123) C rfl rfl dX8_becomes_122 rfl ?_
                      refine i_get (i := 0) (j := 0) (f := 5) (q := 126) C rfl rfl rfl hi_X8_becomes_X8 (by decide) lk_X8_becomes_53 rfl dX8_becomes_123 rfl ?_
                      refine i_icmp_ge (tgt := 158) (q := 129) C (by omega) (by omega) dX8_becomes_126 (by decide) rfl (fun c_126 => ?_) (fun c_126 => ?_)
                      · skip
                        exact join_158 (i) (j) (hi) (hd) (by first | exact Or.inl (by omega) | exact Or.inr c_146)
                      · skip
                        refine i_aload_n (j := 0) (q := 130) C rfl rfl dX8_becomes_129 rfl ?_
                        refine i_get (i := 0) (j := 0) (f := 0) (q := 133) C rfl rfl rfl hi_X8_becomes_X8 (by decide) lk_X8_becomes_7 rfl dX8_becomes_130 rfl ?_
                        refine i_iload (j := 4) (q := 135) C rfl dX8_becomes_133 rfl ?_
                        refine i_iload (j := 6) (q := 137) C rfl dX8_becomes_135 rfl ?_
                        refine i_iadd (q := 138) C dX8_becomes_137 rfl ?_
                        refine i_iald (i := 0) (j := 1) (q := 139) C rfl rfl (by omega) dX8_becomes_138 rfl ?_
                        have ld_138 := hs.k6 p (by omega) (by omega) i (by omega) (by omega)
                        refine i_aload_n (j := 0) (q := 140) C rfl rfl dX8_becomes_139 rfl ?_
                        refine i_get (i := 0) (j := 0) (f := 4) (q := 143) C rfl rfl rfl hi_X8_becomes_X8 (by decide) lk_X8_becomes_17 rfl dX8_becomes_140 rfl ?_
                        refine i_iload (j := 7) (q := 145) C rfl dX8_becomes_143 rfl ?_
                        refine i_iald (i := 0) (j := 3) (q := 146) C rfl rfl (by omega) dX8_becomes_145 rfl ?_
                        have ld_145 := hty j (by omega) (by omega)
                        refine i_icmp_ne (tgt := 158) (q := 149) C (by omega) (by omega) dX8_becomes_146 (by decide) rfl (fun c_146 => ?_) (fun c_146 => ?_)
                        · skip
                          exact join_158 (i) (j) (hi) (hd) (by first | exact Or.inl (by omega) | exact Or.inr c_146)
                        · skip
                          refine i_iinc (j := 6) (q := 152) (lv' := [(6, vI (i + 1)), (0, vP (am 0)), (1, vI p), (2, vI n), (3, vI (tm - n)), (4, vI ((14 * p) + 6)), (5, vI k), (7, vI j)]) C rfl (by decide) rfl dX8_becomes_149 rfl ?_
                          refine i_iinc (j := 7) (q := 155) (lv' := [(7, vI (j + 1)), (6, vI (i + 1)), (0, vP (am 0)), (1, vI p), (2, vI n), (3, vI (tm - n)), (4, vI ((14 * p) + 6)), (5, vI k)]) C rfl (by decide) rfl dX8_becomes_152 rfl ?_
                          refine i_goto (q := 114) C dX8_becomes_155 (by decide) ?_
                          refine V.lv [2, 3, 4, 5, 6, 7, 1, 0] rfl ?_
                          exact ih_114 (i + 1) (j + 1) (by omega) (by omega) (fun e g0 g1 => by
                            by_cases e2 : e = i
                            · subst e2; rw [c_146]; congr 1; omega
                            · exact hd e g0 (by omega))
                refine V.lv [2, 3, 4, 5, 6, 7, 1, 0] rfl ?_
                exact loop_114 _ (k + 1) (k + 1) (Nat.lt_succ_self _) (by split <;> omega) (fun e g0 g1 => by split at g0 <;> omega)
              · skip
                refine i_iconst (q := 107) C dX8_becomes_106 rfl ?_
                refine i_goto (q := 111) C dX8_becomes_107 (by decide) ?_
                refine i_iadd (q := 112) C dX8_becomes_111 rfl ?_
                refine i_istore (q := 114) (lv' := [(7, vI (k + 0)), (6, vI (k + 1)), (0, vP (am 0)), (1, vI p), (2, vI n), (3, vI (tm - n)), (4, vI ((14 * p) + 6)), (5, vI k)]) C (by decide) rfl dX8_becomes_112 rfl ?_
                have join_158 : ∀ (i : Int) (j : Int), (k + (if tm - n = 1 then 0 else 1) ≤ i ∧ i ≤ n ∧ j = i + (tm - n)) → (∀ e, k + (if tm - n = 1 then 0 else 1) ≤ e → e < i → st (14 * p + 6 + e) = ty (e + (tm - n))) → (i = n ∨ st (14 * p + 6 + i) ≠ ty j) → V X 0 0 158 [(0, vP (am 0)), (1, vI p), (2, vI n), (3, vI (tm - n)), (4, vI ((14 * p) + 6)), (5, vI k), (6, vI i), (7, vI j)] [] [mdW am (st, bk, un, ck, ty, tm, tx, ln, rf, dg, dn, rk, pl, iw, wd, wm, od, oc)] := by
                  intro i j hi hd hst2
                  refine i_iload (j := 6) (q := 160) C rfl dX8_becomes_158 rfl ?_
                  refine i_iload_n (j := 2) (q := 161) C rfl rfl dX8_becomes_160 rfl ?_
                  refine i_icmp_ne (tgt := 177) (q := 164) C (by omega) (by omega) dX8_becomes_161 (by decide) rfl (fun c_161 => ?_) (fun c_161 => ?_)
                  · skip
                    refine i_iconst (q := 178) C dX8_becomes_177 rfl ?_
                    refine i_zret C hR (by omega) dX8_becomes_178 ?_
                    exact ⟨by
                      simp only [Option.some.injEq, Sum.inl.injEq]
                      rw [if_neg]
                      intro z
                      rcases hst2 with h | h
                      · exact c_161 h
                      · have := (hbx.mp z).2.2 i hi.1 (by omega)
                        exact h (by rw [hi.2.2]; exact this), rfl⟩
                  · skip
                    refine i_iload (j := 7) (q := 166) C rfl dX8_becomes_164 rfl ?_
                    refine i_aload_n (j := 0) (q := 167) C rfl rfl dX8_becomes_166 rfl ?_
                    refine i_get (i := 0) (j := 0) (f := 5) (q := 170) C rfl rfl rfl hi_X8_becomes_X8 (by decide) lk_X8_becomes_53 rfl dX8_becomes_167 rfl ?_
                    refine i_icmp_ne (tgt := 177) (q := 173) C (by omega) (by omega) dX8_becomes_170 (by decide) rfl (fun c_170 => ?_) (fun c_170 => ?_)
                    · skip
                      refine i_iconst (q := 178) C dX8_becomes_177 rfl ?_
                      refine i_zret C hR (by omega) dX8_becomes_178 ?_
                      exact ⟨by
                        simp only [Option.some.injEq, Sum.inl.injEq]
                        omega, rfl⟩
                    · skip
                      refine i_iconst (q := 174) C dX8_becomes_173 rfl ?_
                      refine i_goto (q := 178) C dX8_becomes_174 (by decide) ?_
                      refine i_zret C hR (by omega) dX8_becomes_178 ?_
                      exact ⟨by
                        simp only [Option.some.injEq, Sum.inl.injEq]
                        rw [if_pos]
                        refine hbx.mpr ⟨by omega, fun e => ?_, fun e g0 g1 => hd e g0 (by omega)⟩
                        first | omega | (intro z; omega), rfl⟩
                have loop_114 : ∀ (fuel : Nat) (i : Int) (j : Int), ((n - i).toNat) < fuel → (k + (if tm - n = 1 then 0 else 1) ≤ i ∧ i ≤ n ∧ j = i + (tm - n)) → (∀ e, k + (if tm - n = 1 then 0 else 1) ≤ e → e < i → st (14 * p + 6 + e) = ty (e + (tm - n))) → V X 0 0 114 [(0, vP (am 0)), (1, vI p), (2, vI n), (3, vI (tm - n)), (4, vI ((14 * p) + 6)), (5, vI k), (6, vI i), (7, vI j)] [] [mdW am (st, bk, un, ck, ty, tm, tx, ln, rf, dg, dn, rk, pl, iw, wd, wm, od, oc)] := by
                  intro fuel
                  induction fuel with
                  | zero => intro i j hz; exact absurd hz (Nat.not_lt_zero _)
                  | succ fuel ih_114 =>
                    intro i j hfu_114 hi hd
                    refine i_iload (j := 6) (q := 116) C rfl dX8_becomes_114 rfl ?_
                    refine i_iload_n (j := 2) (q := 117) C rfl rfl dX8_becomes_116 rfl ?_
                    refine i_icmp_ge (tgt := 158) (q := 120) C (by omega) (by omega) dX8_becomes_117 (by decide) rfl (fun c_117 => ?_) (fun c_117 => ?_)
                    · skip
                      exact join_158 (i) (j) (hi) (hd) (by first | exact Or.inl (by omega) | exact Or.inr c_146)
                    · skip
                      refine i_iload (j := 7) (q := 122) C rfl dX8_becomes_120 rfl ?_
                      refine i_aload_n (j := 0) (q := 123) C rfl rfl dX8_becomes_122 rfl ?_
                      refine i_get (i := 0) (j := 0) (f := 5) (q := 126) C rfl rfl rfl hi_X8_becomes_X8 (by decide) lk_X8_becomes_53 rfl dX8_becomes_123 rfl ?_
                      refine i_icmp_ge (tgt := 158) (q := 129) C (by omega) (by omega) dX8_becomes_126 (by decide) rfl (fun c_126 => ?_) (fun c_126 => ?_)
                      · skip
                        exact join_158 (i) (j) (hi) (hd) (by first | exact Or.inl (by omega) | exact Or.inr c_146)
                      · skip
                        refine i_aload_n (j := 0) (q := 130) C rfl rfl dX8_becomes_129 rfl ?_
                        refine i_get (i := 0) (j := 0) (f := 0) (q := 133) C rfl rfl rfl hi_X8_becomes_X8 (by decide) lk_X8_becomes_7 rfl dX8_becomes_130 rfl ?_
                        refine i_iload (j := 4) (q := 135) C rfl dX8_becomes_133 rfl ?_
                        refine i_iload (j := 6) (q := 137) C rfl dX8_becomes_135 rfl ?_
                        refine i_iadd (q := 138) C dX8_becomes_137 rfl ?_
                        refine i_iald (i := 0) (j := 1) (q := 139) C rfl rfl (by omega) dX8_becomes_138 rfl ?_
                        have ld_138 := hs.k6 p (by omega) (by omega) i (by omega) (by omega)
                        refine i_aload_n (j := 0) (q := 140) C rfl rfl dX8_becomes_139 rfl ?_
                        refine i_get (i := 0) (j := 0) (f := 4) (q := 143) C rfl rfl rfl hi_X8_becomes_X8 (by decide) lk_X8_becomes_17 rfl dX8_becomes_140 rfl ?_
                        refine i_iload (j := 7) (q := 145) C rfl dX8_becomes_143 rfl ?_
                        refine i_iald (i := 0) (j := 3) (q := 146) C rfl rfl (by omega) dX8_becomes_145 rfl ?_
                        have ld_145 := hty j (by omega) (by omega)
                        refine i_icmp_ne (tgt := 158) (q := 149) C (by omega) (by omega) dX8_becomes_146 (by decide) rfl (fun c_146 => ?_) (fun c_146 => ?_)
                        · skip
                          exact join_158 (i) (j) (hi) (hd) (by first | exact Or.inl (by omega) | exact Or.inr c_146)
                        · skip
                          refine i_iinc (j := 6) (q := 152) (lv' := [(6, vI (i + 1)), (0, vP (am 0)), (1, vI p), (2, vI n), (3, vI (tm - n)), (4, vI ((14 * p) + 6)), (5, vI k), (7, vI j)]) C rfl (by decide) rfl dX8_becomes_149 rfl ?_
                          refine i_iinc (j := 7) (q := 155) (lv' := [(7, vI (j + 1)), (6, vI (i + 1)), (0, vP (am 0)), (1, vI p), (2, vI n), (3, vI (tm - n)), (4, vI ((14 * p) + 6)), (5, vI k)]) C rfl (by decide) rfl dX8_becomes_152 rfl ?_
                          refine i_goto (q := 114) C dX8_becomes_155 (by decide) ?_
                          refine V.lv [2, 3, 4, 5, 6, 7, 1, 0] rfl ?_
                          exact ih_114 (i + 1) (j + 1) (by omega) (by omega) (fun e g0 g1 => by
                            by_cases e2 : e = i
                            · subst e2; rw [c_146]; congr 1; omega
                            · exact hd e g0 (by omega))
                refine V.lv [2, 3, 4, 5, 6, 7, 1, 0] rfl ?_
                exact loop_114 _ (k + 1) (k + 0) (Nat.lt_succ_self _) (by split <;> omega) (fun e g0 g1 => by split at g0 <;> omega)
            · skip
              refine i_iconst (q := 92) C dX8_becomes_91 rfl ?_
              refine i_goto (q := 96) C dX8_becomes_92 (by decide) ?_
              refine i_iadd (q := 97) C dX8_becomes_96 rfl ?_
              refine i_istore (q := 99) (lv' := [(6, vI (k + 0)), (0, vP (am 0)), (1, vI p), (2, vI n), (3, vI (tm - n)), (4, vI ((14 * p) + 6)), (5, vI k)]) C (by decide) rfl dX8_becomes_97 rfl ?_
              refine i_iload (j := 6) (q := 101) C rfl dX8_becomes_99 rfl ?_
              refine i_iload_n (j := 4) (q := 102) C rfl rfl dX8_becomes_101 rfl ?_
              refine i_iconst (q := 103) C dX8_becomes_102 rfl ?_
              refine i_icmp_ne (tgt := 110) (q := 106) C (by omega) (by omega) dX8_becomes_103 (by decide) rfl (fun c_103 => ?_) (fun c_103 => ?_)
              · skip
                refine i_iconst (q := 111) C dX8_becomes_110 rfl ?_
                refine i_iadd (q := 112) C dX8_becomes_111 rfl ?_
                refine i_istore (q := 114) (lv' := [(7, vI (k + 1)), (6, vI (k + 0)), (0, vP (am 0)), (1, vI p), (2, vI n), (3, vI (tm - n)), (4, vI ((14 * p) + 6)), (5, vI k)]) C (by decide) rfl dX8_becomes_112 rfl ?_
                have join_158 : ∀ (i : Int) (j : Int), (k + (if tm - n = 1 then 0 else 1) ≤ i ∧ i ≤ n ∧ j = i + (tm - n)) → (∀ e, k + (if tm - n = 1 then 0 else 1) ≤ e → e < i → st (14 * p + 6 + e) = ty (e + (tm - n))) → (i = n ∨ st (14 * p + 6 + i) ≠ ty j) → V X 0 0 158 [(0, vP (am 0)), (1, vI p), (2, vI n), (3, vI (tm - n)), (4, vI ((14 * p) + 6)), (5, vI k), (6, vI i), (7, vI j)] [] [mdW am (st, bk, un, ck, ty, tm, tx, ln, rf, dg, dn, rk, pl, iw, wd, wm, od, oc)] := by
                  intro i j hi hd hst2
                  refine i_iload (j := 6) (q := 160) C rfl dX8_becomes_158 rfl ?_
                  refine i_iload_n (j := 2) (q := 161) C rfl rfl dX8_becomes_160 rfl ?_
                  refine i_icmp_ne (tgt := 177) (q := 164) C (by omega) (by omega) dX8_becomes_161 (by decide) rfl (fun c_161 => ?_) (fun c_161 => ?_)
                  · skip
                    refine i_iconst (q := 178) C dX8_becomes_177 rfl ?_
                    refine i_zret C hR (by omega) dX8_becomes_178 ?_
                    exact ⟨by
                      simp only [Option.some.injEq, Sum.inl.injEq]
                      rw [if_neg]
                      intro z
                      rcases hst2 with h | h
                      · exact c_161 h
                      · have := (hbx.mp z).2.2 i hi.1 (by omega)
                        exact h (by rw [hi.2.2]; exact this), rfl⟩
                  · skip
                    refine i_iload (j := 7) (q := 166) C rfl dX8_becomes_164 rfl ?_
                    refine i_aload_n (j := 0) (q := 167) C rfl rfl dX8_becomes_166 rfl ?_
                    refine i_get (i := 0) (j := 0) (f := 5) (q := 170) C rfl rfl rfl hi_X8_becomes_X8 (by decide) lk_X8_becomes_53 rfl dX8_becomes_167 rfl ?_
                    refine i_icmp_ne (tgt := 177) (q := 173) C (by omega) (by omega) dX8_becomes_170 (by decide) rfl (fun c_170 => ?_) (fun c_170 => ?_)
                    · skip
                      refine i_iconst (q := 178) C dX8_becomes_177 rfl ?_
                      refine i_zret C hR (by omega) dX8_becomes_178 ?_
                      exact ⟨by
                        simp only [Option.some.injEq, Sum.inl.injEq]
                        omega, rfl⟩
                    · skip
                      refine i_iconst (q := 174) C dX8_becomes_173 rfl ?_
                      refine i_goto (q := 178) C dX8_becomes_174 (by decide) ?_
                      refine i_zret C hR (by omega) dX8_becomes_178 ?_
                      exact ⟨by
                        simp only [Option.some.injEq, Sum.inl.injEq]
                        rw [if_pos]
                        refine hbx.mpr ⟨by omega, fun e => ?_, fun e g0 g1 => hd e g0 (by omega)⟩
                        first | omega | (intro z; omega), rfl⟩
                have loop_114 : ∀ (fuel : Nat) (i : Int) (j : Int), ((n - i).toNat) < fuel → (k + (if tm - n = 1 then 0 else 1) ≤ i ∧ i ≤ n ∧ j = i + (tm - n)) → (∀ e, k + (if tm - n = 1 then 0 else 1) ≤ e → e < i → st (14 * p + 6 + e) = ty (e + (tm - n))) → V X 0 0 114 [(0, vP (am 0)), (1, vI p), (2, vI n), (3, vI (tm - n)), (4, vI ((14 * p) + 6)), (5, vI k), (6, vI i), (7, vI j)] [] [mdW am (st, bk, un, ck, ty, tm, tx, ln, rf, dg, dn, rk, pl, iw, wd, wm, od, oc)] := by
                  intro fuel
                  induction fuel with
                  | zero => intro i j hz; exact absurd hz (Nat.not_lt_zero _)
                  | succ fuel ih_114 =>
                    intro i j hfu_114 hi hd
                    refine i_iload (j := 6) (q := 116) C rfl dX8_becomes_114 rfl ?_
                    refine i_iload_n (j := 2) (q := 117) C rfl rfl dX8_becomes_116 rfl ?_
                    refine i_icmp_ge (tgt := 158) (q := 120) C (by omega) (by omega) dX8_becomes_117 (by decide) rfl (fun c_117 => ?_) (fun c_117 => ?_)
                    · skip
                      exact join_158 (i) (j) (hi) (hd) (by first | exact Or.inl (by omega) | exact Or.inr c_146)
                    · skip
                      refine i_iload (j := 7) (q := 122) C rfl dX8_becomes_120 rfl ?_
                      refine i_aload_n (j := 0) (q := 123) C rfl rfl dX8_becomes_122 rfl ?_
                      refine i_get (i := 0) (j := 0) (f := 5) (q := 126) C rfl rfl rfl hi_X8_becomes_X8 (by decide) lk_X8_becomes_53 rfl dX8_becomes_123 rfl ?_
                      refine i_icmp_ge (tgt := 158) (q := 129) C (by omega) (by omega) dX8_becomes_126 (by decide) rfl (fun c_126 => ?_) (fun c_126 => ?_)
                      · skip
                        exact join_158 (i) (j) (hi) (hd) (by first | exact Or.inl (by omega) | exact Or.inr c_146)
                      · skip
                        refine i_aload_n (j := 0) (q := 130) C rfl rfl dX8_becomes_129 rfl ?_
                        refine i_get (i := 0) (j := 0) (f := 0) (q := 133) C rfl rfl rfl hi_X8_becomes_X8 (by decide) lk_X8_becomes_7 rfl dX8_becomes_130 rfl ?_
                        refine i_iload (j := 4) (q := 135) C rfl dX8_becomes_133 rfl ?_
                        refine i_iload (j := 6) (q := 137) C rfl dX8_becomes_135 rfl ?_
                        refine i_iadd (q := 138) C dX8_becomes_137 rfl ?_
                        refine i_iald (i := 0) (j := 1) (q := 139) C rfl rfl (by omega) dX8_becomes_138 rfl ?_
                        have ld_138 := hs.k6 p (by omega) (by omega) i (by omega) (by omega)
                        refine i_aload_n (j := 0) (q := 140) C rfl rfl dX8_becomes_139 rfl ?_
                        refine i_get (i := 0) (j := 0) (f := 4) (q := 143) C rfl rfl rfl hi_X8_becomes_X8 (by decide) lk_X8_becomes_17 rfl dX8_becomes_140 rfl ?_
                        refine i_iload (j := 7) (q := 145) C rfl dX8_becomes_143 rfl ?_
                        refine i_iald (i := 0) (j := 3) (q := 146) C rfl rfl (by omega) dX8_becomes_145 rfl ?_
                        have ld_145 := hty j (by omega) (by omega)
                        refine i_icmp_ne (tgt := 158) (q := 149) C (by omega) (by omega) dX8_becomes_146 (by decide) rfl (fun c_146 => ?_) (fun c_146 => ?_)
                        · skip
                          exact join_158 (i) (j) (hi) (hd) (by first | exact Or.inl (by omega) | exact Or.inr c_146)
                        · skip
                          refine i_iinc (j := 6) (q := 152) (lv' := [(6, vI (i + 1)), (0, vP (am 0)), (1, vI p), (2, vI n), (3, vI (tm - n)), (4, vI ((14 * p) + 6)), (5, vI k), (7, vI j)]) C rfl (by decide) rfl dX8_becomes_149 rfl ?_
                          refine i_iinc (j := 7) (q := 155) (lv' := [(7, vI (j + 1)), (6, vI (i + 1)), (0, vP (am 0)), (1, vI p), (2, vI n), (3, vI (tm - n)), (4, vI ((14 * p) + 6)), (5, vI k)]) C rfl (by decide) rfl dX8_becomes_152 rfl ?_
                          refine i_goto (q := 114) C dX8_becomes_155 (by decide) ?_
                          refine V.lv [2, 3, 4, 5, 6, 7, 1, 0] rfl ?_
                          exact ih_114 (i + 1) (j + 1) (by omega) (by omega) (fun e g0 g1 => by
                            by_cases e2 : e = i
                            · subst e2; rw [c_146]; congr 1; omega
                            · exact hd e g0 (by omega))
                refine V.lv [2, 3, 4, 5, 6, 7, 1, 0] rfl ?_
                exact loop_114 _ (k + 0) (k + 1) (Nat.lt_succ_self _) (by split <;> omega) (fun e g0 g1 => by split at g0 <;> omega)
              · skip
                refine i_iconst (q := 107) C dX8_becomes_106 rfl ?_
                refine i_goto (q := 111) C dX8_becomes_107 (by decide) ?_
                refine i_iadd (q := 112) C dX8_becomes_111 rfl ?_
                refine i_istore (q := 114) (lv' := [(7, vI (k + 0)), (6, vI (k + 0)), (0, vP (am 0)), (1, vI p), (2, vI n), (3, vI (tm - n)), (4, vI ((14 * p) + 6)), (5, vI k)]) C (by decide) rfl dX8_becomes_112 rfl ?_
                have join_158 : ∀ (i : Int) (j : Int), (k + (if tm - n = 1 then 0 else 1) ≤ i ∧ i ≤ n ∧ j = i + (tm - n)) → (∀ e, k + (if tm - n = 1 then 0 else 1) ≤ e → e < i → st (14 * p + 6 + e) = ty (e + (tm - n))) → (i = n ∨ st (14 * p + 6 + i) ≠ ty j) → V X 0 0 158 [(0, vP (am 0)), (1, vI p), (2, vI n), (3, vI (tm - n)), (4, vI ((14 * p) + 6)), (5, vI k), (6, vI i), (7, vI j)] [] [mdW am (st, bk, un, ck, ty, tm, tx, ln, rf, dg, dn, rk, pl, iw, wd, wm, od, oc)] := by
                  intro i j hi hd hst2
                  refine i_iload (j := 6) (q := 160) C rfl dX8_becomes_158 rfl ?_
                  refine i_iload_n (j := 2) (q := 161) C rfl rfl dX8_becomes_160 rfl ?_
                  refine i_icmp_ne (tgt := 177) (q := 164) C (by omega) (by omega) dX8_becomes_161 (by decide) rfl (fun c_161 => ?_) (fun c_161 => ?_)
                  · skip
                    refine i_iconst (q := 178) C dX8_becomes_177 rfl ?_
                    refine i_zret C hR (by omega) dX8_becomes_178 ?_
                    exact ⟨by
                      simp only [Option.some.injEq, Sum.inl.injEq]
                      rw [if_neg]
                      intro z
                      rcases hst2 with h | h
                      · exact c_161 h
                      · have := (hbx.mp z).2.2 i hi.1 (by omega)
                        exact h (by rw [hi.2.2]; exact this), rfl⟩
                  · skip
                    refine i_iload (j := 7) (q := 166) C rfl dX8_becomes_164 rfl ?_
                    refine i_aload_n (j := 0) (q := 167) C rfl rfl dX8_becomes_166 rfl ?_
                    refine i_get (i := 0) (j := 0) (f := 5) (q := 170) C rfl rfl rfl hi_X8_becomes_X8 (by decide) lk_X8_becomes_53 rfl dX8_becomes_167 rfl ?_
                    refine i_icmp_ne (tgt := 177) (q := 173) C (by omega) (by omega) dX8_becomes_170 (by decide) rfl (fun c_170 => ?_) (fun c_170 => ?_)
                    · skip
                      refine i_iconst (q := 178) C dX8_becomes_177 rfl ?_
                      refine i_zret C hR (by omega) dX8_becomes_178 ?_
                      exact ⟨by
                        simp only [Option.some.injEq, Sum.inl.injEq]
                        omega, rfl⟩
                    · skip
                      refine i_iconst (q := 174) C dX8_becomes_173 rfl ?_
                      refine i_goto (q := 178) C dX8_becomes_174 (by decide) ?_
                      refine i_zret C hR (by omega) dX8_becomes_178 ?_
                      exact ⟨by
                        simp only [Option.some.injEq, Sum.inl.injEq]
                        rw [if_pos]
                        refine hbx.mpr ⟨by omega, fun e => ?_, fun e g0 g1 => hd e g0 (by omega)⟩
                        first | omega | (intro z; omega), rfl⟩
                have loop_114 : ∀ (fuel : Nat) (i : Int) (j : Int), ((n - i).toNat) < fuel → (k + (if tm - n = 1 then 0 else 1) ≤ i ∧ i ≤ n ∧ j = i + (tm - n)) → (∀ e, k + (if tm - n = 1 then 0 else 1) ≤ e → e < i → st (14 * p + 6 + e) = ty (e + (tm - n))) → V X 0 0 114 [(0, vP (am 0)), (1, vI p), (2, vI n), (3, vI (tm - n)), (4, vI ((14 * p) + 6)), (5, vI k), (6, vI i), (7, vI j)] [] [mdW am (st, bk, un, ck, ty, tm, tx, ln, rf, dg, dn, rk, pl, iw, wd, wm, od, oc)] := by
                  intro fuel
                  induction fuel with
                  | zero => intro i j hz; exact absurd hz (Nat.not_lt_zero _)
                  | succ fuel ih_114 =>
                    intro i j hfu_114 hi hd
                    refine i_iload (j := 6) (q := 116) C rfl dX8_becomes_114 rfl ?_
                    refine i_iload_n (j := 2) (q := 117) C rfl rfl dX8_becomes_116 rfl ?_
                    refine i_icmp_ge (tgt := 158) (q := 120) C (by omega) (by omega) dX8_becomes_117 (by decide) rfl (fun c_117 => ?_) (fun c_117 => ?_)
                    · skip
                      exact join_158 (i) (j) (hi) (hd) (by first | exact Or.inl (by omega) | exact Or.inr c_146)
                    · skip
                      refine i_iload (j := 7) (q := 122) C rfl dX8_becomes_120 rfl ?_
                      refine i_aload_n (j := 0) (q := 123) C rfl rfl dX8_becomes_122 rfl ?_
                      refine i_get (i := 0) (j := 0) (f := 5) (q := 126) C rfl rfl rfl hi_X8_becomes_X8 (by decide) lk_X8_becomes_53 rfl dX8_becomes_123 rfl ?_
                      refine i_icmp_ge (tgt := 158) (q := 129) C (by omega) (by omega) dX8_becomes_126 (by decide) rfl (fun c_126 => ?_) (fun c_126 => ?_)
                      · skip
                        exact join_158 (i) (j) (hi) (hd) (by first | exact Or.inl (by omega) | exact Or.inr c_146)
                      · skip
                        refine i_aload_n (j := 0) (q := 130) C rfl rfl dX8_becomes_129 rfl ?_
                        refine i_get (i := 0) (j := 0) (f := 0) (q := 133) C rfl rfl rfl hi_X8_becomes_X8 (by decide) lk_X8_becomes_7 rfl dX8_becomes_130 rfl ?_
                        refine i_iload (j := 4) (q := 135) C rfl dX8_becomes_133 rfl ?_
                        refine i_iload (j := 6) (q := 137) C rfl dX8_becomes_135 rfl ?_
                        refine i_iadd (q := 138) C dX8_becomes_137 rfl ?_
                        refine i_iald (i := 0) (j := 1) (q := 139) C rfl rfl (by omega) dX8_becomes_138 rfl ?_
                        have ld_138 := hs.k6 p (by omega) (by omega) i (by omega) (by omega)
                        refine i_aload_n (j := 0) (q := 140) C rfl rfl dX8_becomes_139 rfl ?_
                        refine i_get (i := 0) (j := 0) (f := 4) (q := 143) C rfl rfl rfl hi_X8_becomes_X8 (by decide) lk_X8_becomes_17 rfl dX8_becomes_140 rfl ?_
                        refine i_iload (j := 7) (q := 145) C rfl dX8_becomes_143 rfl ?_
                        refine i_iald (i := 0) (j := 3) (q := 146) C rfl rfl (by omega) dX8_becomes_145 rfl ?_
                        have ld_145 := hty j (by omega) (by omega)
                        refine i_icmp_ne (tgt := 158) (q := 149) C (by omega) (by omega) dX8_becomes_146 (by decide) rfl (fun c_146 => ?_) (fun c_146 => ?_)
                        · skip
                          exact join_158 (i) (j) (hi) (hd) (by first | exact Or.inl (by omega) | exact Or.inr c_146)
                        · skip
                          refine i_iinc (j := 6) (q := 152) (lv' := [(6, vI (i + 1)), (0, vP (am 0)), (1, vI p), (2, vI n), (3, vI (tm - n)), (4, vI ((14 * p) + 6)), (5, vI k), (7, vI j)]) C rfl (by decide) rfl dX8_becomes_149 rfl ?_
                          refine i_iinc (j := 7) (q := 155) (lv' := [(7, vI (j + 1)), (6, vI (i + 1)), (0, vP (am 0)), (1, vI p), (2, vI n), (3, vI (tm - n)), (4, vI ((14 * p) + 6)), (5, vI k)]) C rfl (by decide) rfl dX8_becomes_152 rfl ?_
                          refine i_goto (q := 114) C dX8_becomes_155 (by decide) ?_
                          refine V.lv [2, 3, 4, 5, 6, 7, 1, 0] rfl ?_
                          exact ih_114 (i + 1) (j + 1) (by omega) (by omega) (fun e g0 g1 => by
                            by_cases e2 : e = i
                            · subst e2; rw [c_146]; congr 1; omega
                            · exact hd e g0 (by omega))
                refine V.lv [2, 3, 4, 5, 6, 7, 1, 0] rfl ?_
                exact loop_114 _ (k + 0) (k + 0) (Nat.lt_succ_self _) (by split <;> omega) (fun e g0 g1 => by split at g0 <;> omega)
          · skip
            refine i_iconst (q := 83) C dX8_becomes_82 rfl ?_
            refine i_zret C hR (by omega) dX8_becomes_83 ?_
            exact ⟨by
              simp only [Option.some.injEq, Sum.inl.injEq]
              rw [if_neg]
              intro z
              exact (hbx.mp z).2.1 (by omega) (by omega), rfl⟩
      have loop_31 : ∀ (fuel : Nat) (k : Int), ((n - k).toNat) < fuel → (0 ≤ k ∧ k ≤ n ∧ k ≤ tm) → (∀ j, 0 ≤ j → j < k → st (14 * p + 6 + j) = ty j) → V X 0 0 31 [(0, vP (am 0)), (1, vI p), (2, vI n), (3, vI (tm - n)), (4, vI ((14 * p) + 6)), (5, vI k)] [] [mdW am (st, bk, un, ck, ty, tm, tx, ln, rf, dg, dn, rk, pl, iw, wd, wm, od, oc)] := by
        intro fuel
        induction fuel with
        | zero => intro k hz; exact absurd hz (Nat.not_lt_zero _)
        | succ fuel ih_31 =>
          intro k hfu_31 hk he
          refine i_iload (j := 5) (q := 33) C rfl dX8_becomes_31 rfl ?_
          refine i_iload_n (j := 2) (q := 34) C rfl rfl dX8_becomes_33 rfl ?_
          refine i_icmp_ge (tgt := 72) (q := 37) C (by omega) (by omega) dX8_becomes_34 (by decide) rfl (fun c_34 => ?_) (fun c_34 => ?_)
          · skip
            exact join_72 (k) (by omega) (he) (by first | exact Or.inl (by omega) | exact Or.inr (Or.inl (by omega)) | exact Or.inr (Or.inr c_63))
          · skip
            refine i_iload (j := 5) (q := 39) C rfl dX8_becomes_37 rfl ?_
            refine i_aload_n (j := 0) (q := 40) C rfl rfl dX8_becomes_39 rfl ?_
            refine i_get (i := 0) (j := 0) (f := 5) (q := 43) C rfl rfl rfl hi_X8_becomes_X8 (by decide) lk_X8_becomes_53 rfl dX8_becomes_40 rfl ?_
            refine i_icmp_ge (tgt := 72) (q := 46) C (by omega) (by omega) dX8_becomes_43 (by decide) rfl (fun c_43 => ?_) (fun c_43 => ?_)
            · skip
              exact join_72 (k) (by omega) (he) (by first | exact Or.inl (by omega) | exact Or.inr (Or.inl (by omega)) | exact Or.inr (Or.inr c_63))
            · skip
              refine i_aload_n (j := 0) (q := 47) C rfl rfl dX8_becomes_46 rfl ?_
              refine i_get (i := 0) (j := 0) (f := 0) (q := 50) C rfl rfl rfl hi_X8_becomes_X8 (by decide) lk_X8_becomes_7 rfl dX8_becomes_47 rfl ?_
              refine i_iload (j := 4) (q := 52) C rfl dX8_becomes_50 rfl ?_
              refine i_iload (j := 5) (q := 54) C rfl dX8_becomes_52 rfl ?_
              refine i_iadd (q := 55) C dX8_becomes_54 rfl ?_
              refine i_iald (i := 0) (j := 1) (q := 56) C rfl rfl (by omega) dX8_becomes_55 rfl ?_
              have ld_55 := hs.k6 p (by omega) (by omega) k (by omega) (by omega)
              refine i_aload_n (j := 0) (q := 57) C rfl rfl dX8_becomes_56 rfl ?_
              refine i_get (i := 0) (j := 0) (f := 4) (q := 60) C rfl rfl rfl hi_X8_becomes_X8 (by decide) lk_X8_becomes_17 rfl dX8_becomes_57 rfl ?_
              refine i_iload (j := 5) (q := 62) C rfl dX8_becomes_60 rfl ?_
              refine i_iald (i := 0) (j := 3) (q := 63) C rfl rfl (by omega) dX8_becomes_62 rfl ?_
              have ld_62 := hty k (by omega) (by omega)
              refine i_icmp_ne (tgt := 72) (q := 66) C (by omega) (by omega) dX8_becomes_63 (by decide) rfl (fun c_63 => ?_) (fun c_63 => ?_)
              · skip
                exact join_72 (k) (by omega) (he) (by first | exact Or.inl (by omega) | exact Or.inr (Or.inl (by omega)) | exact Or.inr (Or.inr c_63))
              · skip
                refine i_iinc (j := 5) (q := 69) (lv' := [(5, vI (k + 1)), (0, vP (am 0)), (1, vI p), (2, vI n), (3, vI (tm - n)), (4, vI ((14 * p) + 6))]) C rfl (by decide) rfl dX8_becomes_66 rfl ?_
                refine i_goto (q := 31) C dX8_becomes_69 (by decide) ?_
                refine V.lv [1, 2, 3, 4, 5, 0] rfl ?_
                exact ih_31 (k + 1) (by omega) (by omega) (fun j g0 g1 => by
                  by_cases e : j = k
                  · subst e; exact c_63
                  · exact he j g0 (by omega))
      refine V.lv [3, 4, 5, 2, 1, 0] rfl ?_
      exact loop_31 _ (0) (Nat.lt_succ_self _) (by omega) (fun k _ _ => by omega)
    · skip
      refine i_iconst (q := 18) C dX8_becomes_17 rfl ?_
      refine i_zret C hR (by omega) dX8_becomes_18 ?_
      exact ⟨by
        simp only [Option.some.injEq, Sum.inl.injEq]
        rw [if_neg]
        intro z
        have hcl := cp_le (rg (fun k => st (14 * p + 6 + k)) n) (rg ty tm)
        have := ((bec_rg (f := (fun k => st (14 * p + 6 + k))) (g := ty) (n := n) (m := tm) hn.1 htm.1 rfl).mp z).1
        omega, rfl⟩
