theorem lk_X0_slotOf_31 : Cond.fieldLink RX0 31 (TX0 6).1 (TX0 6).2.1 (TX0 6).2.2.1 ∈ wsX0_slotOf := List.mem_of_getElem? (i := 1) rfl
theorem hi_X0_slotOf_X0 : ∀ w ∈ u_ws RX0 TX0 10, w ∈ wsX0_slotOf := by decide +kernel
theorem lk_X0_slotOf_9 : Cond.fieldLink RX0 9 (TX0 0).1 (TX0 0).2.1 (TX0 0).2.2.1 ∈ wsX0_slotOf := List.mem_of_getElem? (i := 2) rfl
set_option maxHeartbeats 4000000 in
set_option maxRecDepth 100000 in
theorem c_X0_slotOf (K : KT) (l : Launch) (ab : Nat → Nat) (nu : Int → Int) (wo : Int → Int) (sc : Int → Int) (me : Int → Int) (us : Int → Int) (la : Int → Int) (ct : Int) (gv : Int) (kd : Int) (sl : Int) (x : Int) (hct : 0 ≤ ct ∧ ct ≤ 40) (hnu : ∀ j, 0 ≤ j → j < ct → rI (nu j)) (hx : rI x) : Mt K l yX0_slotOf wsX0_slotOf ({ frames := 0, cells := 0, slots := 0, locals := 0 }) [vP (ab 0), vI x] [bkW ab (nu, wo, sc, me, us, la, ct, gv, kd, sl)] 0 0 (fun v w => ∃ r : Int, v = some (vI r) ∧ w = [bkW ab (nu, wo, sc, me, us, la, ct, gv, kd, sl)] ∧ ((r = -1 ∧ ∀ j, 0 ≤ j → j < ct → nu j ≠ x) ∨ (0 ≤ r ∧ r < ct ∧ nu r = x))) := by
  refine Mt.of (own := RX0) (cc := cX0_slotOf) (maxL := 3) (ret := (some .int)) (lv0 := [(0, vP (ab 0)), (1, vI x)]) (by decide) rfl rfl (Nat.le_of_ble_eq_true rfl) rfl (fun X C hR hN => ?_)
  refine i_iconst (q := 1) C dX0_slotOf_0 rfl ?_
  refine i_istore_n (q := 2) (lv' := [(2, vI 0), (0, vP (ab 0)), (1, vI x)]) C rfl (by decide) rfl dX0_slotOf_1 rfl ?_
  have loop_2 : ∀ (fuel : Nat) (i : Int), ((ct - i).toNat) < fuel → (0 ≤ i ∧ i ≤ ct) → (∀ j, 0 ≤ j → j < i → nu j ≠ x) → V X 0 0 2 [(0, vP (ab 0)), (1, vI x), (2, vI i)] [] [bkW ab (nu, wo, sc, me, us, la, ct, gv, kd, sl)] := by
    intro fuel
    induction fuel with
    | zero => intro i hz; exact absurd hz (Nat.not_lt_zero _)
    | succ fuel ih_2 =>
      intro i hfu_2 hi hv
      refine i_iload_n (j := 2) (q := 3) C rfl rfl dX0_slotOf_2 rfl ?_
      refine i_aload_n (j := 0) (q := 4) C rfl rfl dX0_slotOf_3 rfl ?_
      refine i_get (i := 0) (j := 0) (f := 6) (q := 7) C rfl rfl rfl hi_X0_slotOf_X0 (by decide) lk_X0_slotOf_31 rfl dX0_slotOf_4 rfl ?_
      refine i_icmp_ge (tgt := 28) (q := 10) C (by omega) (by omega) dX0_slotOf_7 (by decide) rfl (fun c_7 => ?_) (fun c_7 => ?_)
      · skip
        refine i_iconst (q := 29) C dX0_slotOf_28 rfl ?_
        refine i_iret C hR dX0_slotOf_29 ?_
        exact ⟨-1, rfl, rfl, Or.inl ⟨rfl, fun j h0 h1 => hv j h0 (by omega)⟩⟩
      · skip
        refine i_aload_n (j := 0) (q := 11) C rfl rfl dX0_slotOf_10 rfl ?_
        refine i_get (i := 0) (j := 0) (f := 0) (q := 14) C rfl rfl rfl hi_X0_slotOf_X0 (by decide) lk_X0_slotOf_9 rfl dX0_slotOf_11 rfl ?_
        refine i_iload_n (j := 2) (q := 15) C rfl rfl dX0_slotOf_14 rfl ?_
        refine i_iald (i := 0) (j := 1) (q := 16) C rfl rfl (by omega) dX0_slotOf_15 rfl ?_
        have ld_15 := hnu i (by omega) (by omega)
        refine i_iload_n (j := 1) (q := 17) C rfl rfl dX0_slotOf_16 rfl ?_
        refine i_icmp_ne (tgt := 22) (q := 20) C (by omega) (by omega) dX0_slotOf_17 (by decide) rfl (fun c_17 => ?_) (fun c_17 => ?_)
        · skip
          refine i_iinc (j := 2) (q := 25) (lv' := [(2, vI (i + 1)), (0, vP (ab 0)), (1, vI x)]) C rfl (by decide) rfl dX0_slotOf_22 rfl ?_
          refine i_goto (q := 2) C dX0_slotOf_25 (by decide) ?_
          refine V.lv [1, 2, 0] rfl ?_
          exact ih_2 (i + 1) (by omega) (by omega) (fun j h0 h1 => by
            by_cases e : j = i
            · subst e; exact c_17
            · exact hv j h0 (by omega))
        · skip
          refine i_iload_n (j := 2) (q := 21) C rfl rfl dX0_slotOf_20 rfl ?_
          refine i_iret C hR dX0_slotOf_21 ?_
          exact ⟨i, rfl, rfl, Or.inr ⟨by omega, by omega, c_17⟩⟩
  refine V.lv [1, 2, 0] rfl ?_
  exact loop_2 _ (0) (Nat.lt_succ_self _) (by omega) (fun j h0 h1 => by omega)

theorem lk_X0_slotSpelled_31 : Cond.fieldLink RX0 31 (TX0 6).1 (TX0 6).2.1 (TX0 6).2.2.1 ∈ wsX0_slotSpelled := List.mem_of_getElem? (i := 1) rfl
theorem hi_X0_slotSpelled_X0 : ∀ w ∈ u_ws RX0 TX0 10, w ∈ wsX0_slotSpelled := by decide +kernel
theorem lk_X0_slotSpelled_15 : Cond.fieldLink RX0 15 (TX0 1).1 (TX0 1).2.1 (TX0 1).2.2.1 ∈ wsX0_slotSpelled := List.mem_of_getElem? (i := 2) rfl
set_option maxHeartbeats 4000000 in
set_option maxRecDepth 100000 in
theorem c_X0_slotSpelled (K : KT) (l : Launch) (ab : Nat → Nat) (nu : Int → Int) (wo : Int → Int) (sc : Int → Int) (me : Int → Int) (us : Int → Int) (la : Int → Int) (ct : Int) (gv : Int) (kd : Int) (sl : Int) (x : Int) (hct : 0 ≤ ct ∧ ct ≤ 40) (hwo : ∀ j, 0 ≤ j → j < ct → rL (wo j)) (hx : rL x) : Mt K l yX0_slotSpelled wsX0_slotSpelled ({ frames := 0, cells := 0, slots := 0, locals := 0 }) [vP (ab 0), vJ x] [bkW ab (nu, wo, sc, me, us, la, ct, gv, kd, sl)] 0 0 (fun v w => ∃ r : Int, v = some (vI r) ∧ w = [bkW ab (nu, wo, sc, me, us, la, ct, gv, kd, sl)] ∧ ((r = -1 ∧ ∀ j, 0 ≤ j → j < ct → wo j ≠ x) ∨ (0 ≤ r ∧ r < ct ∧ wo r = x))) := by
  refine Mt.of (own := RX0) (cc := cX0_slotSpelled) (maxL := 4) (ret := (some .int)) (lv0 := [(0, vP (ab 0)), (1, vJ x)]) (by decide) rfl rfl (Nat.le_of_ble_eq_true rfl) rfl (fun X C hR hN => ?_)
  refine i_iconst (q := 1) C dX0_slotSpelled_0 rfl ?_
  refine i_istore_n (q := 2) (lv' := [(3, vI 0), (0, vP (ab 0)), (1, vJ x)]) C rfl (by decide) rfl dX0_slotSpelled_1 rfl ?_
  have loop_2 : ∀ (fuel : Nat) (i : Int), ((ct - i).toNat) < fuel → (0 ≤ i ∧ i ≤ ct) → (∀ j, 0 ≤ j → j < i → wo j ≠ x) → V X 0 0 2 [(0, vP (ab 0)), (1, vJ x), (3, vI i)] [] [bkW ab (nu, wo, sc, me, us, la, ct, gv, kd, sl)] := by
    intro fuel
    induction fuel with
    | zero => intro i hz; exact absurd hz (Nat.not_lt_zero _)
    | succ fuel ih_2 =>
      intro i hfu_2 hi hv
      refine i_iload_n (j := 2) (q := 3) C rfl rfl dX0_slotSpelled_2 rfl ?_
      refine i_aload_n (j := 0) (q := 4) C rfl rfl dX0_slotSpelled_3 rfl ?_
      refine i_get (i := 0) (j := 0) (f := 6) (q := 7) C rfl rfl rfl hi_X0_slotSpelled_X0 (by decide) lk_X0_slotSpelled_31 rfl dX0_slotSpelled_4 rfl ?_
      refine i_icmp_ge (tgt := 29) (q := 10) C (by omega) (by omega) dX0_slotSpelled_7 (by decide) rfl (fun c_7 => ?_) (fun c_7 => ?_)
      · skip
        refine i_iconst (q := 30) C dX0_slotSpelled_29 rfl ?_
        refine i_iret C hR dX0_slotSpelled_30 ?_
        exact ⟨-1, rfl, rfl, Or.inl ⟨rfl, fun j h0 h1 => hv j h0 (by omega)⟩⟩
      · skip
        refine i_aload_n (j := 0) (q := 11) C rfl rfl dX0_slotSpelled_10 rfl ?_
        refine i_get (i := 0) (j := 0) (f := 1) (q := 14) C rfl rfl rfl hi_X0_slotSpelled_X0 (by decide) lk_X0_slotSpelled_15 rfl dX0_slotSpelled_11 rfl ?_
        refine i_iload_n (j := 2) (q := 15) C rfl rfl dX0_slotSpelled_14 rfl ?_
        refine i_lald (i := 0) (j := 2) (q := 16) C rfl rfl (by omega) dX0_slotSpelled_15 rfl ?_
        have ld_15 := hwo i (by omega) (by omega)
        refine i_lload_n (j := 1) (q := 17) C rfl rfl dX0_slotSpelled_16 rfl ?_
        refine i_lcmp (q := 18) C (hwo i (by omega) (by omega)) (hx) dX0_slotSpelled_17 rfl ?_
        refine i_if_ne (tgt := 23) (q := 21) C (by split <;> (try split) <;> omega) dX0_slotSpelled_18 (by decide) rfl (fun c_18 => ?_) (fun c_18 => ?_)
        · skip
          have hne : wo i ≠ x := fun e => c_18 (by rw [if_neg (by omega), if_pos e])
          refine i_iinc (j := 2) (q := 26) (lv' := [(3, vI (i + 1)), (0, vP (ab 0)), (1, vJ x)]) C rfl (by decide) rfl dX0_slotSpelled_23 rfl ?_
          refine i_goto (q := 2) C dX0_slotSpelled_26 (by decide) ?_
          refine V.lv [1, 2, 0] rfl ?_
          exact ih_2 (i + 1) (by omega) (by omega) (fun j h0 h1 => by
            by_cases e : j = i
            · subst e; exact hne
            · exact hv j h0 (by omega))
        · skip
          have heq : wo i = x := by
            by_cases h1 : x < wo i
            · rw [if_pos h1] at c_18; omega
            · by_cases h2 : wo i = x
              · exact h2
              · rw [if_neg h1, if_neg h2] at c_18; omega
          refine i_iload_n (j := 2) (q := 22) C rfl rfl dX0_slotSpelled_21 rfl ?_
          refine i_iret C hR dX0_slotSpelled_22 ?_
          exact ⟨i, rfl, rfl, Or.inr ⟨by omega, by omega, heq⟩⟩
  refine V.lv [1, 2, 0] rfl ?_
  exact loop_2 _ (0) (Nat.lt_succ_self _) (by omega) (fun j h0 h1 => by omega)

theorem lk_X0_hasRoom_31 : Cond.fieldLink RX0 31 (TX0 6).1 (TX0 6).2.1 (TX0 6).2.2.1 ∈ wsX0_hasRoom := List.mem_of_getElem? (i := 1) rfl
theorem hi_X0_hasRoom_X0 : ∀ w ∈ u_ws RX0 TX0 10, w ∈ wsX0_hasRoom := by decide +kernel
theorem lk_X0_hasRoom_35 : Cond.fieldLink RX0 35 (TX0 7).1 (TX0 7).2.1 (TX0 7).2.2.1 ∈ wsX0_hasRoom := List.mem_of_getElem? (i := 2) rfl
set_option maxHeartbeats 4000000 in
set_option maxRecDepth 100000 in
theorem c_X0_hasRoom (K : KT) (l : Launch) (ab : Nat → Nat) (nu : Int → Int) (wo : Int → Int) (sc : Int → Int) (me : Int → Int) (us : Int → Int) (la : Int → Int) (ct : Int) (gv : Int) (kd : Int) (sl : Int) (hct : rI ct) (hgv : rI gv) : Mt K l yX0_hasRoom wsX0_hasRoom ({ frames := 0, cells := 0, slots := 0, locals := 0 }) [vP (ab 0)] [bkW ab (nu, wo, sc, me, us, la, ct, gv, kd, sl)] 0 0 (fun v w => v = some (vI (if ct < 40 ∧ gv < 200 then 1 else 0)) ∧ w = [bkW ab (nu, wo, sc, me, us, la, ct, gv, kd, sl)]) := by
  refine Mt.of (own := RX0) (cc := cX0_hasRoom) (maxL := 1) (ret := (some .boolean)) (lv0 := [(0, vP (ab 0))]) (by decide) rfl rfl (Nat.le_of_ble_eq_true rfl) rfl (fun X C hR hN => ?_)
  refine i_aload_n (j := 0) (q := 1) C rfl rfl dX0_hasRoom_0 rfl ?_
  refine i_get (i := 0) (j := 0) (f := 6) (q := 4) C rfl rfl rfl hi_X0_hasRoom_X0 (by decide) lk_X0_hasRoom_31 rfl dX0_hasRoom_1 rfl ?_
  refine i_bipush (q := 6) C (by decide) dX0_hasRoom_4 rfl ?_
  refine i_icmp_ge (tgt := 23) (q := 9) C (by omega) (by omega) dX0_hasRoom_6 (by decide) rfl (fun c_6 => ?_) (fun c_6 => ?_)
  · skip
    refine i_iconst (q := 24) C dX0_hasRoom_23 rfl ?_
    refine i_zret C hR (by omega) dX0_hasRoom_24 ?_
    exact ⟨by simp only [Option.some.injEq, Sum.inl.injEq]; split <;> omega, rfl⟩
  · skip
    refine i_aload_n (j := 0) (q := 10) C rfl rfl dX0_hasRoom_9 rfl ?_
    refine i_get (i := 0) (j := 0) (f := 7) (q := 13) C rfl rfl rfl hi_X0_hasRoom_X0 (by decide) lk_X0_hasRoom_35 rfl dX0_hasRoom_10 rfl ?_
    refine i_sipush (q := 16) C (by decide) dX0_hasRoom_13 rfl ?_
    refine i_icmp_ge (tgt := 23) (q := 19) C (by omega) (by omega) dX0_hasRoom_16 (by decide) rfl (fun c_16 => ?_) (fun c_16 => ?_)
    · skip
      refine i_iconst (q := 24) C dX0_hasRoom_23 rfl ?_
      refine i_zret C hR (by omega) dX0_hasRoom_24 ?_
      exact ⟨by simp only [Option.some.injEq, Sum.inl.injEq]; split <;> omega, rfl⟩
    · skip
      refine i_iconst (q := 20) C dX0_hasRoom_19 rfl ?_
      refine i_goto (q := 24) C dX0_hasRoom_20 (by decide) ?_
      refine i_zret C hR (by omega) dX0_hasRoom_24 ?_
      exact ⟨by simp only [Option.some.injEq, Sum.inl.injEq]; split <;> omega, rfl⟩

theorem hd_X0_hasRoom : yX0_hasRoom.cls = RX0 ∧ yX0_hasRoom.cls ≠ "java/lang/invoke/MethodHandle" ∧ yX0_hasRoom.cls ≠ "java/lang/invoke/VarHandle" ∧ (parseMethodDescriptor yX0_hasRoom.desc).map (fun d => d.parameters.length) = some 0 := by decide +kernel
theorem lk_X0_append_9 : Cond.fieldLink RX0 9 (TX0 0).1 (TX0 0).2.1 (TX0 0).2.2.1 ∈ wsX0_append := List.mem_of_getElem? (i := 1) rfl
theorem hi_X0_append_X0 : ∀ w ∈ u_ws RX0 TX0 10, w ∈ wsX0_append := by decide +kernel
theorem lk_X0_append_31 : Cond.fieldLink RX0 31 (TX0 6).1 (TX0 6).2.1 (TX0 6).2.2.1 ∈ wsX0_append := List.mem_of_getElem? (i := 2) rfl
theorem lk_X0_append_35 : Cond.fieldLink RX0 35 (TX0 7).1 (TX0 7).2.1 (TX0 7).2.2.1 ∈ wsX0_append := List.mem_of_getElem? (i := 3) rfl
theorem lk_X0_append_15 : Cond.fieldLink RX0 15 (TX0 1).1 (TX0 1).2.1 (TX0 1).2.2.1 ∈ wsX0_append := List.mem_of_getElem? (i := 4) rfl
theorem lk_X0_append_19 : Cond.fieldLink RX0 19 (TX0 2).1 (TX0 2).2.1 (TX0 2).2.2.1 ∈ wsX0_append := List.mem_of_getElem? (i := 5) rfl
theorem lk_X0_append_22 : Cond.fieldLink RX0 22 (TX0 3).1 (TX0 3).2.1 (TX0 3).2.2.1 ∈ wsX0_append := List.mem_of_getElem? (i := 6) rfl
theorem lk_X0_append_25 : Cond.fieldLink RX0 25 (TX0 4).1 (TX0 4).2.1 (TX0 4).2.2.1 ∈ wsX0_append := List.mem_of_getElem? (i := 7) rfl
theorem lk_X0_append_28 : Cond.fieldLink RX0 28 (TX0 5).1 (TX0 5).2.1 (TX0 5).2.2.1 ∈ wsX0_append := List.mem_of_getElem? (i := 8) rfl
set_option maxHeartbeats 4000000 in
set_option maxRecDepth 100000 in
theorem c_X0_append (K : KT) (l : Launch) (ab : Nat → Nat) (nu : Int → Int) (wo : Int → Int) (sc : Int → Int) (me : Int → Int) (us : Int → Int) (la : Int → Int) (ct : Int) (gv : Int) (kd : Int) (sl : Int) (x : Int) (y : Int) (z : Int) (hct : 0 ≤ ct ∧ ct < 40) (hgv : 0 ≤ gv ∧ gv < 200) : Mt K l yX0_append wsX0_append ({ frames := 1, cells := 0, slots := 0, locals := 20 }) [vP (ab 0), vJ x, vI y, vI z] [bkW ab (nu, wo, sc, me, us, la, ct, gv, kd, sl)] 0 0 (fun v w => v = some (vI gv) ∧ w = [bkW ab (up nu ct gv, up wo ct x, up sc ct y, up me ct z, up us ct 0, up la ct (-1), ct + 1, gv + 1, kd, sl)]) := by
  refine Mt.of (own := RX0) (cc := cX0_append) (maxL := 5) (ret := (some .int)) (lv0 := [(0, vP (ab 0)), (1, vJ x), (3, vI y), (4, vI z)]) (by decide) rfl rfl (Nat.le_of_ble_eq_true rfl) rfl (fun X C hR hN => ?_)
  refine i_aload_n (j := 0) (q := 1) C rfl rfl dX0_append_0 rfl ?_
  refine i_callV (wr := []) (As := []) (st := []) (i := 0) (j := 0) (q := 4) C (c_X0_hasRoom K l (ab) (nu) (wo) (sc) (me) (us) (la) (ct) (gv) (kd) (sl) (by first | assumption | omega) (by first | assumption | omega)) gX0_append_X0_hasRoom rfl hd_X0_hasRoom ⟨Nat.le_of_ble_eq_true rfl, Nat.le_of_ble_eq_true rfl⟩ ⟨rfl, rfl⟩ ⟨Nat.le_of_ble_eq_true rfl, Nat.le_of_ble_eq_true rfl⟩ (permBy [0] (by decide) rfl rfl) rfl rfl rfl rfl (Nat.le_of_ble_eq_true rfl) dX0_append_1 rfl (fun v w hq => ?_)
  obtain ⟨rfl, rfl⟩ := hq
  show V X 0 0 4 [(0, vP (ab 0)), (1, vJ x), (3, vI y), (4, vI z)] [vI (if ct < 40 ∧ gv < 200 then 1 else 0)] [bkW ab (nu, wo, sc, me, us, la, ct, gv, kd, sl)]
  refine i_if_ne (tgt := 9) (q := 7) C (by split <;> omega) dX0_append_4 (by decide) rfl (fun c_4 => ?_) (fun c_4 => ?_)
  · skip
    refine i_aload_n (j := 0) (q := 10) C rfl rfl dX0_append_9 rfl ?_
    refine i_get (i := 0) (j := 0) (f := 0) (q := 13) C rfl rfl rfl hi_X0_append_X0 (by decide) lk_X0_append_9 rfl dX0_append_10 rfl ?_
    refine i_aload_n (j := 0) (q := 14) C rfl rfl dX0_append_13 rfl ?_
    refine i_get (i := 0) (j := 0) (f := 6) (q := 17) C rfl rfl rfl hi_X0_append_X0 (by decide) lk_X0_append_31 rfl dX0_append_14 rfl ?_
    refine i_aload_n (j := 0) (q := 18) C rfl rfl dX0_append_17 rfl ?_
    refine i_get (i := 0) (j := 0) (f := 7) (q := 21) C rfl rfl rfl hi_X0_append_X0 (by decide) lk_X0_append_35 rfl dX0_append_18 rfl ?_
    refine i_iast (i := 0) (j := 1) (q := 22) (cs' := [bkW ab (up nu ct gv, wo, sc, me, us, la, ct, gv, kd, sl)]) C rfl rfl (by omega) dX0_append_21 rfl rfl ?_
    refine i_aload_n (j := 0) (q := 23) C rfl rfl dX0_append_22 rfl ?_
    refine i_get (i := 0) (j := 0) (f := 1) (q := 26) C rfl rfl rfl hi_X0_append_X0 (by decide) lk_X0_append_15 rfl dX0_append_23 rfl ?_
    refine i_aload_n (j := 0) (q := 27) C rfl rfl dX0_append_26 rfl ?_
    refine i_get (i := 0) (j := 0) (f := 6) (q := 30) C rfl rfl rfl hi_X0_append_X0 (by decide) lk_X0_append_31 rfl dX0_append_27 rfl ?_
    refine i_lload_n (j := 1) (q := 31) C rfl rfl dX0_append_30 rfl ?_
    refine i_last (i := 0) (j := 2) (q := 32) (cs' := [bkW ab (up nu ct gv, up wo ct x, sc, me, us, la, ct, gv, kd, sl)]) C rfl rfl (by omega) dX0_append_31 rfl rfl ?_
    refine i_aload_n (j := 0) (q := 33) C rfl rfl dX0_append_32 rfl ?_
    refine i_get (i := 0) (j := 0) (f := 2) (q := 36) C rfl rfl rfl hi_X0_append_X0 (by decide) lk_X0_append_19 rfl dX0_append_33 rfl ?_
    refine i_aload_n (j := 0) (q := 37) C rfl rfl dX0_append_36 rfl ?_
    refine i_get (i := 0) (j := 0) (f := 6) (q := 40) C rfl rfl rfl hi_X0_append_X0 (by decide) lk_X0_append_31 rfl dX0_append_37 rfl ?_
    refine i_iload_n (j := 2) (q := 41) C rfl rfl dX0_append_40 rfl ?_
    refine i_iast (i := 0) (j := 3) (q := 42) (cs' := [bkW ab (up nu ct gv, up wo ct x, up sc ct y, me, us, la, ct, gv, kd, sl)]) C rfl rfl (by omega) dX0_append_41 rfl rfl ?_
    refine i_aload_n (j := 0) (q := 43) C rfl rfl dX0_append_42 rfl ?_
    refine i_get (i := 0) (j := 0) (f := 3) (q := 46) C rfl rfl rfl hi_X0_append_X0 (by decide) lk_X0_append_22 rfl dX0_append_43 rfl ?_
    refine i_aload_n (j := 0) (q := 47) C rfl rfl dX0_append_46 rfl ?_
    refine i_get (i := 0) (j := 0) (f := 6) (q := 50) C rfl rfl rfl hi_X0_append_X0 (by decide) lk_X0_append_31 rfl dX0_append_47 rfl ?_
    refine i_iload (j := 3) (q := 52) C rfl dX0_append_50 rfl ?_
    refine i_iast (i := 0) (j := 4) (q := 53) (cs' := [bkW ab (up nu ct gv, up wo ct x, up sc ct y, up me ct z, us, la, ct, gv, kd, sl)]) C rfl rfl (by omega) dX0_append_52 rfl rfl ?_
    refine i_aload_n (j := 0) (q := 54) C rfl rfl dX0_append_53 rfl ?_
    refine i_get (i := 0) (j := 0) (f := 4) (q := 57) C rfl rfl rfl hi_X0_append_X0 (by decide) lk_X0_append_25 rfl dX0_append_54 rfl ?_
    refine i_aload_n (j := 0) (q := 58) C rfl rfl dX0_append_57 rfl ?_
    refine i_get (i := 0) (j := 0) (f := 6) (q := 61) C rfl rfl rfl hi_X0_append_X0 (by decide) lk_X0_append_31 rfl dX0_append_58 rfl ?_
    refine i_iconst (q := 62) C dX0_append_61 rfl ?_
    refine i_iast (i := 0) (j := 5) (q := 63) (cs' := [bkW ab (up nu ct gv, up wo ct x, up sc ct y, up me ct z, up us ct 0, la, ct, gv, kd, sl)]) C rfl rfl (by omega) dX0_append_62 rfl rfl ?_
    refine i_aload_n (j := 0) (q := 64) C rfl rfl dX0_append_63 rfl ?_
    refine i_get (i := 0) (j := 0) (f := 5) (q := 67) C rfl rfl rfl hi_X0_append_X0 (by decide) lk_X0_append_28 rfl dX0_append_64 rfl ?_
    refine i_aload_n (j := 0) (q := 68) C rfl rfl dX0_append_67 rfl ?_
    refine i_get (i := 0) (j := 0) (f := 6) (q := 71) C rfl rfl rfl hi_X0_append_X0 (by decide) lk_X0_append_31 rfl dX0_append_68 rfl ?_
    refine i_iconst (q := 72) C dX0_append_71 rfl ?_
    refine i_iast (i := 0) (j := 6) (q := 73) (cs' := [bkW ab (up nu ct gv, up wo ct x, up sc ct y, up me ct z, up us ct 0, up la ct (-1), ct, gv, kd, sl)]) C rfl rfl (by omega) dX0_append_72 rfl rfl ?_
    refine i_aload_n (j := 0) (q := 74) C rfl rfl dX0_append_73 rfl ?_
    refine i_dup (q := 75) C rfl dX0_append_74 rfl ?_
    refine i_get (i := 0) (j := 0) (f := 6) (q := 78) C rfl rfl rfl hi_X0_append_X0 (by decide) lk_X0_append_31 rfl dX0_append_75 rfl ?_
    refine i_iconst (q := 79) C dX0_append_78 rfl ?_
    refine i_iadd (q := 80) C dX0_append_79 rfl ?_
    refine i_putI (i := 0) (j := 0) (f := 6) (q := 83) (cs' := [bkW ab (up nu ct gv, up wo ct x, up sc ct y, up me ct z, up us ct 0, up la ct (-1), ct + 1, gv, kd, sl)]) C rfl rfl rfl hi_X0_append_X0 tyX0 tyX0_ok nmX0 (by decide) (Nat.le_of_ble_eq_true rfl) lk_X0_append_31 rfl rfl dX0_append_80 rfl rfl ?_
    refine i_aload_n (j := 0) (q := 84) C rfl rfl dX0_append_83 rfl ?_
    refine i_dup (q := 85) C rfl dX0_append_84 rfl ?_
    refine i_get (i := 0) (j := 0) (f := 7) (q := 88) C rfl rfl rfl hi_X0_append_X0 (by decide) lk_X0_append_35 rfl dX0_append_85 rfl ?_
    refine i_iconst (q := 89) C dX0_append_88 rfl ?_
    refine i_iadd (q := 90) C dX0_append_89 rfl ?_
    refine i_putI (i := 0) (j := 0) (f := 7) (q := 93) (cs' := [bkW ab (up nu ct gv, up wo ct x, up sc ct y, up me ct z, up us ct 0, up la ct (-1), ct + 1, gv + 1, kd, sl)]) C rfl rfl rfl hi_X0_append_X0 tyX0 tyX0_ok nmX0 (by decide) (Nat.le_of_ble_eq_true rfl) lk_X0_append_35 rfl rfl dX0_append_90 rfl rfl ?_
    refine i_aload_n (j := 0) (q := 94) C rfl rfl dX0_append_93 rfl ?_
    refine i_get (i := 0) (j := 0) (f := 7) (q := 97) C rfl rfl rfl hi_X0_append_X0 (by decide) lk_X0_append_35 rfl dX0_append_94 rfl ?_
    refine i_iconst (q := 98) C dX0_append_97 rfl ?_
    refine i_isub (q := 99) C dX0_append_98 rfl ?_
    refine i_iret C hR dX0_append_99 ?_
    exact ⟨by simp only [Option.some.injEq, Sum.inl.injEq]; omega, rfl⟩
  · skip
    exact absurd c_4 (by rw [if_pos (by omega)]; omega)

theorem lk_X0_moveInto_9 : Cond.fieldLink RX0 9 (TX0 0).1 (TX0 0).2.1 (TX0 0).2.2.1 ∈ wsX0_moveInto := List.mem_of_getElem? (i := 1) rfl
theorem hi_X0_moveInto_X0 : ∀ w ∈ u_ws RX0 TX0 10, w ∈ wsX0_moveInto := by decide +kernel
theorem lk_X0_moveInto_15 : Cond.fieldLink RX0 15 (TX0 1).1 (TX0 1).2.1 (TX0 1).2.2.1 ∈ wsX0_moveInto := List.mem_of_getElem? (i := 2) rfl
theorem lk_X0_moveInto_19 : Cond.fieldLink RX0 19 (TX0 2).1 (TX0 2).2.1 (TX0 2).2.2.1 ∈ wsX0_moveInto := List.mem_of_getElem? (i := 3) rfl
theorem lk_X0_moveInto_22 : Cond.fieldLink RX0 22 (TX0 3).1 (TX0 3).2.1 (TX0 3).2.2.1 ∈ wsX0_moveInto := List.mem_of_getElem? (i := 4) rfl
theorem lk_X0_moveInto_25 : Cond.fieldLink RX0 25 (TX0 4).1 (TX0 4).2.1 (TX0 4).2.2.1 ∈ wsX0_moveInto := List.mem_of_getElem? (i := 5) rfl
theorem lk_X0_moveInto_28 : Cond.fieldLink RX0 28 (TX0 5).1 (TX0 5).2.1 (TX0 5).2.2.1 ∈ wsX0_moveInto := List.mem_of_getElem? (i := 6) rfl
set_option maxHeartbeats 4000000 in
set_option maxRecDepth 100000 in
theorem c_X0_moveInto (K : KT) (l : Launch) (ab : Nat → Nat) (nu : Int → Int) (wo : Int → Int) (sc : Int → Int) (me : Int → Int) (us : Int → Int) (la : Int → Int) (ct : Int) (gv : Int) (kd : Int) (sl : Int) (ab2 : Nat → Nat) (nu2 : Int → Int) (wo2 : Int → Int) (sc2 : Int → Int) (me2 : Int → Int) (us2 : Int → Int) (la2 : Int → Int) (ct2 : Int) (gv2 : Int) (kd2 : Int) (sl2 : Int) (x : Int) (y : Int) (hx : 0 ≤ x ∧ x < 40) (hy : 0 ≤ y ∧ y < 40) : Mt K l yX0_moveInto wsX0_moveInto ({ frames := 0, cells := 0, slots := 0, locals := 0 }) [vP (ab 0), vI x, vP (ab2 0), vI y] [bkW ab (nu, wo, sc, me, us, la, ct, gv, kd, sl), bkW ab2 (nu2, wo2, sc2, me2, us2, la2, ct2, gv2, kd2, sl2)] 0 0 (fun v w => v = none ∧ w = [bkW ab (up nu x (nu2 y), up wo x (wo2 y), up sc x (sc2 y), up me x (me2 y), up us x (us2 y), up la x (la2 y), ct, gv, kd, sl), bkW ab2 (nu2, wo2, sc2, me2, us2, la2, ct2, gv2, kd2, sl2)]) := by
  refine Mt.of (own := RX0) (cc := cX0_moveInto) (maxL := 4) (ret := none) (lv0 := [(0, vP (ab 0)), (1, vI x), (2, vP (ab2 0)), (3, vI y)]) (by decide) rfl rfl (Nat.le_of_ble_eq_true rfl) rfl (fun X C hR hN => ?_)
  refine i_aload_n (j := 0) (q := 1) C rfl rfl dX0_moveInto_0 rfl ?_
  refine i_get (i := 0) (j := 0) (f := 0) (q := 4) C rfl rfl rfl hi_X0_moveInto_X0 (by decide) lk_X0_moveInto_9 rfl dX0_moveInto_1 rfl ?_
  refine i_iload_n (j := 1) (q := 5) C rfl rfl dX0_moveInto_4 rfl ?_
  refine i_aload_n (j := 2) (q := 6) C rfl rfl dX0_moveInto_5 rfl ?_
  refine i_get (i := 1) (j := 0) (f := 0) (q := 9) C rfl rfl rfl hi_X0_moveInto_X0 (by decide) lk_X0_moveInto_9 rfl dX0_moveInto_6 rfl ?_
  refine i_iload_n (j := 3) (q := 10) C rfl rfl dX0_moveInto_9 rfl ?_
  refine i_iald (i := 1) (j := 1) (q := 11) C rfl rfl (by omega) dX0_moveInto_10 rfl ?_
  refine i_iast (i := 0) (j := 1) (q := 12) (cs' := [bkW ab (up nu x (nu2 y), wo, sc, me, us, la, ct, gv, kd, sl), bkW ab2 (nu2, wo2, sc2, me2, us2, la2, ct2, gv2, kd2, sl2)]) C rfl rfl (by omega) dX0_moveInto_11 rfl rfl ?_
  refine i_aload_n (j := 0) (q := 13) C rfl rfl dX0_moveInto_12 rfl ?_
  refine i_get (i := 0) (j := 0) (f := 1) (q := 16) C rfl rfl rfl hi_X0_moveInto_X0 (by decide) lk_X0_moveInto_15 rfl dX0_moveInto_13 rfl ?_
  refine i_iload_n (j := 1) (q := 17) C rfl rfl dX0_moveInto_16 rfl ?_
  refine i_aload_n (j := 2) (q := 18) C rfl rfl dX0_moveInto_17 rfl ?_
  refine i_get (i := 1) (j := 0) (f := 1) (q := 21) C rfl rfl rfl hi_X0_moveInto_X0 (by decide) lk_X0_moveInto_15 rfl dX0_moveInto_18 rfl ?_
  refine i_iload_n (j := 3) (q := 22) C rfl rfl dX0_moveInto_21 rfl ?_
  refine i_lald (i := 1) (j := 2) (q := 23) C rfl rfl (by omega) dX0_moveInto_22 rfl ?_
  refine i_last (i := 0) (j := 2) (q := 24) (cs' := [bkW ab (up nu x (nu2 y), up wo x (wo2 y), sc, me, us, la, ct, gv, kd, sl), bkW ab2 (nu2, wo2, sc2, me2, us2, la2, ct2, gv2, kd2, sl2)]) C rfl rfl (by omega) dX0_moveInto_23 rfl rfl ?_
  refine i_aload_n (j := 0) (q := 25) C rfl rfl dX0_moveInto_24 rfl ?_
  refine i_get (i := 0) (j := 0) (f := 2) (q := 28) C rfl rfl rfl hi_X0_moveInto_X0 (by decide) lk_X0_moveInto_19 rfl dX0_moveInto_25 rfl ?_
  refine i_iload_n (j := 1) (q := 29) C rfl rfl dX0_moveInto_28 rfl ?_
  refine i_aload_n (j := 2) (q := 30) C rfl rfl dX0_moveInto_29 rfl ?_
  refine i_get (i := 1) (j := 0) (f := 2) (q := 33) C rfl rfl rfl hi_X0_moveInto_X0 (by decide) lk_X0_moveInto_19 rfl dX0_moveInto_30 rfl ?_
  refine i_iload_n (j := 3) (q := 34) C rfl rfl dX0_moveInto_33 rfl ?_
  refine i_iald (i := 1) (j := 3) (q := 35) C rfl rfl (by omega) dX0_moveInto_34 rfl ?_
  refine i_iast (i := 0) (j := 3) (q := 36) (cs' := [bkW ab (up nu x (nu2 y), up wo x (wo2 y), up sc x (sc2 y), me, us, la, ct, gv, kd, sl), bkW ab2 (nu2, wo2, sc2, me2, us2, la2, ct2, gv2, kd2, sl2)]) C rfl rfl (by omega) dX0_moveInto_35 rfl rfl ?_
  refine i_aload_n (j := 0) (q := 37) C rfl rfl dX0_moveInto_36 rfl ?_
  refine i_get (i := 0) (j := 0) (f := 3) (q := 40) C rfl rfl rfl hi_X0_moveInto_X0 (by decide) lk_X0_moveInto_22 rfl dX0_moveInto_37 rfl ?_
  refine i_iload_n (j := 1) (q := 41) C rfl rfl dX0_moveInto_40 rfl ?_
  refine i_aload_n (j := 2) (q := 42) C rfl rfl dX0_moveInto_41 rfl ?_
  refine i_get (i := 1) (j := 0) (f := 3) (q := 45) C rfl rfl rfl hi_X0_moveInto_X0 (by decide) lk_X0_moveInto_22 rfl dX0_moveInto_42 rfl ?_
  refine i_iload_n (j := 3) (q := 46) C rfl rfl dX0_moveInto_45 rfl ?_
  refine i_iald (i := 1) (j := 4) (q := 47) C rfl rfl (by omega) dX0_moveInto_46 rfl ?_
  refine i_iast (i := 0) (j := 4) (q := 48) (cs' := [bkW ab (up nu x (nu2 y), up wo x (wo2 y), up sc x (sc2 y), up me x (me2 y), us, la, ct, gv, kd, sl), bkW ab2 (nu2, wo2, sc2, me2, us2, la2, ct2, gv2, kd2, sl2)]) C rfl rfl (by omega) dX0_moveInto_47 rfl rfl ?_
  refine i_aload_n (j := 0) (q := 49) C rfl rfl dX0_moveInto_48 rfl ?_
  refine i_get (i := 0) (j := 0) (f := 4) (q := 52) C rfl rfl rfl hi_X0_moveInto_X0 (by decide) lk_X0_moveInto_25 rfl dX0_moveInto_49 rfl ?_
  refine i_iload_n (j := 1) (q := 53) C rfl rfl dX0_moveInto_52 rfl ?_
  refine i_aload_n (j := 2) (q := 54) C rfl rfl dX0_moveInto_53 rfl ?_
  refine i_get (i := 1) (j := 0) (f := 4) (q := 57) C rfl rfl rfl hi_X0_moveInto_X0 (by decide) lk_X0_moveInto_25 rfl dX0_moveInto_54 rfl ?_
  refine i_iload_n (j := 3) (q := 58) C rfl rfl dX0_moveInto_57 rfl ?_
  refine i_iald (i := 1) (j := 5) (q := 59) C rfl rfl (by omega) dX0_moveInto_58 rfl ?_
  refine i_iast (i := 0) (j := 5) (q := 60) (cs' := [bkW ab (up nu x (nu2 y), up wo x (wo2 y), up sc x (sc2 y), up me x (me2 y), up us x (us2 y), la, ct, gv, kd, sl), bkW ab2 (nu2, wo2, sc2, me2, us2, la2, ct2, gv2, kd2, sl2)]) C rfl rfl (by omega) dX0_moveInto_59 rfl rfl ?_
  refine i_aload_n (j := 0) (q := 61) C rfl rfl dX0_moveInto_60 rfl ?_
  refine i_get (i := 0) (j := 0) (f := 5) (q := 64) C rfl rfl rfl hi_X0_moveInto_X0 (by decide) lk_X0_moveInto_28 rfl dX0_moveInto_61 rfl ?_
  refine i_iload_n (j := 1) (q := 65) C rfl rfl dX0_moveInto_64 rfl ?_
  refine i_aload_n (j := 2) (q := 66) C rfl rfl dX0_moveInto_65 rfl ?_
  refine i_get (i := 1) (j := 0) (f := 5) (q := 69) C rfl rfl rfl hi_X0_moveInto_X0 (by decide) lk_X0_moveInto_28 rfl dX0_moveInto_66 rfl ?_
  refine i_iload_n (j := 3) (q := 70) C rfl rfl dX0_moveInto_69 rfl ?_
  refine i_iald (i := 1) (j := 6) (q := 71) C rfl rfl (by omega) dX0_moveInto_70 rfl ?_
  refine i_iast (i := 0) (j := 6) (q := 72) (cs' := [bkW ab (up nu x (nu2 y), up wo x (wo2 y), up sc x (sc2 y), up me x (me2 y), up us x (us2 y), up la x (la2 y), ct, gv, kd, sl), bkW ab2 (nu2, wo2, sc2, me2, us2, la2, ct2, gv2, kd2, sl2)]) C rfl rfl (by omega) dX0_moveInto_71 rfl rfl ?_
  refine i_vret C hR dX0_moveInto_72 ?_
  exact ⟨rfl, rfl⟩

set_option maxHeartbeats 4000000 in
set_option maxRecDepth 100000 in
theorem c_X0_moveSelf (K : KT) (l : Launch) (ab : Nat → Nat) (nu : Int → Int) (wo : Int → Int) (sc : Int → Int) (me : Int → Int) (us : Int → Int) (la : Int → Int) (ct : Int) (gv : Int) (kd : Int) (sl : Int) (x : Int) (y : Int) (hx : 0 ≤ x ∧ x < 40) (hy : 0 ≤ y ∧ y < 40) : Mt K l yX0_moveInto wsX0_moveInto ({ frames := 0, cells := 0, slots := 0, locals := 0 }) [vP (ab 0), vI x, vP (ab 0), vI y] [bkW ab (nu, wo, sc, me, us, la, ct, gv, kd, sl)] 0 0 (fun v w => v = none ∧ w = [bkW ab (up nu x (nu y), up wo x (wo y), up sc x (sc y), up me x (me y), up us x (us y), up la x (la y), ct, gv, kd, sl)]) := by
  refine Mt.of (own := RX0) (cc := cX0_moveInto) (maxL := 4) (ret := none) (lv0 := [(0, vP (ab 0)), (1, vI x), (2, vP (ab 0)), (3, vI y)]) (by decide) rfl rfl (Nat.le_of_ble_eq_true rfl) rfl (fun X C hR hN => ?_)
  refine i_aload_n (j := 0) (q := 1) C rfl rfl dX0_moveInto_0 rfl ?_
  refine i_get (i := 0) (j := 0) (f := 0) (q := 4) C rfl rfl rfl hi_X0_moveInto_X0 (by decide) lk_X0_moveInto_9 rfl dX0_moveInto_1 rfl ?_
  refine i_iload_n (j := 1) (q := 5) C rfl rfl dX0_moveInto_4 rfl ?_
  refine i_aload_n (j := 2) (q := 6) C rfl rfl dX0_moveInto_5 rfl ?_
  refine i_get (i := 0) (j := 0) (f := 0) (q := 9) C rfl rfl rfl hi_X0_moveInto_X0 (by decide) lk_X0_moveInto_9 rfl dX0_moveInto_6 rfl ?_
  refine i_iload_n (j := 3) (q := 10) C rfl rfl dX0_moveInto_9 rfl ?_
  refine i_iald (i := 0) (j := 1) (q := 11) C rfl rfl (by omega) dX0_moveInto_10 rfl ?_
  refine i_iast (i := 0) (j := 1) (q := 12) (cs' := [bkW ab (up nu x (nu y), wo, sc, me, us, la, ct, gv, kd, sl)]) C rfl rfl (by omega) dX0_moveInto_11 rfl rfl ?_
  refine i_aload_n (j := 0) (q := 13) C rfl rfl dX0_moveInto_12 rfl ?_
  refine i_get (i := 0) (j := 0) (f := 1) (q := 16) C rfl rfl rfl hi_X0_moveInto_X0 (by decide) lk_X0_moveInto_15 rfl dX0_moveInto_13 rfl ?_
  refine i_iload_n (j := 1) (q := 17) C rfl rfl dX0_moveInto_16 rfl ?_
  refine i_aload_n (j := 2) (q := 18) C rfl rfl dX0_moveInto_17 rfl ?_
  refine i_get (i := 0) (j := 0) (f := 1) (q := 21) C rfl rfl rfl hi_X0_moveInto_X0 (by decide) lk_X0_moveInto_15 rfl dX0_moveInto_18 rfl ?_
  refine i_iload_n (j := 3) (q := 22) C rfl rfl dX0_moveInto_21 rfl ?_
  refine i_lald (i := 0) (j := 2) (q := 23) C rfl rfl (by omega) dX0_moveInto_22 rfl ?_
  refine i_last (i := 0) (j := 2) (q := 24) (cs' := [bkW ab (up nu x (nu y), up wo x (wo y), sc, me, us, la, ct, gv, kd, sl)]) C rfl rfl (by omega) dX0_moveInto_23 rfl rfl ?_
  refine i_aload_n (j := 0) (q := 25) C rfl rfl dX0_moveInto_24 rfl ?_
  refine i_get (i := 0) (j := 0) (f := 2) (q := 28) C rfl rfl rfl hi_X0_moveInto_X0 (by decide) lk_X0_moveInto_19 rfl dX0_moveInto_25 rfl ?_
  refine i_iload_n (j := 1) (q := 29) C rfl rfl dX0_moveInto_28 rfl ?_
  refine i_aload_n (j := 2) (q := 30) C rfl rfl dX0_moveInto_29 rfl ?_
  refine i_get (i := 0) (j := 0) (f := 2) (q := 33) C rfl rfl rfl hi_X0_moveInto_X0 (by decide) lk_X0_moveInto_19 rfl dX0_moveInto_30 rfl ?_
  refine i_iload_n (j := 3) (q := 34) C rfl rfl dX0_moveInto_33 rfl ?_
  refine i_iald (i := 0) (j := 3) (q := 35) C rfl rfl (by omega) dX0_moveInto_34 rfl ?_
  refine i_iast (i := 0) (j := 3) (q := 36) (cs' := [bkW ab (up nu x (nu y), up wo x (wo y), up sc x (sc y), me, us, la, ct, gv, kd, sl)]) C rfl rfl (by omega) dX0_moveInto_35 rfl rfl ?_
  refine i_aload_n (j := 0) (q := 37) C rfl rfl dX0_moveInto_36 rfl ?_
  refine i_get (i := 0) (j := 0) (f := 3) (q := 40) C rfl rfl rfl hi_X0_moveInto_X0 (by decide) lk_X0_moveInto_22 rfl dX0_moveInto_37 rfl ?_
  refine i_iload_n (j := 1) (q := 41) C rfl rfl dX0_moveInto_40 rfl ?_
  refine i_aload_n (j := 2) (q := 42) C rfl rfl dX0_moveInto_41 rfl ?_
  refine i_get (i := 0) (j := 0) (f := 3) (q := 45) C rfl rfl rfl hi_X0_moveInto_X0 (by decide) lk_X0_moveInto_22 rfl dX0_moveInto_42 rfl ?_
  refine i_iload_n (j := 3) (q := 46) C rfl rfl dX0_moveInto_45 rfl ?_
  refine i_iald (i := 0) (j := 4) (q := 47) C rfl rfl (by omega) dX0_moveInto_46 rfl ?_
  refine i_iast (i := 0) (j := 4) (q := 48) (cs' := [bkW ab (up nu x (nu y), up wo x (wo y), up sc x (sc y), up me x (me y), us, la, ct, gv, kd, sl)]) C rfl rfl (by omega) dX0_moveInto_47 rfl rfl ?_
  refine i_aload_n (j := 0) (q := 49) C rfl rfl dX0_moveInto_48 rfl ?_
  refine i_get (i := 0) (j := 0) (f := 4) (q := 52) C rfl rfl rfl hi_X0_moveInto_X0 (by decide) lk_X0_moveInto_25 rfl dX0_moveInto_49 rfl ?_
  refine i_iload_n (j := 1) (q := 53) C rfl rfl dX0_moveInto_52 rfl ?_
  refine i_aload_n (j := 2) (q := 54) C rfl rfl dX0_moveInto_53 rfl ?_
  refine i_get (i := 0) (j := 0) (f := 4) (q := 57) C rfl rfl rfl hi_X0_moveInto_X0 (by decide) lk_X0_moveInto_25 rfl dX0_moveInto_54 rfl ?_
  refine i_iload_n (j := 3) (q := 58) C rfl rfl dX0_moveInto_57 rfl ?_
  refine i_iald (i := 0) (j := 5) (q := 59) C rfl rfl (by omega) dX0_moveInto_58 rfl ?_
  refine i_iast (i := 0) (j := 5) (q := 60) (cs' := [bkW ab (up nu x (nu y), up wo x (wo y), up sc x (sc y), up me x (me y), up us x (us y), la, ct, gv, kd, sl)]) C rfl rfl (by omega) dX0_moveInto_59 rfl rfl ?_
  refine i_aload_n (j := 0) (q := 61) C rfl rfl dX0_moveInto_60 rfl ?_
  refine i_get (i := 0) (j := 0) (f := 5) (q := 64) C rfl rfl rfl hi_X0_moveInto_X0 (by decide) lk_X0_moveInto_28 rfl dX0_moveInto_61 rfl ?_
  refine i_iload_n (j := 1) (q := 65) C rfl rfl dX0_moveInto_64 rfl ?_
  refine i_aload_n (j := 2) (q := 66) C rfl rfl dX0_moveInto_65 rfl ?_
  refine i_get (i := 0) (j := 0) (f := 5) (q := 69) C rfl rfl rfl hi_X0_moveInto_X0 (by decide) lk_X0_moveInto_28 rfl dX0_moveInto_66 rfl ?_
  refine i_iload_n (j := 3) (q := 70) C rfl rfl dX0_moveInto_69 rfl ?_
  refine i_iald (i := 0) (j := 6) (q := 71) C rfl rfl (by omega) dX0_moveInto_70 rfl ?_
  refine i_iast (i := 0) (j := 6) (q := 72) (cs' := [bkW ab (up nu x (nu y), up wo x (wo y), up sc x (sc y), up me x (me y), up us x (us y), up la x (la y), ct, gv, kd, sl)]) C rfl rfl (by omega) dX0_moveInto_71 rfl rfl ?_
  refine i_vret C hR dX0_moveInto_72 ?_
  exact ⟨rfl, rfl⟩

theorem lk_X0_copyFrom_31 : Cond.fieldLink RX0 31 (TX0 6).1 (TX0 6).2.1 (TX0 6).2.2.1 ∈ wsX0_copyFrom := List.mem_of_getElem? (i := 1) rfl
theorem hi_X0_copyFrom_X0 : ∀ w ∈ u_ws RX0 TX0 10, w ∈ wsX0_copyFrom := by decide +kernel
theorem lk_X0_copyFrom_35 : Cond.fieldLink RX0 35 (TX0 7).1 (TX0 7).2.1 (TX0 7).2.2.1 ∈ wsX0_copyFrom := List.mem_of_getElem? (i := 2) rfl
theorem lk_X0_copyFrom_38 : Cond.fieldLink RX0 38 (TX0 8).1 (TX0 8).2.1 (TX0 8).2.2.1 ∈ wsX0_copyFrom := List.mem_of_getElem? (i := 3) rfl
theorem lk_X0_copyFrom_41 : Cond.fieldLink RX0 41 (TX0 9).1 (TX0 9).2.1 (TX0 9).2.2.1 ∈ wsX0_copyFrom := List.mem_of_getElem? (i := 4) rfl
theorem hd_X0_moveInto : yX0_moveInto.cls = RX0 ∧ yX0_moveInto.cls ≠ "java/lang/invoke/MethodHandle" ∧ yX0_moveInto.cls ≠ "java/lang/invoke/VarHandle" ∧ (parseMethodDescriptor yX0_moveInto.desc).map (fun d => d.parameters.length) = some 3 := by decide +kernel
set_option maxHeartbeats 4000000 in
set_option maxRecDepth 100000 in
theorem c_X0_copyFrom (K : KT) (l : Launch) (ab : Nat → Nat) (nu : Int → Int) (wo : Int → Int) (sc : Int → Int) (me : Int → Int) (us : Int → Int) (la : Int → Int) (ct : Int) (gv : Int) (kd : Int) (sl : Int) (ab2 : Nat → Nat) (nu2 : Int → Int) (wo2 : Int → Int) (sc2 : Int → Int) (me2 : Int → Int) (us2 : Int → Int) (la2 : Int → Int) (ct2 : Int) (gv2 : Int) (kd2 : Int) (sl2 : Int) (hct : 0 ≤ ct2 ∧ ct2 ≤ 40) : Mt K l yX0_copyFrom wsX0_copyFrom ({ frames := 1, cells := 0, slots := 0, locals := 23 }) [vP (ab 0), vP (ab2 0)] [bkW ab (nu, wo, sc, me, us, la, ct, gv, kd, sl), bkW ab2 (nu2, wo2, sc2, me2, us2, la2, ct2, gv2, kd2, sl2)] 0 0 (fun v w => ∃ nu3 : Int → Int, ∃ wo3 : Int → Int, ∃ sc3 : Int → Int, ∃ me3 : Int → Int, ∃ us3 : Int → Int, ∃ la3 : Int → Int, v = none ∧ w = [bkW ab (nu3, wo3, sc3, me3, us3, la3, ct2, gv2, kd2, sl2), bkW ab2 (nu2, wo2, sc2, me2, us2, la2, ct2, gv2, kd2, sl2)] ∧ (∀ j, 0 ≤ j → j < ct2 → nu3 j = nu2 j ∧ wo3 j = wo2 j ∧ sc3 j = sc2 j ∧ me3 j = me2 j ∧ us3 j = us2 j ∧ la3 j = la2 j)) := by
  refine Mt.of (own := RX0) (cc := cX0_copyFrom) (maxL := 3) (ret := none) (lv0 := [(0, vP (ab 0)), (1, vP (ab2 0))]) (by decide) rfl rfl (Nat.le_of_ble_eq_true rfl) rfl (fun X C hR hN => ?_)
  refine i_iconst (q := 1) C dX0_copyFrom_0 rfl ?_
  refine i_istore_n (q := 2) (lv' := [(2, vI 0), (0, vP (ab 0)), (1, vP (ab2 0))]) C rfl (by decide) rfl dX0_copyFrom_1 rfl ?_
  have loop_2 : ∀ (fuel : Nat) (i : Int) (nu4 : Int → Int) (wo4 : Int → Int) (sc4 : Int → Int) (me4 : Int → Int) (us4 : Int → Int) (la4 : Int → Int), ((ct2 - i).toNat) < fuel → (0 ≤ i ∧ i ≤ ct2) → (∀ j, 0 ≤ j → j < i → nu4 j = nu2 j ∧ wo4 j = wo2 j ∧ sc4 j = sc2 j ∧ me4 j = me2 j ∧ us4 j = us2 j ∧ la4 j = la2 j) → V X 0 0 2 [(0, vP (ab 0)), (1, vP (ab2 0)), (2, vI i)] [] [bkW ab (nu4, wo4, sc4, me4, us4, la4, ct, gv, kd, sl), bkW ab2 (nu2, wo2, sc2, me2, us2, la2, ct2, gv2, kd2, sl2)] := by
    intro fuel
    induction fuel with
    | zero => intro i nu4 wo4 sc4 me4 us4 la4 hz; exact absurd hz (Nat.not_lt_zero _)
    | succ fuel ih_2 =>
      intro i nu4 wo4 sc4 me4 us4 la4 hfu_2 hi hv
      refine i_iload_n (j := 2) (q := 3) C rfl rfl dX0_copyFrom_2 rfl ?_
      refine i_aload_n (j := 1) (q := 4) C rfl rfl dX0_copyFrom_3 rfl ?_
      refine i_get (i := 1) (j := 0) (f := 6) (q := 7) C rfl rfl rfl hi_X0_copyFrom_X0 (by decide) lk_X0_copyFrom_31 rfl dX0_copyFrom_4 rfl ?_
      refine i_icmp_ge (tgt := 23) (q := 10) C (by omega) (by omega) dX0_copyFrom_7 (by decide) rfl (fun c_7 => ?_) (fun c_7 => ?_)
      · skip
        refine i_aload_n (j := 0) (q := 24) C rfl rfl dX0_copyFrom_23 rfl ?_
        refine i_aload_n (j := 1) (q := 25) C rfl rfl dX0_copyFrom_24 rfl ?_
        refine i_get (i := 1) (j := 0) (f := 6) (q := 28) C rfl rfl rfl hi_X0_copyFrom_X0 (by decide) lk_X0_copyFrom_31 rfl dX0_copyFrom_25 rfl ?_
        refine i_putI (i := 0) (j := 0) (f := 6) (q := 31) (cs' := [bkW ab (nu4, wo4, sc4, me4, us4, la4, ct2, gv, kd, sl), bkW ab2 (nu2, wo2, sc2, me2, us2, la2, ct2, gv2, kd2, sl2)]) C rfl rfl rfl hi_X0_copyFrom_X0 tyX0 tyX0_ok nmX0 (by decide) (Nat.le_of_ble_eq_true rfl) lk_X0_copyFrom_31 rfl rfl dX0_copyFrom_28 rfl rfl ?_
        refine i_aload_n (j := 0) (q := 32) C rfl rfl dX0_copyFrom_31 rfl ?_
        refine i_aload_n (j := 1) (q := 33) C rfl rfl dX0_copyFrom_32 rfl ?_
        refine i_get (i := 1) (j := 0) (f := 7) (q := 36) C rfl rfl rfl hi_X0_copyFrom_X0 (by decide) lk_X0_copyFrom_35 rfl dX0_copyFrom_33 rfl ?_
        refine i_putI (i := 0) (j := 0) (f := 7) (q := 39) (cs' := [bkW ab (nu4, wo4, sc4, me4, us4, la4, ct2, gv2, kd, sl), bkW ab2 (nu2, wo2, sc2, me2, us2, la2, ct2, gv2, kd2, sl2)]) C rfl rfl rfl hi_X0_copyFrom_X0 tyX0 tyX0_ok nmX0 (by decide) (Nat.le_of_ble_eq_true rfl) lk_X0_copyFrom_35 rfl rfl dX0_copyFrom_36 rfl rfl ?_
        refine i_aload_n (j := 0) (q := 40) C rfl rfl dX0_copyFrom_39 rfl ?_
        refine i_aload_n (j := 1) (q := 41) C rfl rfl dX0_copyFrom_40 rfl ?_
        refine i_get (i := 1) (j := 0) (f := 8) (q := 44) C rfl rfl rfl hi_X0_copyFrom_X0 (by decide) lk_X0_copyFrom_38 rfl dX0_copyFrom_41 rfl ?_
        refine i_putI (i := 0) (j := 0) (f := 8) (q := 47) (cs' := [bkW ab (nu4, wo4, sc4, me4, us4, la4, ct2, gv2, kd2, sl), bkW ab2 (nu2, wo2, sc2, me2, us2, la2, ct2, gv2, kd2, sl2)]) C rfl rfl rfl hi_X0_copyFrom_X0 tyX0 tyX0_ok nmX0 (by decide) (Nat.le_of_ble_eq_true rfl) lk_X0_copyFrom_38 rfl rfl dX0_copyFrom_44 rfl rfl ?_
        refine i_aload_n (j := 0) (q := 48) C rfl rfl dX0_copyFrom_47 rfl ?_
        refine i_aload_n (j := 1) (q := 49) C rfl rfl dX0_copyFrom_48 rfl ?_
        refine i_get (i := 1) (j := 0) (f := 9) (q := 52) C rfl rfl rfl hi_X0_copyFrom_X0 (by decide) lk_X0_copyFrom_41 rfl dX0_copyFrom_49 rfl ?_
        refine i_putI (i := 0) (j := 0) (f := 9) (q := 55) (cs' := [bkW ab (nu4, wo4, sc4, me4, us4, la4, ct2, gv2, kd2, sl2), bkW ab2 (nu2, wo2, sc2, me2, us2, la2, ct2, gv2, kd2, sl2)]) C rfl rfl rfl hi_X0_copyFrom_X0 tyX0 tyX0_ok nmX0 (by decide) (Nat.le_of_ble_eq_true rfl) lk_X0_copyFrom_41 rfl rfl dX0_copyFrom_52 rfl rfl ?_
        refine i_vret C hR dX0_copyFrom_55 ?_
        exact ⟨nu4, wo4, sc4, me4, us4, la4, rfl, rfl, fun j h0 h1 => hv j h0 (by omega)⟩
      · skip
        refine i_aload_n (j := 0) (q := 11) C rfl rfl dX0_copyFrom_10 rfl ?_
        refine i_iload_n (j := 2) (q := 12) C rfl rfl dX0_copyFrom_11 rfl ?_
        refine i_aload_n (j := 1) (q := 13) C rfl rfl dX0_copyFrom_12 rfl ?_
        refine i_iload_n (j := 2) (q := 14) C rfl rfl dX0_copyFrom_13 rfl ?_
        refine i_callV (wr := []) (As := [vI i, vP (ab2 0), vI i]) (st := []) (i := 0) (j := 0) (q := 17) C (c_X0_moveInto K l (ab) (nu4) (wo4) (sc4) (me4) (us4) (la4) (ct) (gv) (kd) (sl) (ab2) (nu2) (wo2) (sc2) (me2) (us2) (la2) (ct2) (gv2) (kd2) (sl2) (i) (i) (by first | assumption | omega) (by first | assumption | omega)) gX0_copyFrom_X0_moveInto rfl hd_X0_moveInto ⟨Nat.le_of_ble_eq_true rfl, Nat.le_of_ble_eq_true rfl⟩ ⟨rfl, rfl⟩ ⟨Nat.le_of_ble_eq_true rfl, Nat.le_of_ble_eq_true rfl⟩ (permBy [0, 1] (by decide) rfl rfl) rfl rfl rfl rfl (Nat.le_of_ble_eq_true rfl) dX0_copyFrom_14 rfl (fun v w hq => ?_)
        obtain ⟨rfl, rfl⟩ := hq
        show V X 0 0 17 [(0, vP (ab 0)), (1, vP (ab2 0)), (2, vI i)] [] [bkW ab (up nu4 i (nu2 i), up wo4 i (wo2 i), up sc4 i (sc2 i), up me4 i (me2 i), up us4 i (us2 i), up la4 i (la2 i), ct, gv, kd, sl), bkW ab2 (nu2, wo2, sc2, me2, us2, la2, ct2, gv2, kd2, sl2)]
        refine i_iinc (j := 2) (q := 20) (lv' := [(2, vI (i + 1)), (0, vP (ab 0)), (1, vP (ab2 0))]) C rfl (by decide) rfl dX0_copyFrom_17 rfl ?_
        refine i_goto (q := 2) C dX0_copyFrom_20 (by decide) ?_
        refine V.lv [1, 2, 0] rfl ?_
        exact ih_2 (i + 1) (up nu4 i (nu2 i)) (up wo4 i (wo2 i)) (up sc4 i (sc2 i)) (up me4 i (me2 i)) (up us4 i (us2 i)) (up la4 i (la2 i)) (by omega) (by omega) (fun j h0 h1 => by
          by_cases e : j = i
          · subst e; simp only [up_s]; simp
          · simp only [up_n _ _ e]; exact hv j h0 (by omega))
  refine V.lv [1, 2, 0] rfl ?_
  exact loop_2 _ (0) (nu) (wo) (sc) (me) (us) (la) (Nat.lt_succ_self _) (by omega) (fun j h0 h1 => by omega)

theorem lk_X0_takeOut_31 : Cond.fieldLink RX0 31 (TX0 6).1 (TX0 6).2.1 (TX0 6).2.2.1 ∈ wsX0_takeOut := List.mem_of_getElem? (i := 1) rfl
theorem hi_X0_takeOut_X0 : ∀ w ∈ u_ws RX0 TX0 10, w ∈ wsX0_takeOut := by decide +kernel
set_option maxHeartbeats 4000000 in
set_option maxRecDepth 100000 in
theorem c_X0_takeOut (K : KT) (l : Launch) (ab : Nat → Nat) (nu : Int → Int) (wo : Int → Int) (sc : Int → Int) (me : Int → Int) (us : Int → Int) (la : Int → Int) (ct : Int) (gv : Int) (kd : Int) (sl : Int) (x : Int) (hct : 0 ≤ ct ∧ ct ≤ 40) (hx : 0 ≤ x ∧ x < ct) : Mt K l yX0_takeOut wsX0_takeOut ({ frames := 1, cells := 0, slots := 0, locals := 23 }) [vP (ab 0), vI x] [bkW ab (nu, wo, sc, me, us, la, ct, gv, kd, sl)] 0 0 (fun v w => ∃ nu3 : Int → Int, ∃ wo3 : Int → Int, ∃ sc3 : Int → Int, ∃ me3 : Int → Int, ∃ us3 : Int → Int, ∃ la3 : Int → Int, v = none ∧ w = [bkW ab (nu3, wo3, sc3, me3, us3, la3, ct - 1, gv, kd, sl)] ∧ ((∀ j, 0 ≤ j → j < x → nu3 j = nu j ∧ wo3 j = wo j ∧ sc3 j = sc j ∧ me3 j = me j ∧ us3 j = us j ∧ la3 j = la j) ∧ (∀ j, x ≤ j → j < ct - 1 → nu3 j = nu (j + 1) ∧ wo3 j = wo (j + 1) ∧ sc3 j = sc (j + 1) ∧ me3 j = me (j + 1) ∧ us3 j = us (j + 1) ∧ la3 j = la (j + 1)))) := by
  refine Mt.of (own := RX0) (cc := cX0_takeOut) (maxL := 3) (ret := none) (lv0 := [(0, vP (ab 0)), (1, vI x)]) (by decide) rfl rfl (Nat.le_of_ble_eq_true rfl) rfl (fun X C hR hN => ?_)
  refine i_iload_n (j := 1) (q := 1) C rfl rfl dX0_takeOut_0 rfl ?_
  refine i_iconst (q := 2) C dX0_takeOut_1 rfl ?_
  refine i_iadd (q := 3) C dX0_takeOut_2 rfl ?_
  refine i_istore_n (q := 4) (lv' := [(2, vI (x + 1)), (0, vP (ab 0)), (1, vI x)]) C rfl (by decide) rfl dX0_takeOut_3 rfl ?_
  have loop_4 : ∀ (fuel : Nat) (i : Int) (nu4 : Int → Int) (wo4 : Int → Int) (sc4 : Int → Int) (me4 : Int → Int) (us4 : Int → Int) (la4 : Int → Int), ((ct - i).toNat) < fuel → (x + 1 ≤ i ∧ i ≤ ct) → (∀ j, 0 ≤ j → j < x → nu4 j = nu j ∧ wo4 j = wo j ∧ sc4 j = sc j ∧ me4 j = me j ∧ us4 j = us j ∧ la4 j = la j) → (∀ j, x ≤ j → j < i - 1 → nu4 j = nu (j + 1) ∧ wo4 j = wo (j + 1) ∧ sc4 j = sc (j + 1) ∧ me4 j = me (j + 1) ∧ us4 j = us (j + 1) ∧ la4 j = la (j + 1)) → (∀ j, i - 1 < j → j < ct → nu4 j = nu j ∧ wo4 j = wo j ∧ sc4 j = sc j ∧ me4 j = me j ∧ us4 j = us j ∧ la4 j = la j) → V X 0 0 4 [(0, vP (ab 0)), (1, vI x), (2, vI i)] [] [bkW ab (nu4, wo4, sc4, me4, us4, la4, ct, gv, kd, sl)] := by
    intro fuel
    induction fuel with
    | zero => intro i nu4 wo4 sc4 me4 us4 la4 hz; exact absurd hz (Nat.not_lt_zero _)
    | succ fuel ih_4 =>
      intro i nu4 wo4 sc4 me4 us4 la4 hfu_4 hi h1 h2 h3
      refine i_iload_n (j := 2) (q := 5) C rfl rfl dX0_takeOut_4 rfl ?_
      refine i_aload_n (j := 0) (q := 6) C rfl rfl dX0_takeOut_5 rfl ?_
      refine i_get (i := 0) (j := 0) (f := 6) (q := 9) C rfl rfl rfl hi_X0_takeOut_X0 (by decide) lk_X0_takeOut_31 rfl dX0_takeOut_6 rfl ?_
      refine i_icmp_ge (tgt := 27) (q := 12) C (by omega) (by omega) dX0_takeOut_9 (by decide) rfl (fun c_9 => ?_) (fun c_9 => ?_)
      · skip
        refine i_aload_n (j := 0) (q := 28) C rfl rfl dX0_takeOut_27 rfl ?_
        refine i_dup (q := 29) C rfl dX0_takeOut_28 rfl ?_
        refine i_get (i := 0) (j := 0) (f := 6) (q := 32) C rfl rfl rfl hi_X0_takeOut_X0 (by decide) lk_X0_takeOut_31 rfl dX0_takeOut_29 rfl ?_
        refine i_iconst (q := 33) C dX0_takeOut_32 rfl ?_
        refine i_isub (q := 34) C dX0_takeOut_33 rfl ?_
        refine i_putI (i := 0) (j := 0) (f := 6) (q := 37) (cs' := [bkW ab (nu4, wo4, sc4, me4, us4, la4, ct - 1, gv, kd, sl)]) C rfl rfl rfl hi_X0_takeOut_X0 tyX0 tyX0_ok nmX0 (by decide) (Nat.le_of_ble_eq_true rfl) lk_X0_takeOut_31 rfl rfl dX0_takeOut_34 rfl rfl ?_
        refine i_vret C hR dX0_takeOut_37 ?_
        exact ⟨nu4, wo4, sc4, me4, us4, la4, rfl, rfl, h1, fun j g0 g1 => h2 j g0 (by omega)⟩
      · skip
        refine i_aload_n (j := 0) (q := 13) C rfl rfl dX0_takeOut_12 rfl ?_
        refine i_iload_n (j := 2) (q := 14) C rfl rfl dX0_takeOut_13 rfl ?_
        refine i_iconst (q := 15) C dX0_takeOut_14 rfl ?_
        refine i_isub (q := 16) C dX0_takeOut_15 rfl ?_
        refine i_aload_n (j := 0) (q := 17) C rfl rfl dX0_takeOut_16 rfl ?_
        refine i_iload_n (j := 2) (q := 18) C rfl rfl dX0_takeOut_17 rfl ?_
        refine i_callV (wr := []) (As := [vI (i - 1), vP (ab 0), vI i]) (st := []) (i := 0) (j := 0) (q := 21) C (c_X0_moveSelf K l (ab) (nu4) (wo4) (sc4) (me4) (us4) (la4) (ct) (gv) (kd) (sl) (i - 1) (i) (by first | assumption | omega) (by first | assumption | omega)) gX0_takeOut_X0_moveInto rfl hd_X0_moveInto ⟨Nat.le_of_ble_eq_true rfl, Nat.le_of_ble_eq_true rfl⟩ ⟨rfl, rfl⟩ ⟨Nat.le_of_ble_eq_true rfl, Nat.le_of_ble_eq_true rfl⟩ (permBy [0] (by decide) rfl rfl) rfl rfl rfl rfl (Nat.le_of_ble_eq_true rfl) dX0_takeOut_18 rfl (fun v w hq => ?_)
        obtain ⟨rfl, rfl⟩ := hq
        show V X 0 0 21 [(0, vP (ab 0)), (1, vI x), (2, vI i)] [] [bkW ab (up nu4 (i - 1) (nu4 i), up wo4 (i - 1) (wo4 i), up sc4 (i - 1) (sc4 i), up me4 (i - 1) (me4 i), up us4 (i - 1) (us4 i), up la4 (i - 1) (la4 i), ct, gv, kd, sl)]
        refine i_iinc (j := 2) (q := 24) (lv' := [(2, vI (i + 1)), (0, vP (ab 0)), (1, vI x)]) C rfl (by decide) rfl dX0_takeOut_21 rfl ?_
        refine i_goto (q := 4) C dX0_takeOut_24 (by decide) ?_
        refine V.lv [1, 2, 0] rfl ?_
        exact ih_4 (i + 1) (up nu4 (i - 1) (nu4 i)) (up wo4 (i - 1) (wo4 i)) (up sc4 (i - 1) (sc4 i)) (up me4 (i - 1) (me4 i)) (up us4 (i - 1) (us4 i)) (up la4 (i - 1) (la4 i)) (by omega) (by omega) (fun j g0 g1 => by simp only [up_n _ _ (show j ≠ i - 1 by omega)]; exact h1 j g0 g1) (fun j g0 g1 => by
          by_cases e : j = i - 1
          · subst e; simp only [up_s]; rw [show i - 1 + 1 = i by omega]; exact h3 i (by omega) (by omega)
          · simp only [up_n _ _ e]; exact h2 j g0 (by omega)) (fun j g0 g1 => by simp only [up_n _ _ (show j ≠ i - 1 by omega)]; exact h3 j (by omega) g1)
  refine V.lv [1, 2, 0] rfl ?_
  exact loop_4 _ (x + 1) (nu) (wo) (sc) (me) (us) (la) (Nat.lt_succ_self _) (by omega) (fun j _ _ => by simp) (fun j _ _ => by omega) (fun j _ _ => by simp)

theorem lk_X0_halveScores_31 : Cond.fieldLink RX0 31 (TX0 6).1 (TX0 6).2.1 (TX0 6).2.2.1 ∈ wsX0_halveScores := List.mem_of_getElem? (i := 1) rfl
theorem hi_X0_halveScores_X0 : ∀ w ∈ u_ws RX0 TX0 10, w ∈ wsX0_halveScores := by decide +kernel
theorem lk_X0_halveScores_19 : Cond.fieldLink RX0 19 (TX0 2).1 (TX0 2).2.1 (TX0 2).2.2.1 ∈ wsX0_halveScores := List.mem_of_getElem? (i := 2) rfl
set_option maxHeartbeats 4000000 in
set_option maxRecDepth 100000 in
theorem c_X0_halveScores (K : KT) (l : Launch) (ab : Nat → Nat) (nu : Int → Int) (wo : Int → Int) (sc : Int → Int) (me : Int → Int) (us : Int → Int) (la : Int → Int) (ct : Int) (gv : Int) (kd : Int) (sl : Int) (hct : 0 ≤ ct ∧ ct ≤ 40) (hsc : ∀ j, 0 ≤ j → j < ct → 0 ≤ sc j ∧ sc j ≤ 1000) : Mt K l yX0_halveScores wsX0_halveScores ({ frames := 0, cells := 0, slots := 0, locals := 0 }) [vP (ab 0)] [bkW ab (nu, wo, sc, me, us, la, ct, gv, kd, sl)] 0 0 (fun v w => ∃ sc3 : Int → Int, v = none ∧ w = [bkW ab (nu, wo, sc3, me, us, la, ct, gv, kd, sl)] ∧ (∀ j, 0 ≤ j → j < ct → sc3 j = sc j / 2)) := by
  refine Mt.of (own := RX0) (cc := cX0_halveScores) (maxL := 2) (ret := none) (lv0 := [(0, vP (ab 0))]) (by decide) rfl rfl (Nat.le_of_ble_eq_true rfl) rfl (fun X C hR hN => ?_)
  refine i_iconst (q := 1) C dX0_halveScores_0 rfl ?_
  refine i_istore_n (q := 2) (lv' := [(1, vI 0), (0, vP (ab 0))]) C rfl (by decide) rfl dX0_halveScores_1 rfl ?_
  have loop_2 : ∀ (fuel : Nat) (i : Int) (sc4 : Int → Int), ((ct - i).toNat) < fuel → (0 ≤ i ∧ i ≤ ct) → (∀ j, 0 ≤ j → j < i → sc4 j = sc j / 2) → (∀ j, i ≤ j → sc4 j = sc j) → V X 0 0 2 [(0, vP (ab 0)), (1, vI i)] [] [bkW ab (nu, wo, sc4, me, us, la, ct, gv, kd, sl)] := by
    intro fuel
    induction fuel with
    | zero => intro i sc4 hz; exact absurd hz (Nat.not_lt_zero _)
    | succ fuel ih_2 =>
      intro i sc4 hfu_2 hi h1 h2
      refine i_iload_n (j := 1) (q := 3) C rfl rfl dX0_halveScores_2 rfl ?_
      refine i_aload_n (j := 0) (q := 4) C rfl rfl dX0_halveScores_3 rfl ?_
      refine i_get (i := 0) (j := 0) (f := 6) (q := 7) C rfl rfl rfl hi_X0_halveScores_X0 (by decide) lk_X0_halveScores_31 rfl dX0_halveScores_4 rfl ?_
      refine i_icmp_ge (tgt := 30) (q := 10) C (by omega) (by omega) dX0_halveScores_7 (by decide) rfl (fun c_7 => ?_) (fun c_7 => ?_)
      · skip
        refine i_vret C hR dX0_halveScores_30 ?_
        exact ⟨sc4, rfl, rfl, fun j g0 g1 => h1 j g0 (by omega)⟩
      · skip
        refine i_aload_n (j := 0) (q := 11) C rfl rfl dX0_halveScores_10 rfl ?_
        refine i_get (i := 0) (j := 0) (f := 2) (q := 14) C rfl rfl rfl hi_X0_halveScores_X0 (by decide) lk_X0_halveScores_19 rfl dX0_halveScores_11 rfl ?_
        refine i_iload_n (j := 1) (q := 15) C rfl rfl dX0_halveScores_14 rfl ?_
        refine i_aload_n (j := 0) (q := 16) C rfl rfl dX0_halveScores_15 rfl ?_
        refine i_get (i := 0) (j := 0) (f := 2) (q := 19) C rfl rfl rfl hi_X0_halveScores_X0 (by decide) lk_X0_halveScores_19 rfl dX0_halveScores_16 rfl ?_
        refine i_iload_n (j := 1) (q := 20) C rfl rfl dX0_halveScores_19 rfl ?_
        refine i_iald (i := 0) (j := 3) (q := 21) C rfl rfl (by omega) dX0_halveScores_20 rfl ?_
        have ld_20 := hsc i (by omega) (by omega)
        refine i_iconst (q := 22) C dX0_halveScores_21 rfl ?_
        refine i_idiv (q := 23) C (by rw [h2 i (by omega)]; omega) dX0_halveScores_22 rfl ?_
        refine i_iast (i := 0) (j := 3) (q := 24) (cs' := [bkW ab (nu, wo, up sc4 i ((sc4 i) / 2), me, us, la, ct, gv, kd, sl)]) C rfl rfl (by omega) dX0_halveScores_23 rfl rfl ?_
        refine i_iinc (j := 1) (q := 27) (lv' := [(1, vI (i + 1)), (0, vP (ab 0))]) C rfl (by decide) rfl dX0_halveScores_24 rfl ?_
        refine i_goto (q := 2) C dX0_halveScores_27 (by decide) ?_
        refine V.lv [1, 0] rfl ?_
        exact ih_2 (i + 1) (up sc4 i ((sc4 i) / 2)) (by omega) (by omega) (fun j g0 g1 => by
          by_cases e : j = i
          · subst e; rw [up_s, h2 j (by omega)]
          · rw [up_n _ _ e]; exact h1 j g0 (by omega)) (fun j g0 => by rw [up_n _ _ (show j ≠ i by omega)]; exact h2 j (by omega))
  refine V.lv [1, 0] rfl ?_
  exact loop_2 _ (0) (sc) (Nat.lt_succ_self _) (by omega) (fun j _ _ => by omega) (fun j _ => rfl)

theorem lk_X0_isBefore_19 : Cond.fieldLink RX0 19 (TX0 2).1 (TX0 2).2.1 (TX0 2).2.2.1 ∈ wsX0_isBefore := List.mem_of_getElem? (i := 1) rfl
theorem hi_X0_isBefore_X0 : ∀ w ∈ u_ws RX0 TX0 10, w ∈ wsX0_isBefore := by decide +kernel
set_option maxHeartbeats 4000000 in
set_option maxRecDepth 100000 in
theorem c_X0_isBefore (K : KT) (l : Launch) (ab : Nat → Nat) (nu : Int → Int) (wo : Int → Int) (sc : Int → Int) (me : Int → Int) (us : Int → Int) (la : Int → Int) (ct : Int) (gv : Int) (kd : Int) (sl : Int) (x : Int) (y : Int) (hct : 0 ≤ ct ∧ ct ≤ 40) (hx : 0 ≤ x ∧ x < ct) (hy : 0 ≤ y ∧ y < ct) (hsc : ∀ j, 0 ≤ j → j < ct → rI (sc j)) : Mt K l yX0_isBefore wsX0_isBefore ({ frames := 0, cells := 0, slots := 0, locals := 0 }) [vP (ab 0), vI x, vI y] [bkW ab (nu, wo, sc, me, us, la, ct, gv, kd, sl)] 0 0 (fun v w => v = some (vI (if sc y < sc x ∨ (sc x = sc y ∧ x < y) then 1 else 0)) ∧ w = [bkW ab (nu, wo, sc, me, us, la, ct, gv, kd, sl)]) := by
  refine Mt.of (own := RX0) (cc := cX0_isBefore) (maxL := 3) (ret := (some .boolean)) (lv0 := [(0, vP (ab 0)), (1, vI x), (2, vI y)]) (by decide) rfl rfl (Nat.le_of_ble_eq_true rfl) rfl (fun X C hR hN => ?_)
  refine i_aload_n (j := 0) (q := 1) C rfl rfl dX0_isBefore_0 rfl ?_
  refine i_get (i := 0) (j := 0) (f := 2) (q := 4) C rfl rfl rfl hi_X0_isBefore_X0 (by decide) lk_X0_isBefore_19 rfl dX0_isBefore_1 rfl ?_
  refine i_iload_n (j := 1) (q := 5) C rfl rfl dX0_isBefore_4 rfl ?_
  refine i_iald (i := 0) (j := 3) (q := 6) C rfl rfl (by omega) dX0_isBefore_5 rfl ?_
  have ld_5 := hsc x (by omega) (by omega)
  refine i_aload_n (j := 0) (q := 7) C rfl rfl dX0_isBefore_6 rfl ?_
  refine i_get (i := 0) (j := 0) (f := 2) (q := 10) C rfl rfl rfl hi_X0_isBefore_X0 (by decide) lk_X0_isBefore_19 rfl dX0_isBefore_7 rfl ?_
  refine i_iload_n (j := 2) (q := 11) C rfl rfl dX0_isBefore_10 rfl ?_
  refine i_iald (i := 0) (j := 3) (q := 12) C rfl rfl (by omega) dX0_isBefore_11 rfl ?_
  have ld_11 := hsc y (by omega) (by omega)
  refine i_icmp_gt (tgt := 35) (q := 15) C (by omega) (by omega) dX0_isBefore_12 (by decide) rfl (fun c_12 => ?_) (fun c_12 => ?_)
  · skip
    refine i_iconst (q := 36) C dX0_isBefore_35 rfl ?_
    refine i_goto (q := 40) C dX0_isBefore_36 (by decide) ?_
    refine i_zret C hR (by omega) dX0_isBefore_40 ?_
    exact ⟨by simp only [Option.some.injEq, Sum.inl.injEq]; split <;> omega, rfl⟩
  · skip
    refine i_aload_n (j := 0) (q := 16) C rfl rfl dX0_isBefore_15 rfl ?_
    refine i_get (i := 0) (j := 0) (f := 2) (q := 19) C rfl rfl rfl hi_X0_isBefore_X0 (by decide) lk_X0_isBefore_19 rfl dX0_isBefore_16 rfl ?_
    refine i_iload_n (j := 1) (q := 20) C rfl rfl dX0_isBefore_19 rfl ?_
    refine i_iald (i := 0) (j := 3) (q := 21) C rfl rfl (by omega) dX0_isBefore_20 rfl ?_
    have ld_20 := hsc x (by omega) (by omega)
    refine i_aload_n (j := 0) (q := 22) C rfl rfl dX0_isBefore_21 rfl ?_
    refine i_get (i := 0) (j := 0) (f := 2) (q := 25) C rfl rfl rfl hi_X0_isBefore_X0 (by decide) lk_X0_isBefore_19 rfl dX0_isBefore_22 rfl ?_
    refine i_iload_n (j := 2) (q := 26) C rfl rfl dX0_isBefore_25 rfl ?_
    refine i_iald (i := 0) (j := 3) (q := 27) C rfl rfl (by omega) dX0_isBefore_26 rfl ?_
    have ld_26 := hsc y (by omega) (by omega)
    refine i_icmp_ne (tgt := 39) (q := 30) C (by omega) (by omega) dX0_isBefore_27 (by decide) rfl (fun c_27 => ?_) (fun c_27 => ?_)
    · skip
      refine i_iconst (q := 40) C dX0_isBefore_39 rfl ?_
      refine i_zret C hR (by omega) dX0_isBefore_40 ?_
      exact ⟨by simp only [Option.some.injEq, Sum.inl.injEq]; split <;> omega, rfl⟩
    · skip
      refine i_iload_n (j := 1) (q := 31) C rfl rfl dX0_isBefore_30 rfl ?_
      refine i_iload_n (j := 2) (q := 32) C rfl rfl dX0_isBefore_31 rfl ?_
      refine i_icmp_ge (tgt := 39) (q := 35) C (by omega) (by omega) dX0_isBefore_32 (by decide) rfl (fun c_32 => ?_) (fun c_32 => ?_)
      · skip
        refine i_iconst (q := 40) C dX0_isBefore_39 rfl ?_
        refine i_zret C hR (by omega) dX0_isBefore_40 ?_
        exact ⟨by simp only [Option.some.injEq, Sum.inl.injEq]; split <;> omega, rfl⟩
      · skip
        refine i_iconst (q := 36) C dX0_isBefore_35 rfl ?_
        refine i_goto (q := 40) C dX0_isBefore_36 (by decide) ?_
        refine i_zret C hR (by omega) dX0_isBefore_40 ?_
        exact ⟨by simp only [Option.some.injEq, Sum.inl.injEq]; split <;> omega, rfl⟩

theorem lk_X0_makeEmpty_31 : Cond.fieldLink RX0 31 (TX0 6).1 (TX0 6).2.1 (TX0 6).2.2.1 ∈ wsX0_makeEmpty := List.mem_of_getElem? (i := 1) rfl
theorem hi_X0_makeEmpty_X0 : ∀ w ∈ u_ws RX0 TX0 10, w ∈ wsX0_makeEmpty := by decide +kernel
theorem lk_X0_makeEmpty_35 : Cond.fieldLink RX0 35 (TX0 7).1 (TX0 7).2.1 (TX0 7).2.2.1 ∈ wsX0_makeEmpty := List.mem_of_getElem? (i := 2) rfl
theorem lk_X0_makeEmpty_38 : Cond.fieldLink RX0 38 (TX0 8).1 (TX0 8).2.1 (TX0 8).2.2.1 ∈ wsX0_makeEmpty := List.mem_of_getElem? (i := 3) rfl
theorem lk_X0_makeEmpty_41 : Cond.fieldLink RX0 41 (TX0 9).1 (TX0 9).2.1 (TX0 9).2.2.1 ∈ wsX0_makeEmpty := List.mem_of_getElem? (i := 4) rfl
set_option maxHeartbeats 4000000 in
set_option maxRecDepth 100000 in
theorem c_X0_makeEmpty (K : KT) (l : Launch) (ab : Nat → Nat) (nu : Int → Int) (wo : Int → Int) (sc : Int → Int) (me : Int → Int) (us : Int → Int) (la : Int → Int) (ct : Int) (gv : Int) (kd : Int) (sl : Int)  : Mt K l yX0_makeEmpty wsX0_makeEmpty ({ frames := 0, cells := 0, slots := 0, locals := 0 }) [vP (ab 0)] [bkW ab (nu, wo, sc, me, us, la, ct, gv, kd, sl)] 0 0 (fun v w => v = none ∧ w = [bkW ab (nu, wo, sc, me, us, la, 0, 0, 0, 100)]) := by
  refine Mt.of (own := RX0) (cc := cX0_makeEmpty) (maxL := 1) (ret := none) (lv0 := [(0, vP (ab 0))]) (by decide) rfl rfl (Nat.le_of_ble_eq_true rfl) rfl (fun X C hR hN => ?_)
  refine i_aload_n (j := 0) (q := 1) C rfl rfl dX0_makeEmpty_0 rfl ?_
  refine i_iconst (q := 2) C dX0_makeEmpty_1 rfl ?_
  refine i_putI (i := 0) (j := 0) (f := 6) (q := 5) (cs' := [bkW ab (nu, wo, sc, me, us, la, 0, gv, kd, sl)]) C rfl rfl rfl hi_X0_makeEmpty_X0 tyX0 tyX0_ok nmX0 (by decide) (Nat.le_of_ble_eq_true rfl) lk_X0_makeEmpty_31 rfl rfl dX0_makeEmpty_2 rfl rfl ?_
  refine i_aload_n (j := 0) (q := 6) C rfl rfl dX0_makeEmpty_5 rfl ?_
  refine i_iconst (q := 7) C dX0_makeEmpty_6 rfl ?_
  refine i_putI (i := 0) (j := 0) (f := 7) (q := 10) (cs' := [bkW ab (nu, wo, sc, me, us, la, 0, 0, kd, sl)]) C rfl rfl rfl hi_X0_makeEmpty_X0 tyX0 tyX0_ok nmX0 (by decide) (Nat.le_of_ble_eq_true rfl) lk_X0_makeEmpty_35 rfl rfl dX0_makeEmpty_7 rfl rfl ?_
  refine i_aload_n (j := 0) (q := 11) C rfl rfl dX0_makeEmpty_10 rfl ?_
  refine i_iconst (q := 12) C dX0_makeEmpty_11 rfl ?_
  refine i_putI (i := 0) (j := 0) (f := 8) (q := 15) (cs' := [bkW ab (nu, wo, sc, me, us, la, 0, 0, 0, sl)]) C rfl rfl rfl hi_X0_makeEmpty_X0 tyX0 tyX0_ok nmX0 (by decide) (Nat.le_of_ble_eq_true rfl) lk_X0_makeEmpty_38 rfl rfl dX0_makeEmpty_12 rfl rfl ?_
  refine i_aload_n (j := 0) (q := 16) C rfl rfl dX0_makeEmpty_15 rfl ?_
  refine i_bipush (q := 18) C (by decide) dX0_makeEmpty_16 rfl ?_
  refine i_putI (i := 0) (j := 0) (f := 9) (q := 21) (cs' := [bkW ab (nu, wo, sc, me, us, la, 0, 0, 0, 100)]) C rfl rfl rfl hi_X0_makeEmpty_X0 tyX0 tyX0_ok nmX0 (by decide) (Nat.le_of_ble_eq_true rfl) lk_X0_makeEmpty_41 rfl rfl dX0_makeEmpty_18 rfl rfl ?_
  refine i_vret C hR dX0_makeEmpty_21 ?_
  exact ⟨rfl, rfl⟩
