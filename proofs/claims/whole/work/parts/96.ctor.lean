abbrev z0 : Int → Int := fun _ => 0
abbrev B0 : Bk := (z0, z0, z0, z0, z0, z0, 0, 0, 0, 100)
theorem V.cRx {X : Cxt} {k n pc : Nat} {lv : Lv} {st : List Vl} {cs cs' : List Wd} {i j a N : Nat} {ch : Wd} {g g' : Int → Option Nat} (hc : cs[i]? = some ch) (hj : ch[j]? = some (a, cR N g)) (hg : ∀ z : Nat, z < N → g (z : Int) = g' (z : Int)) (hcs : cs.set i (ch.set j (a, cR N g')) = cs') (kk : V X k n pc lv st cs') : V X k n pc lv st cs := by
  obtain ⟨p, l', e, R', s, m, args, below, meth, c, Q, A, K', nL'⟩ := X
  intro H locs ls hP hD hS hl
  subst hcs
  obtain ⟨q0, h1, h2⟩ := rw_at (K := K') hc hj
  have he : va_at (kD K') vwCl (a, re K' (cR N g')) H := by
    have h9 : H[a]? = some (arrV K'.2.2.2.2.1 N (fun z => va_rf (g (z : Int)))) := hP q0 _ h1
    show H[a]? = some (arrV K'.2.2.2.2.1 N (fun z => va_rf (g' (z : Int))))
    rw [h9]
    unfold arrV
    congr 3
    funext z
    exact congrArg va_rf (hg z.val z.isLt)
  have hP2 := hP.set hD h1 he (fun q _ => rfl)
  have hD2 := hD.set (e := re K' (cR N g')) h1
  rw [h2] at hP2 hD2
  exact kk H locs ls hP2 hD2 hS hl
theorem df_X0 : ∀ j, j < 10 → defaultValue (tyX0 j) = vp_V (([vN, vN, vN, vN, vN, vN, vI 0, vI 0, vI 0, vI 0] : List Vl).map rv) j := by
  intro j hj
  rcases (show j = 0 ∨ j = 1 ∨ j = 2 ∨ j = 3 ∨ j = 4 ∨ j = 5 ∨ j = 6 ∨ j = 7 ∨ j = 8 ∨ j = 9 by omega) with rfl | rfl | rfl | rfl | rfl | rfl | rfl | rfl | rfl | rfl <;> rfl
theorem df_X2 : ∀ j, j < 3 → defaultValue (tyX2 j) = vp_V (([vN, vN, vI 0] : List Vl).map rv) j := by
  intro j hj
  rcases (show j = 0 ∨ j = 1 ∨ j = 2 by omega) with rfl | rfl | rfl <;> rfl
theorem df_X3 : ∀ j, j < 9 → defaultValue (tyX3 j) = vp_V (([vN, vI 0, vN, vN, vN, vN, vI 0, vI 0, vI 0] : List Vl).map rv) j := by
  intro j hj
  rcases (show j = 0 ∨ j = 1 ∨ j = 2 ∨ j = 3 ∨ j = 4 ∨ j = 5 ∨ j = 6 ∨ j = 7 ∨ j = 8 by omega) with rfl | rfl | rfl | rfl | rfl | rfl | rfl | rfl | rfl <;> rfl
theorem df_X4 : ∀ j, j < 3 → defaultValue (tyX4 j) = vp_V (([vN, vI 0, vI 0] : List Vl).map rv) j := by
  intro j hj
  rcases (show j = 0 ∨ j = 1 ∨ j = 2 by omega) with rfl | rfl | rfl <;> rfl
theorem df_X7 : ∀ j, j < 9 → defaultValue (tyX7 j) = vp_V (([vN, vN, vN, vN, vJ 0, vI 0, vI 0, vI 0, vI 0] : List Vl).map rv) j := by
  intro j hj
  rcases (show j = 0 ∨ j = 1 ∨ j = 2 ∨ j = 3 ∨ j = 4 ∨ j = 5 ∨ j = 6 ∨ j = 7 ∨ j = 8 by omega) with rfl | rfl | rfl | rfl | rfl | rfl | rfl | rfl | rfl <;> rfl
theorem df_X8 : ∀ j, j < 18 → defaultValue (tyX8 j) = vp_V (([vN, vN, vI 0, vI 0, vN, vI 0, vN, vI 0, vN, vJ 0, vN, vN, vI 0, vI 0, vN, vI 0, vN, vI 0] : List Vl).map rv) j := by
  intro j hj
  rcases (show j = 0 ∨ j = 1 ∨ j = 2 ∨ j = 3 ∨ j = 4 ∨ j = 5 ∨ j = 6 ∨ j = 7 ∨ j = 8 ∨ j = 9 ∨ j = 10 ∨ j = 11 ∨ j = 12 ∨ j = 13 ∨ j = 14 ∨ j = 15 ∨ j = 16 ∨ j = 17 by omega) with rfl | rfl | rfl | rfl | rfl | rfl | rfl | rfl | rfl | rfl | rfl | rfl | rfl | rfl | rfl | rfl | rfl | rfl <;> rfl
theorem lk_X0_init_9 : Cond.fieldLink RX0 9 (TX0 0).1 (TX0 0).2.1 (TX0 0).2.2.1 ∈ wsX0_init := List.mem_of_getElem? (i := 5) rfl
theorem hi_X0_init_X0 : ∀ w ∈ u_ws RX0 TX0 10, w ∈ wsX0_init := by decide +kernel
theorem lk_X0_init_15 : Cond.fieldLink RX0 15 (TX0 1).1 (TX0 1).2.1 (TX0 1).2.2.1 ∈ wsX0_init := List.mem_of_getElem? (i := 7) rfl
theorem lk_X0_init_19 : Cond.fieldLink RX0 19 (TX0 2).1 (TX0 2).2.1 (TX0 2).2.2.1 ∈ wsX0_init := List.mem_of_getElem? (i := 8) rfl
theorem lk_X0_init_22 : Cond.fieldLink RX0 22 (TX0 3).1 (TX0 3).2.1 (TX0 3).2.2.1 ∈ wsX0_init := List.mem_of_getElem? (i := 9) rfl
theorem lk_X0_init_25 : Cond.fieldLink RX0 25 (TX0 4).1 (TX0 4).2.1 (TX0 4).2.2.1 ∈ wsX0_init := List.mem_of_getElem? (i := 10) rfl
theorem lk_X0_init_28 : Cond.fieldLink RX0 28 (TX0 5).1 (TX0 5).2.1 (TX0 5).2.2.1 ∈ wsX0_init := List.mem_of_getElem? (i := 11) rfl
theorem lk_X0_init_31 : Cond.fieldLink RX0 31 (TX0 6).1 (TX0 6).2.1 (TX0 6).2.2.1 ∈ wsX0_init := List.mem_of_getElem? (i := 12) rfl
theorem lk_X0_init_35 : Cond.fieldLink RX0 35 (TX0 7).1 (TX0 7).2.1 (TX0 7).2.2.1 ∈ wsX0_init := List.mem_of_getElem? (i := 13) rfl
theorem lk_X0_init_38 : Cond.fieldLink RX0 38 (TX0 8).1 (TX0 8).2.1 (TX0 8).2.2.1 ∈ wsX0_init := List.mem_of_getElem? (i := 14) rfl
theorem lk_X0_init_41 : Cond.fieldLink RX0 41 (TX0 9).1 (TX0 9).2.1 (TX0 9).2.2.1 ∈ wsX0_init := List.mem_of_getElem? (i := 15) rfl
set_option maxHeartbeats 1000000 in
set_option maxRecDepth 100000 in
theorem c_X0_init (K : KT) (l : Launch) (a : Nat) : Mt K l yX0_init wsX0_init ({ frames := 1, cells := 6, slots := 240, locals := 12 }) [vP a] [[(a, cO 0 [vN, vN, vN, vN, vN, vN, vI 0, vI 0, vI 0, vI 0])]] 6 240 (fun v w => ∃ ab : Nat → Nat, v = none ∧ ab 0 = a ∧ w = [bkW ab (z0, z0, z0, z0, z0, z0, 0, 0, 0, 100)]) := by
  refine Mt.of (own := RX0) (cc := cX0_init) (maxL := 1) (ret := none) (lv0 := [(0, vP a)]) (by decide) rfl rfl (Nat.le_of_ble_eq_true rfl) rfl (fun X C hR hNm => ?_)
  refine i_aload_n (j := 0) (q := 1) C rfl rfl dX0_init_0 rfl ?_
  refine i_objInit (q := 4) C (List.mem_of_getElem? (i := 1) rfl) (List.mem_of_getElem? (i := 2) rfl) (List.mem_of_getElem? (i := 3) rfl) rfl ⟨Nat.le_of_ble_eq_true rfl, Nat.le_of_ble_eq_true rfl⟩ dX0_init_1 rfl ?_
  refine i_aload_n (j := 0) (q := 5) C rfl rfl dX0_init_4 rfl ?_
  refine i_bipush (q := 7) C (by decide) dX0_init_5 rfl ?_
  refine i_newI (N := 40) (q := 9) C (List.mem_of_getElem? (i := 4) rfl) (by decide) (by decide) ⟨Nat.le_of_ble_eq_true rfl, Nat.le_of_ble_eq_true rfl⟩ dX0_init_7 rfl (fun b1 => ?_)
  show V X 1 40 9 [(0, vP a)] [vP b1, vP a] [[(a, cO 0 [vN, vN, vN, vN, vN, vN, vI 0, vI 0, vI 0, vI 0])], [(b1, cA 40 z0)]]
  refine i_putFP (i := 0) (j := 0) (f := 0) (q := 12) (cs' := [[(a, cO 0 [vP b1, vN, vN, vN, vN, vN, vI 0, vI 0, vI 0, vI 0])], [(b1, cA 40 z0)]]) hNm C rfl rfl rfl hi_X0_init_X0 tyX0 tyX0_ok nmX0 (by decide) (Nat.le_of_ble_eq_true rfl) lk_X0_init_9 rfl rfl (Or.inr ⟨_, rfl⟩) dX0_init_9 rfl rfl ?_
  refine i_aload_n (j := 0) (q := 13) C rfl rfl dX0_init_12 rfl ?_
  refine i_bipush (q := 15) C (by decide) dX0_init_13 rfl ?_
  refine i_newJ (N := 40) (q := 17) C (List.mem_of_getElem? (i := 6) rfl) (by decide) (by decide) ⟨Nat.le_of_ble_eq_true rfl, Nat.le_of_ble_eq_true rfl⟩ dX0_init_15 rfl (fun b2 => ?_)
  show V X 2 80 17 [(0, vP a)] [vP b2, vP a] [[(a, cO 0 [vP b1, vN, vN, vN, vN, vN, vI 0, vI 0, vI 0, vI 0])], [(b1, cA 40 z0)], [(b2, cL 40 z0)]]
  refine i_putFP (i := 0) (j := 0) (f := 1) (q := 20) (cs' := [[(a, cO 0 [vP b1, vP b2, vN, vN, vN, vN, vI 0, vI 0, vI 0, vI 0])], [(b1, cA 40 z0)], [(b2, cL 40 z0)]]) hNm C rfl rfl rfl hi_X0_init_X0 tyX0 tyX0_ok nmX0 (by decide) (Nat.le_of_ble_eq_true rfl) lk_X0_init_15 rfl rfl (Or.inr ⟨_, rfl⟩) dX0_init_17 rfl rfl ?_
  refine i_aload_n (j := 0) (q := 21) C rfl rfl dX0_init_20 rfl ?_
  refine i_bipush (q := 23) C (by decide) dX0_init_21 rfl ?_
  refine i_newI (N := 40) (q := 25) C (List.mem_of_getElem? (i := 4) rfl) (by decide) (by decide) ⟨Nat.le_of_ble_eq_true rfl, Nat.le_of_ble_eq_true rfl⟩ dX0_init_23 rfl (fun b3 => ?_)
  show V X 3 120 25 [(0, vP a)] [vP b3, vP a] [[(a, cO 0 [vP b1, vP b2, vN, vN, vN, vN, vI 0, vI 0, vI 0, vI 0])], [(b1, cA 40 z0)], [(b2, cL 40 z0)], [(b3, cA 40 z0)]]
  refine i_putFP (i := 0) (j := 0) (f := 2) (q := 28) (cs' := [[(a, cO 0 [vP b1, vP b2, vP b3, vN, vN, vN, vI 0, vI 0, vI 0, vI 0])], [(b1, cA 40 z0)], [(b2, cL 40 z0)], [(b3, cA 40 z0)]]) hNm C rfl rfl rfl hi_X0_init_X0 tyX0 tyX0_ok nmX0 (by decide) (Nat.le_of_ble_eq_true rfl) lk_X0_init_19 rfl rfl (Or.inr ⟨_, rfl⟩) dX0_init_25 rfl rfl ?_
  refine i_aload_n (j := 0) (q := 29) C rfl rfl dX0_init_28 rfl ?_
  refine i_bipush (q := 31) C (by decide) dX0_init_29 rfl ?_
  refine i_newI (N := 40) (q := 33) C (List.mem_of_getElem? (i := 4) rfl) (by decide) (by decide) ⟨Nat.le_of_ble_eq_true rfl, Nat.le_of_ble_eq_true rfl⟩ dX0_init_31 rfl (fun b4 => ?_)
  show V X 4 160 33 [(0, vP a)] [vP b4, vP a] [[(a, cO 0 [vP b1, vP b2, vP b3, vN, vN, vN, vI 0, vI 0, vI 0, vI 0])], [(b1, cA 40 z0)], [(b2, cL 40 z0)], [(b3, cA 40 z0)], [(b4, cA 40 z0)]]
  refine i_putFP (i := 0) (j := 0) (f := 3) (q := 36) (cs' := [[(a, cO 0 [vP b1, vP b2, vP b3, vP b4, vN, vN, vI 0, vI 0, vI 0, vI 0])], [(b1, cA 40 z0)], [(b2, cL 40 z0)], [(b3, cA 40 z0)], [(b4, cA 40 z0)]]) hNm C rfl rfl rfl hi_X0_init_X0 tyX0 tyX0_ok nmX0 (by decide) (Nat.le_of_ble_eq_true rfl) lk_X0_init_22 rfl rfl (Or.inr ⟨_, rfl⟩) dX0_init_33 rfl rfl ?_
  refine i_aload_n (j := 0) (q := 37) C rfl rfl dX0_init_36 rfl ?_
  refine i_bipush (q := 39) C (by decide) dX0_init_37 rfl ?_
  refine i_newI (N := 40) (q := 41) C (List.mem_of_getElem? (i := 4) rfl) (by decide) (by decide) ⟨Nat.le_of_ble_eq_true rfl, Nat.le_of_ble_eq_true rfl⟩ dX0_init_39 rfl (fun b5 => ?_)
  show V X 5 200 41 [(0, vP a)] [vP b5, vP a] [[(a, cO 0 [vP b1, vP b2, vP b3, vP b4, vN, vN, vI 0, vI 0, vI 0, vI 0])], [(b1, cA 40 z0)], [(b2, cL 40 z0)], [(b3, cA 40 z0)], [(b4, cA 40 z0)], [(b5, cA 40 z0)]]
  refine i_putFP (i := 0) (j := 0) (f := 4) (q := 44) (cs' := [[(a, cO 0 [vP b1, vP b2, vP b3, vP b4, vP b5, vN, vI 0, vI 0, vI 0, vI 0])], [(b1, cA 40 z0)], [(b2, cL 40 z0)], [(b3, cA 40 z0)], [(b4, cA 40 z0)], [(b5, cA 40 z0)]]) hNm C rfl rfl rfl hi_X0_init_X0 tyX0 tyX0_ok nmX0 (by decide) (Nat.le_of_ble_eq_true rfl) lk_X0_init_25 rfl rfl (Or.inr ⟨_, rfl⟩) dX0_init_41 rfl rfl ?_
  refine i_aload_n (j := 0) (q := 45) C rfl rfl dX0_init_44 rfl ?_
  refine i_bipush (q := 47) C (by decide) dX0_init_45 rfl ?_
  refine i_newI (N := 40) (q := 49) C (List.mem_of_getElem? (i := 4) rfl) (by decide) (by decide) ⟨Nat.le_of_ble_eq_true rfl, Nat.le_of_ble_eq_true rfl⟩ dX0_init_47 rfl (fun b6 => ?_)
  show V X 6 240 49 [(0, vP a)] [vP b6, vP a] [[(a, cO 0 [vP b1, vP b2, vP b3, vP b4, vP b5, vN, vI 0, vI 0, vI 0, vI 0])], [(b1, cA 40 z0)], [(b2, cL 40 z0)], [(b3, cA 40 z0)], [(b4, cA 40 z0)], [(b5, cA 40 z0)], [(b6, cA 40 z0)]]
  refine i_putFP (i := 0) (j := 0) (f := 5) (q := 52) (cs' := [[(a, cO 0 [vP b1, vP b2, vP b3, vP b4, vP b5, vP b6, vI 0, vI 0, vI 0, vI 0])], [(b1, cA 40 z0)], [(b2, cL 40 z0)], [(b3, cA 40 z0)], [(b4, cA 40 z0)], [(b5, cA 40 z0)], [(b6, cA 40 z0)]]) hNm C rfl rfl rfl hi_X0_init_X0 tyX0 tyX0_ok nmX0 (by decide) (Nat.le_of_ble_eq_true rfl) lk_X0_init_28 rfl rfl (Or.inr ⟨_, rfl⟩) dX0_init_49 rfl rfl ?_
  refine i_aload_n (j := 0) (q := 53) C rfl rfl dX0_init_52 rfl ?_
  refine i_iconst (q := 54) C dX0_init_53 rfl ?_
  refine i_putI (i := 0) (j := 0) (f := 6) (q := 57) (cs' := [[(a, cO 0 [vP b1, vP b2, vP b3, vP b4, vP b5, vP b6, vI 0, vI 0, vI 0, vI 0])], [(b1, cA 40 z0)], [(b2, cL 40 z0)], [(b3, cA 40 z0)], [(b4, cA 40 z0)], [(b5, cA 40 z0)], [(b6, cA 40 z0)]]) C rfl rfl rfl hi_X0_init_X0 tyX0 tyX0_ok nmX0 (by decide) (Nat.le_of_ble_eq_true rfl) lk_X0_init_31 rfl rfl dX0_init_54 rfl rfl ?_
  refine i_aload_n (j := 0) (q := 58) C rfl rfl dX0_init_57 rfl ?_
  refine i_iconst (q := 59) C dX0_init_58 rfl ?_
  refine i_putI (i := 0) (j := 0) (f := 7) (q := 62) (cs' := [[(a, cO 0 [vP b1, vP b2, vP b3, vP b4, vP b5, vP b6, vI 0, vI 0, vI 0, vI 0])], [(b1, cA 40 z0)], [(b2, cL 40 z0)], [(b3, cA 40 z0)], [(b4, cA 40 z0)], [(b5, cA 40 z0)], [(b6, cA 40 z0)]]) C rfl rfl rfl hi_X0_init_X0 tyX0 tyX0_ok nmX0 (by decide) (Nat.le_of_ble_eq_true rfl) lk_X0_init_35 rfl rfl dX0_init_59 rfl rfl ?_
  refine i_aload_n (j := 0) (q := 63) C rfl rfl dX0_init_62 rfl ?_
  refine i_iconst (q := 64) C dX0_init_63 rfl ?_
  refine i_putI (i := 0) (j := 0) (f := 8) (q := 67) (cs' := [[(a, cO 0 [vP b1, vP b2, vP b3, vP b4, vP b5, vP b6, vI 0, vI 0, vI 0, vI 0])], [(b1, cA 40 z0)], [(b2, cL 40 z0)], [(b3, cA 40 z0)], [(b4, cA 40 z0)], [(b5, cA 40 z0)], [(b6, cA 40 z0)]]) C rfl rfl rfl hi_X0_init_X0 tyX0 tyX0_ok nmX0 (by decide) (Nat.le_of_ble_eq_true rfl) lk_X0_init_38 rfl rfl dX0_init_64 rfl rfl ?_
  refine i_aload_n (j := 0) (q := 68) C rfl rfl dX0_init_67 rfl ?_
  refine i_bipush (q := 70) C (by decide) dX0_init_68 rfl ?_
  refine i_putI (i := 0) (j := 0) (f := 9) (q := 73) (cs' := [[(a, cO 0 [vP b1, vP b2, vP b3, vP b4, vP b5, vP b6, vI 0, vI 0, vI 0, vI 100])], [(b1, cA 40 z0)], [(b2, cL 40 z0)], [(b3, cA 40 z0)], [(b4, cA 40 z0)], [(b5, cA 40 z0)], [(b6, cA 40 z0)]]) C rfl rfl rfl hi_X0_init_X0 tyX0 tyX0_ok nmX0 (by decide) (Nat.le_of_ble_eq_true rfl) lk_X0_init_41 rfl rfl dX0_init_70 rfl rfl ?_
  refine V.permF (cs' := [bkW (fun k => ([a, b1, b2, b3, b4, b5, b6] : List Nat).getD k 0) (z0, z0, z0, z0, z0, z0, 0, 0, 0, 100)]) (List.Perm.of_eq rfl) ?_
  refine i_vret C hR dX0_init_73 ?_
  exact ⟨_, rfl, rfl, rfl⟩

theorem lk_X2_init_9 : Cond.fieldLink RX2 9 (TX2 0).1 (TX2 0).2.1 (TX2 0).2.2.1 ∈ wsX2_init := List.mem_of_getElem? (i := 5) rfl
theorem hi_X2_init_X2 : ∀ w ∈ u_ws RX2 TX2 3, w ∈ wsX2_init := by decide +kernel
theorem lk_X2_init_15 : Cond.fieldLink RX2 15 (TX2 1).1 (TX2 1).2.1 (TX2 1).2.2.1 ∈ wsX2_init := List.mem_of_getElem? (i := 6) rfl
theorem lk_X2_init_18 : Cond.fieldLink RX2 18 (TX2 2).1 (TX2 2).2.1 (TX2 2).2.2.1 ∈ wsX2_init := List.mem_of_getElem? (i := 7) rfl
set_option maxHeartbeats 1000000 in
set_option maxRecDepth 100000 in
theorem c_X2_init (K : KT) (l : Launch) (a : Nat) : Mt K l yX2_init wsX2_init ({ frames := 1, cells := 2, slots := 80, locals := 12 }) [vP a] [[(a, cO 1 [vN, vN, vI 0])]] 2 80 (fun v w => ∃ ab : Nat → Nat, v = none ∧ ab 0 = a ∧ w = [liW ab (z0, z0, 0)]) := by
  refine Mt.of (own := RX2) (cc := cX2_init) (maxL := 1) (ret := none) (lv0 := [(0, vP a)]) (by decide) rfl rfl (Nat.le_of_ble_eq_true rfl) rfl (fun X C hR hNm => ?_)
  refine i_aload_n (j := 0) (q := 1) C rfl rfl dX2_init_0 rfl ?_
  refine i_objInit (q := 4) C (List.mem_of_getElem? (i := 1) rfl) (List.mem_of_getElem? (i := 2) rfl) (List.mem_of_getElem? (i := 3) rfl) rfl ⟨Nat.le_of_ble_eq_true rfl, Nat.le_of_ble_eq_true rfl⟩ dX2_init_1 rfl ?_
  refine i_aload_n (j := 0) (q := 5) C rfl rfl dX2_init_4 rfl ?_
  refine i_bipush (q := 7) C (by decide) dX2_init_5 rfl ?_
  refine i_newI (N := 40) (q := 9) C (List.mem_of_getElem? (i := 4) rfl) (by decide) (by decide) ⟨Nat.le_of_ble_eq_true rfl, Nat.le_of_ble_eq_true rfl⟩ dX2_init_7 rfl (fun b1 => ?_)
  show V X 1 40 9 [(0, vP a)] [vP b1, vP a] [[(a, cO 1 [vN, vN, vI 0])], [(b1, cA 40 z0)]]
  refine i_putFP (i := 0) (j := 0) (f := 0) (q := 12) (cs' := [[(a, cO 1 [vP b1, vN, vI 0])], [(b1, cA 40 z0)]]) hNm C rfl rfl rfl hi_X2_init_X2 tyX2 tyX2_ok nmX2 (by decide) (Nat.le_of_ble_eq_true rfl) lk_X2_init_9 rfl rfl (Or.inr ⟨_, rfl⟩) dX2_init_9 rfl rfl ?_
  refine i_aload_n (j := 0) (q := 13) C rfl rfl dX2_init_12 rfl ?_
  refine i_bipush (q := 15) C (by decide) dX2_init_13 rfl ?_
  refine i_newI (N := 40) (q := 17) C (List.mem_of_getElem? (i := 4) rfl) (by decide) (by decide) ⟨Nat.le_of_ble_eq_true rfl, Nat.le_of_ble_eq_true rfl⟩ dX2_init_15 rfl (fun b2 => ?_)
  show V X 2 80 17 [(0, vP a)] [vP b2, vP a] [[(a, cO 1 [vP b1, vN, vI 0])], [(b1, cA 40 z0)], [(b2, cA 40 z0)]]
  refine i_putFP (i := 0) (j := 0) (f := 1) (q := 20) (cs' := [[(a, cO 1 [vP b1, vP b2, vI 0])], [(b1, cA 40 z0)], [(b2, cA 40 z0)]]) hNm C rfl rfl rfl hi_X2_init_X2 tyX2 tyX2_ok nmX2 (by decide) (Nat.le_of_ble_eq_true rfl) lk_X2_init_15 rfl rfl (Or.inr ⟨_, rfl⟩) dX2_init_17 rfl rfl ?_
  refine i_aload_n (j := 0) (q := 21) C rfl rfl dX2_init_20 rfl ?_
  refine i_iconst (q := 22) C dX2_init_21 rfl ?_
  refine i_putI (i := 0) (j := 0) (f := 2) (q := 25) (cs' := [[(a, cO 1 [vP b1, vP b2, vI 0])], [(b1, cA 40 z0)], [(b2, cA 40 z0)]]) C rfl rfl rfl hi_X2_init_X2 tyX2 tyX2_ok nmX2 (by decide) (Nat.le_of_ble_eq_true rfl) lk_X2_init_18 rfl rfl dX2_init_22 rfl rfl ?_
  refine V.permF (cs' := [liW (fun k => ([a, b1, b2] : List Nat).getD k 0) (z0, z0, 0)]) (List.Perm.of_eq rfl) ?_
  refine i_vret C hR dX2_init_25 ?_
  exact ⟨_, rfl, rfl, rfl⟩

theorem lk_X3_init_9 : Cond.fieldLink RX3 9 (TX3 0).1 (TX3 0).2.1 (TX3 0).2.2.1 ∈ wsX3_init := List.mem_of_getElem? (i := 5) rfl
theorem hi_X3_init_X3 : ∀ w ∈ u_ws RX3 TX3 9, w ∈ wsX3_init := by decide +kernel
theorem lk_X3_init_15 : Cond.fieldLink RX3 15 (TX3 1).1 (TX3 1).2.1 (TX3 1).2.2.1 ∈ wsX3_init := List.mem_of_getElem? (i := 6) rfl
theorem lk_X3_init_19 : Cond.fieldLink RX3 19 (TX3 2).1 (TX3 2).2.1 (TX3 2).2.2.1 ∈ wsX3_init := List.mem_of_getElem? (i := 7) rfl
theorem lk_X3_init_22 : Cond.fieldLink RX3 22 (TX3 3).1 (TX3 3).2.1 (TX3 3).2.2.1 ∈ wsX3_init := List.mem_of_getElem? (i := 9) rfl
theorem lk_X3_init_26 : Cond.fieldLink RX3 26 (TX3 4).1 (TX3 4).2.1 (TX3 4).2.2.1 ∈ wsX3_init := List.mem_of_getElem? (i := 10) rfl
theorem lk_X3_init_29 : Cond.fieldLink RX3 29 (TX3 5).1 (TX3 5).2.1 (TX3 5).2.2.1 ∈ wsX3_init := List.mem_of_getElem? (i := 11) rfl
theorem lk_X3_init_32 : Cond.fieldLink RX3 32 (TX3 6).1 (TX3 6).2.1 (TX3 6).2.2.1 ∈ wsX3_init := List.mem_of_getElem? (i := 12) rfl
theorem lk_X3_init_35 : Cond.fieldLink RX3 35 (TX3 7).1 (TX3 7).2.1 (TX3 7).2.2.1 ∈ wsX3_init := List.mem_of_getElem? (i := 13) rfl
theorem lk_X3_init_38 : Cond.fieldLink RX3 38 (TX3 8).1 (TX3 8).2.1 (TX3 8).2.2.1 ∈ wsX3_init := List.mem_of_getElem? (i := 14) rfl
set_option maxHeartbeats 1000000 in
set_option maxRecDepth 100000 in
theorem c_X3_init (K : KT) (l : Launch) (a : Nat) : Mt K l yX3_init wsX3_init ({ frames := 1, cells := 5, slots := 216, locals := 12 }) [vP a] [[(a, cO 2 [vN, vI 0, vN, vN, vN, vN, vI 0, vI 0, vI 0])]] 5 216 (fun v w => ∃ ab : Nat → Nat, v = none ∧ ab 0 = a ∧ w = [odW ab (z0, z0, z0, z0, z0, 0, 0, 0, -1)]) := by
  refine Mt.of (own := RX3) (cc := cX3_init) (maxL := 1) (ret := none) (lv0 := [(0, vP a)]) (by decide) rfl rfl (Nat.le_of_ble_eq_true rfl) rfl (fun X C hR hNm => ?_)
  refine i_aload_n (j := 0) (q := 1) C rfl rfl dX3_init_0 rfl ?_
  refine i_objInit (q := 4) C (List.mem_of_getElem? (i := 1) rfl) (List.mem_of_getElem? (i := 2) rfl) (List.mem_of_getElem? (i := 3) rfl) rfl ⟨Nat.le_of_ble_eq_true rfl, Nat.le_of_ble_eq_true rfl⟩ dX3_init_1 rfl ?_
  refine i_aload_n (j := 0) (q := 5) C rfl rfl dX3_init_4 rfl ?_
  refine i_bipush (q := 7) C (by decide) dX3_init_5 rfl ?_
  refine i_newI (N := 120) (q := 9) C (List.mem_of_getElem? (i := 4) rfl) (by decide) (by decide) ⟨Nat.le_of_ble_eq_true rfl, Nat.le_of_ble_eq_true rfl⟩ dX3_init_7 rfl (fun b1 => ?_)
  show V X 1 120 9 [(0, vP a)] [vP b1, vP a] [[(a, cO 2 [vN, vI 0, vN, vN, vN, vN, vI 0, vI 0, vI 0])], [(b1, cA 120 z0)]]
  refine i_putFP (i := 0) (j := 0) (f := 0) (q := 12) (cs' := [[(a, cO 2 [vP b1, vI 0, vN, vN, vN, vN, vI 0, vI 0, vI 0])], [(b1, cA 120 z0)]]) hNm C rfl rfl rfl hi_X3_init_X3 tyX3 tyX3_ok nmX3 (by decide) (Nat.le_of_ble_eq_true rfl) lk_X3_init_9 rfl rfl (Or.inr ⟨_, rfl⟩) dX3_init_9 rfl rfl ?_
  refine i_aload_n (j := 0) (q := 13) C rfl rfl dX3_init_12 rfl ?_
  refine i_iconst (q := 14) C dX3_init_13 rfl ?_
  refine i_putI (i := 0) (j := 0) (f := 1) (q := 17) (cs' := [[(a, cO 2 [vP b1, vI 0, vN, vN, vN, vN, vI 0, vI 0, vI 0])], [(b1, cA 120 z0)]]) C rfl rfl rfl hi_X3_init_X3 tyX3 tyX3_ok nmX3 (by decide) (Nat.le_of_ble_eq_true rfl) lk_X3_init_15 rfl rfl dX3_init_14 rfl rfl ?_
  refine i_aload_n (j := 0) (q := 18) C rfl rfl dX3_init_17 rfl ?_
  refine i_bipush (q := 20) C (by decide) dX3_init_18 rfl ?_
  refine i_newI (N := 24) (q := 22) C (List.mem_of_getElem? (i := 4) rfl) (by decide) (by decide) ⟨Nat.le_of_ble_eq_true rfl, Nat.le_of_ble_eq_true rfl⟩ dX3_init_20 rfl (fun b2 => ?_)
  show V X 2 144 22 [(0, vP a)] [vP b2, vP a] [[(a, cO 2 [vP b1, vI 0, vN, vN, vN, vN, vI 0, vI 0, vI 0])], [(b1, cA 120 z0)], [(b2, cA 24 z0)]]
  refine i_putFP (i := 0) (j := 0) (f := 2) (q := 25) (cs' := [[(a, cO 2 [vP b1, vI 0, vP b2, vN, vN, vN, vI 0, vI 0, vI 0])], [(b1, cA 120 z0)], [(b2, cA 24 z0)]]) hNm C rfl rfl rfl hi_X3_init_X3 tyX3 tyX3_ok nmX3 (by decide) (Nat.le_of_ble_eq_true rfl) lk_X3_init_19 rfl rfl (Or.inr ⟨_, rfl⟩) dX3_init_22 rfl rfl ?_
  refine i_aload_n (j := 0) (q := 26) C rfl rfl dX3_init_25 rfl ?_
  refine i_bipush (q := 28) C (by decide) dX3_init_26 rfl ?_
  refine i_newJ (N := 24) (q := 30) C (List.mem_of_getElem? (i := 8) rfl) (by decide) (by decide) ⟨Nat.le_of_ble_eq_true rfl, Nat.le_of_ble_eq_true rfl⟩ dX3_init_28 rfl (fun b3 => ?_)
  show V X 3 168 30 [(0, vP a)] [vP b3, vP a] [[(a, cO 2 [vP b1, vI 0, vP b2, vN, vN, vN, vI 0, vI 0, vI 0])], [(b1, cA 120 z0)], [(b2, cA 24 z0)], [(b3, cL 24 z0)]]
  refine i_putFP (i := 0) (j := 0) (f := 3) (q := 33) (cs' := [[(a, cO 2 [vP b1, vI 0, vP b2, vP b3, vN, vN, vI 0, vI 0, vI 0])], [(b1, cA 120 z0)], [(b2, cA 24 z0)], [(b3, cL 24 z0)]]) hNm C rfl rfl rfl hi_X3_init_X3 tyX3 tyX3_ok nmX3 (by decide) (Nat.le_of_ble_eq_true rfl) lk_X3_init_22 rfl rfl (Or.inr ⟨_, rfl⟩) dX3_init_30 rfl rfl ?_
  refine i_aload_n (j := 0) (q := 34) C rfl rfl dX3_init_33 rfl ?_
  refine i_bipush (q := 36) C (by decide) dX3_init_34 rfl ?_
  refine i_newI (N := 24) (q := 38) C (List.mem_of_getElem? (i := 4) rfl) (by decide) (by decide) ⟨Nat.le_of_ble_eq_true rfl, Nat.le_of_ble_eq_true rfl⟩ dX3_init_36 rfl (fun b4 => ?_)
  show V X 4 192 38 [(0, vP a)] [vP b4, vP a] [[(a, cO 2 [vP b1, vI 0, vP b2, vP b3, vN, vN, vI 0, vI 0, vI 0])], [(b1, cA 120 z0)], [(b2, cA 24 z0)], [(b3, cL 24 z0)], [(b4, cA 24 z0)]]
  refine i_putFP (i := 0) (j := 0) (f := 4) (q := 41) (cs' := [[(a, cO 2 [vP b1, vI 0, vP b2, vP b3, vP b4, vN, vI 0, vI 0, vI 0])], [(b1, cA 120 z0)], [(b2, cA 24 z0)], [(b3, cL 24 z0)], [(b4, cA 24 z0)]]) hNm C rfl rfl rfl hi_X3_init_X3 tyX3 tyX3_ok nmX3 (by decide) (Nat.le_of_ble_eq_true rfl) lk_X3_init_26 rfl rfl (Or.inr ⟨_, rfl⟩) dX3_init_38 rfl rfl ?_
  refine i_aload_n (j := 0) (q := 42) C rfl rfl dX3_init_41 rfl ?_
  refine i_bipush (q := 44) C (by decide) dX3_init_42 rfl ?_
  refine i_newI (N := 24) (q := 46) C (List.mem_of_getElem? (i := 4) rfl) (by decide) (by decide) ⟨Nat.le_of_ble_eq_true rfl, Nat.le_of_ble_eq_true rfl⟩ dX3_init_44 rfl (fun b5 => ?_)
  show V X 5 216 46 [(0, vP a)] [vP b5, vP a] [[(a, cO 2 [vP b1, vI 0, vP b2, vP b3, vP b4, vN, vI 0, vI 0, vI 0])], [(b1, cA 120 z0)], [(b2, cA 24 z0)], [(b3, cL 24 z0)], [(b4, cA 24 z0)], [(b5, cA 24 z0)]]
  refine i_putFP (i := 0) (j := 0) (f := 5) (q := 49) (cs' := [[(a, cO 2 [vP b1, vI 0, vP b2, vP b3, vP b4, vP b5, vI 0, vI 0, vI 0])], [(b1, cA 120 z0)], [(b2, cA 24 z0)], [(b3, cL 24 z0)], [(b4, cA 24 z0)], [(b5, cA 24 z0)]]) hNm C rfl rfl rfl hi_X3_init_X3 tyX3 tyX3_ok nmX3 (by decide) (Nat.le_of_ble_eq_true rfl) lk_X3_init_29 rfl rfl (Or.inr ⟨_, rfl⟩) dX3_init_46 rfl rfl ?_
  refine i_aload_n (j := 0) (q := 50) C rfl rfl dX3_init_49 rfl ?_
  refine i_iconst (q := 51) C dX3_init_50 rfl ?_
  refine i_putI (i := 0) (j := 0) (f := 6) (q := 54) (cs' := [[(a, cO 2 [vP b1, vI 0, vP b2, vP b3, vP b4, vP b5, vI 0, vI 0, vI 0])], [(b1, cA 120 z0)], [(b2, cA 24 z0)], [(b3, cL 24 z0)], [(b4, cA 24 z0)], [(b5, cA 24 z0)]]) C rfl rfl rfl hi_X3_init_X3 tyX3 tyX3_ok nmX3 (by decide) (Nat.le_of_ble_eq_true rfl) lk_X3_init_32 rfl rfl dX3_init_51 rfl rfl ?_
  refine i_aload_n (j := 0) (q := 55) C rfl rfl dX3_init_54 rfl ?_
  refine i_iconst (q := 56) C dX3_init_55 rfl ?_
  refine i_putI (i := 0) (j := 0) (f := 7) (q := 59) (cs' := [[(a, cO 2 [vP b1, vI 0, vP b2, vP b3, vP b4, vP b5, vI 0, vI 0, vI 0])], [(b1, cA 120 z0)], [(b2, cA 24 z0)], [(b3, cL 24 z0)], [(b4, cA 24 z0)], [(b5, cA 24 z0)]]) C rfl rfl rfl hi_X3_init_X3 tyX3 tyX3_ok nmX3 (by decide) (Nat.le_of_ble_eq_true rfl) lk_X3_init_35 rfl rfl dX3_init_56 rfl rfl ?_
  refine i_aload_n (j := 0) (q := 60) C rfl rfl dX3_init_59 rfl ?_
  refine i_iconst (q := 61) C dX3_init_60 rfl ?_
  refine i_putI (i := 0) (j := 0) (f := 8) (q := 64) (cs' := [[(a, cO 2 [vP b1, vI 0, vP b2, vP b3, vP b4, vP b5, vI 0, vI 0, vI ((-1))])], [(b1, cA 120 z0)], [(b2, cA 24 z0)], [(b3, cL 24 z0)], [(b4, cA 24 z0)], [(b5, cA 24 z0)]]) C rfl rfl rfl hi_X3_init_X3 tyX3 tyX3_ok nmX3 (by decide) (Nat.le_of_ble_eq_true rfl) lk_X3_init_38 rfl rfl dX3_init_61 rfl rfl ?_
  refine V.permF (cs' := [odW (fun k => ([a, b1, b2, b3, b4, b5] : List Nat).getD k 0) (z0, z0, z0, z0, z0, 0, 0, 0, -1)]) (List.Perm.of_eq rfl) ?_
  refine i_vret C hR dX3_init_64 ?_
  exact ⟨_, rfl, rfl, rfl⟩

theorem lk_X4_init_11 : Cond.fieldLink RX4 11 (TX4 0).1 (TX4 0).2.1 (TX4 0).2.2.1 ∈ wsX4_init := List.mem_of_getElem? (i := 5) rfl
theorem hi_X4_init_X4 : ∀ w ∈ u_ws RX4 TX4 3, w ∈ wsX4_init := by decide +kernel
theorem lk_X4_init_17 : Cond.fieldLink RX4 17 (TX4 1).1 (TX4 1).2.1 (TX4 1).2.2.1 ∈ wsX4_init := List.mem_of_getElem? (i := 6) rfl
theorem lk_X4_init_21 : Cond.fieldLink RX4 21 (TX4 2).1 (TX4 2).2.1 (TX4 2).2.2.1 ∈ wsX4_init := List.mem_of_getElem? (i := 7) rfl
theorem hi_X4_init_X0 : ∀ w ∈ u_ws RX0 TX0 10, w ∈ wsX4_init := by decide +kernel
theorem hd_X0_init : yX0_init.name = "<init>" ∧ yX0_init.cls ≠ "java/lang/invoke/MethodHandle" ∧ yX0_init.cls ≠ "java/lang/invoke/VarHandle" ∧ (parseMethodDescriptor yX0_init.desc).map (fun d => d.parameters.length) = some 0 := by decide +kernel
set_option maxHeartbeats 1000000 in
set_option maxRecDepth 100000 in
theorem c_X4_init (K : KT) (l : Launch) (a : Nat) : Mt K l yX4_init wsX4_init ({ frames := 2, cells := 85, slots := 3012, locals := 32 }) [vP a] [[(a, cO 3 [vN, vI 0, vI 0])]] 85 3012 (fun v w => ∃ ap : Nat → Nat, ∃ ak : Int → Nat → Nat, v = none ∧ ap 0 = a ∧ w = [paW ap ak (0, 0), kbW ak (fun _ => B0)]) := by
  refine Mt.of (own := RX4) (cc := cX4_init) (maxL := 2) (ret := none) (lv0 := [(0, vP a)]) (by decide) rfl rfl (Nat.le_of_ble_eq_true rfl) rfl (fun X C hR hNm => ?_)
  refine i_aload_n (j := 0) (q := 1) C rfl rfl dX4_init_0 rfl ?_
  refine i_objInit (q := 4) C (List.mem_of_getElem? (i := 1) rfl) (List.mem_of_getElem? (i := 2) rfl) (List.mem_of_getElem? (i := 3) rfl) rfl ⟨Nat.le_of_ble_eq_true rfl, Nat.le_of_ble_eq_true rfl⟩ dX4_init_1 rfl ?_
  refine i_aload_n (j := 0) (q := 5) C rfl rfl dX4_init_4 rfl ?_
  refine i_bipush (q := 7) C (by decide) dX4_init_5 rfl ?_
  refine i_newB (N := 12) (q := 10) C (List.mem_of_getElem? (i := 4) rfl) (by decide) (by decide) ⟨Nat.le_of_ble_eq_true rfl, Nat.le_of_ble_eq_true rfl⟩ dX4_init_7 rfl (fun b1 => ?_)
  show V X 1 12 10 [(0, vP a)] [vP b1, vP a] [[(a, cO 3 [vN, vI 0, vI 0])], [(b1, cR 12 (fun _ => none))]]
  refine i_putFP (i := 0) (j := 0) (f := 0) (q := 13) (cs' := [[(a, cO 3 [vP b1, vI 0, vI 0])], [(b1, cR 12 (fun _ => none))]]) hNm C rfl rfl rfl hi_X4_init_X4 tyX4 tyX4_ok nmX4 (by decide) (Nat.le_of_ble_eq_true rfl) lk_X4_init_11 rfl rfl (Or.inr ⟨_, rfl⟩) dX4_init_10 rfl rfl ?_
  refine i_aload_n (j := 0) (q := 14) C rfl rfl dX4_init_13 rfl ?_
  refine i_iconst (q := 15) C dX4_init_14 rfl ?_
  refine i_putI (i := 0) (j := 0) (f := 1) (q := 18) (cs' := [[(a, cO 3 [vP b1, vI 0, vI 0])], [(b1, cR 12 (fun _ => none))]]) C rfl rfl rfl hi_X4_init_X4 tyX4 tyX4_ok nmX4 (by decide) (Nat.le_of_ble_eq_true rfl) lk_X4_init_17 rfl rfl dX4_init_15 rfl rfl ?_
  refine i_aload_n (j := 0) (q := 19) C rfl rfl dX4_init_18 rfl ?_
  refine i_iconst (q := 20) C dX4_init_19 rfl ?_
  refine i_putI (i := 0) (j := 0) (f := 2) (q := 23) (cs' := [[(a, cO 3 [vP b1, vI 0, vI 0])], [(b1, cR 12 (fun _ => none))]]) C rfl rfl rfl hi_X4_init_X4 tyX4 tyX4_ok nmX4 (by decide) (Nat.le_of_ble_eq_true rfl) lk_X4_init_21 rfl rfl dX4_init_20 rfl rfl ?_
  refine i_iconst (q := 24) C dX4_init_23 rfl ?_
  refine i_istore_n (q := 25) (lv' := [(1, vI 0), (0, vP a)]) C rfl (by decide) rfl dX4_init_24 rfl ?_
  refine i_iload_n (j := 0) (q := 26) C rfl rfl dX4_init_25 rfl ?_
  refine i_bipush (q := 28) C (by decide) dX4_init_26 rfl ?_
  refine i_icmp_ge (tgt := 50) (q := 31) C (by decide) (by decide) dX4_init_28 (by decide) rfl (fun c_28 => absurd c_28 (by decide)) (fun c_28 => ?_)
  refine i_aload_n (j := 1) (q := 32) C rfl rfl dX4_init_31 rfl ?_
  refine i_get (i := 0) (j := 0) (f := 0) (q := 35) C rfl rfl rfl hi_X4_init_X4 (by decide) lk_X4_init_11 rfl dX4_init_32 rfl ?_
  refine i_iload_n (j := 0) (q := 36) C rfl rfl dX4_init_35 rfl ?_
  refine i_new (ci := 0) (fs := [vN, vN, vN, vN, vN, vN, vI 0, vI 0, vI 0, vI 0]) (q := 39) C rfl hi_X4_init_X0 tyX0 tyX0_ok (List.mem_of_getElem? (i := 4) rfl) (List.mem_of_getElem? (i := 8) rfl) (List.mem_of_getElem? (i := 9) rfl) df_X0 ⟨Nat.le_of_ble_eq_true rfl, Nat.le_of_ble_eq_true rfl⟩ dX4_init_36 rfl (fun c2 => ?_)
  show V X 2 22 39 [(1, vI 0), (0, vP a)] [vP c2, vI 0, vP b1] [[(a, cO 3 [vP b1, vI 0, vI 0])], [(b1, cR 12 (fun _ => none))], [(c2, cO 0 [vN, vN, vN, vN, vN, vN, vI 0, vI 0, vI 0, vI 0])]]
  refine i_dup (q := 40) C rfl dX4_init_39 rfl ?_
  refine i_callIN (host := RX7) (wr := [[(a, cO 3 [vP b1, vI 0, vI 0])], [(b1, cR 12 (fun _ => none))]]) (As := []) (st := [vP c2, vI 0, vP b1]) (q := 43) C (c_X0_init K l c2) gX4_init_X0_init_n24 rfl (by decide) (List.mem_of_getElem? (i := 10) rfl) (List.mem_of_getElem? (i := 9) rfl) hd_X0_init ⟨Nat.le_of_ble_eq_true rfl, Nat.le_of_ble_eq_true rfl⟩ ⟨rfl, rfl⟩ ⟨Nat.le_of_ble_eq_true rfl, Nat.le_of_ble_eq_true rfl⟩ (permBy [2, 0, 1] (by decide) rfl rfl) rfl (Nat.le_of_ble_eq_true rfl) dX4_init_40 rfl (fun v w hq => ?_)
  obtain ⟨q3, rfl, rfl, rfl⟩ := hq
  show V X 8 262 43 [(1, vI 0), (0, vP a)] [vP (q3 0), vI 0, vP b1] [bkW q3 (z0, z0, z0, z0, z0, z0, 0, 0, 0, 100), [(a, cO 3 [vP b1, vI 0, vI 0])], [(b1, cR 12 (fun _ => none))]]
  refine V.perm (cs' := [[(a, cO 3 [vP b1, vI 0, vI 0])], [(b1, cR 12 (fun _ => none))], bkW q3 (z0, z0, z0, z0, z0, z0, 0, 0, 0, 100)]) (permBy [1, 2, 0] (by decide) rfl rfl) ?_
  refine i_aast (i := 1) (j := 0) (i2 := 2) (j2 := 0) (q := 44) (cs' := [[(a, cO 3 [vP b1, vI 0, vI 0])], [(b1, cR 12 (up (fun _ => none) 0 (some (q3 0))))], bkW q3 (z0, z0, z0, z0, z0, z0, 0, 0, 0, 100)]) C rfl rfl rfl rfl (by decide) dX4_init_43 rfl rfl ?_
  refine i_iinc (j := 0) (q := 47) (lv' := [(1, vI 1), (0, vP a)]) C rfl (by decide) rfl dX4_init_44 rfl ?_
  refine i_goto (q := 25) C dX4_init_47 (by decide) ?_
  refine i_iload_n (j := 0) (q := 26) C rfl rfl dX4_init_25 rfl ?_
  refine i_bipush (q := 28) C (by decide) dX4_init_26 rfl ?_
  refine i_icmp_ge (tgt := 50) (q := 31) C (by decide) (by decide) dX4_init_28 (by decide) rfl (fun c_28 => absurd c_28 (by decide)) (fun c_28 => ?_)
  refine i_aload_n (j := 1) (q := 32) C rfl rfl dX4_init_31 rfl ?_
  refine i_get (i := 0) (j := 0) (f := 0) (q := 35) C rfl rfl rfl hi_X4_init_X4 (by decide) lk_X4_init_11 rfl dX4_init_32 rfl ?_
  refine i_iload_n (j := 0) (q := 36) C rfl rfl dX4_init_35 rfl ?_
  refine i_new (ci := 0) (fs := [vN, vN, vN, vN, vN, vN, vI 0, vI 0, vI 0, vI 0]) (q := 39) C rfl hi_X4_init_X0 tyX0 tyX0_ok (List.mem_of_getElem? (i := 4) rfl) (List.mem_of_getElem? (i := 8) rfl) (List.mem_of_getElem? (i := 9) rfl) df_X0 ⟨Nat.le_of_ble_eq_true rfl, Nat.le_of_ble_eq_true rfl⟩ dX4_init_36 rfl (fun c4 => ?_)
  show V X 9 272 39 [(1, vI 1), (0, vP a)] [vP c4, vI 1, vP b1] [[(a, cO 3 [vP b1, vI 0, vI 0])], [(b1, cR 12 (up (fun _ => none) 0 (some (q3 0))))], bkW q3 (z0, z0, z0, z0, z0, z0, 0, 0, 0, 100), [(c4, cO 0 [vN, vN, vN, vN, vN, vN, vI 0, vI 0, vI 0, vI 0])]]
  refine i_dup (q := 40) C rfl dX4_init_39 rfl ?_
  refine i_callIN (host := RX7) (wr := [[(a, cO 3 [vP b1, vI 0, vI 0])], [(b1, cR 12 (up (fun _ => none) 0 (some (q3 0))))], bkW q3 (z0, z0, z0, z0, z0, z0, 0, 0, 0, 100)]) (As := []) (st := [vP c4, vI 1, vP b1]) (q := 43) C (c_X0_init K l c4) gX4_init_X0_init_n24 rfl (by decide) (List.mem_of_getElem? (i := 10) rfl) (List.mem_of_getElem? (i := 9) rfl) hd_X0_init ⟨Nat.le_of_ble_eq_true rfl, Nat.le_of_ble_eq_true rfl⟩ ⟨rfl, rfl⟩ ⟨Nat.le_of_ble_eq_true rfl, Nat.le_of_ble_eq_true rfl⟩ (permBy [3, 0, 1, 2] (by decide) rfl rfl) rfl (Nat.le_of_ble_eq_true rfl) dX4_init_40 rfl (fun v w hq => ?_)
  obtain ⟨q5, rfl, rfl, rfl⟩ := hq
  show V X 15 512 43 [(1, vI 1), (0, vP a)] [vP (q5 0), vI 1, vP b1] [bkW q5 (z0, z0, z0, z0, z0, z0, 0, 0, 0, 100), [(a, cO 3 [vP b1, vI 0, vI 0])], [(b1, cR 12 (up (fun _ => none) 0 (some (q3 0))))], bkW q3 (z0, z0, z0, z0, z0, z0, 0, 0, 0, 100)]
  refine V.perm (cs' := [[(a, cO 3 [vP b1, vI 0, vI 0])], [(b1, cR 12 (up (fun _ => none) 0 (some (q3 0))))], bkW q3 (z0, z0, z0, z0, z0, z0, 0, 0, 0, 100), bkW q5 (z0, z0, z0, z0, z0, z0, 0, 0, 0, 100)]) (permBy [1, 2, 3, 0] (by decide) rfl rfl) ?_
  refine i_aast (i := 1) (j := 0) (i2 := 3) (j2 := 0) (q := 44) (cs' := [[(a, cO 3 [vP b1, vI 0, vI 0])], [(b1, cR 12 (up (up (fun _ => none) 0 (some (q3 0))) 1 (some (q5 0))))], bkW q3 (z0, z0, z0, z0, z0, z0, 0, 0, 0, 100), bkW q5 (z0, z0, z0, z0, z0, z0, 0, 0, 0, 100)]) C rfl rfl rfl rfl (by decide) dX4_init_43 rfl rfl ?_
  refine i_iinc (j := 0) (q := 47) (lv' := [(1, vI 2), (0, vP a)]) C rfl (by decide) rfl dX4_init_44 rfl ?_
  refine i_goto (q := 25) C dX4_init_47 (by decide) ?_
  refine i_iload_n (j := 0) (q := 26) C rfl rfl dX4_init_25 rfl ?_
  refine i_bipush (q := 28) C (by decide) dX4_init_26 rfl ?_
  refine i_icmp_ge (tgt := 50) (q := 31) C (by decide) (by decide) dX4_init_28 (by decide) rfl (fun c_28 => absurd c_28 (by decide)) (fun c_28 => ?_)
  refine i_aload_n (j := 1) (q := 32) C rfl rfl dX4_init_31 rfl ?_
  refine i_get (i := 0) (j := 0) (f := 0) (q := 35) C rfl rfl rfl hi_X4_init_X4 (by decide) lk_X4_init_11 rfl dX4_init_32 rfl ?_
  refine i_iload_n (j := 0) (q := 36) C rfl rfl dX4_init_35 rfl ?_
  refine i_new (ci := 0) (fs := [vN, vN, vN, vN, vN, vN, vI 0, vI 0, vI 0, vI 0]) (q := 39) C rfl hi_X4_init_X0 tyX0 tyX0_ok (List.mem_of_getElem? (i := 4) rfl) (List.mem_of_getElem? (i := 8) rfl) (List.mem_of_getElem? (i := 9) rfl) df_X0 ⟨Nat.le_of_ble_eq_true rfl, Nat.le_of_ble_eq_true rfl⟩ dX4_init_36 rfl (fun c6 => ?_)
  show V X 16 522 39 [(1, vI 2), (0, vP a)] [vP c6, vI 2, vP b1] [[(a, cO 3 [vP b1, vI 0, vI 0])], [(b1, cR 12 (up (up (fun _ => none) 0 (some (q3 0))) 1 (some (q5 0))))], bkW q3 (z0, z0, z0, z0, z0, z0, 0, 0, 0, 100), bkW q5 (z0, z0, z0, z0, z0, z0, 0, 0, 0, 100), [(c6, cO 0 [vN, vN, vN, vN, vN, vN, vI 0, vI 0, vI 0, vI 0])]]
  refine i_dup (q := 40) C rfl dX4_init_39 rfl ?_
  refine i_callIN (host := RX7) (wr := [[(a, cO 3 [vP b1, vI 0, vI 0])], [(b1, cR 12 (up (up (fun _ => none) 0 (some (q3 0))) 1 (some (q5 0))))], bkW q3 (z0, z0, z0, z0, z0, z0, 0, 0, 0, 100), bkW q5 (z0, z0, z0, z0, z0, z0, 0, 0, 0, 100)]) (As := []) (st := [vP c6, vI 2, vP b1]) (q := 43) C (c_X0_init K l c6) gX4_init_X0_init_n24 rfl (by decide) (List.mem_of_getElem? (i := 10) rfl) (List.mem_of_getElem? (i := 9) rfl) hd_X0_init ⟨Nat.le_of_ble_eq_true rfl, Nat.le_of_ble_eq_true rfl⟩ ⟨rfl, rfl⟩ ⟨Nat.le_of_ble_eq_true rfl, Nat.le_of_ble_eq_true rfl⟩ (permBy [4, 0, 1, 2, 3] (by decide) rfl rfl) rfl (Nat.le_of_ble_eq_true rfl) dX4_init_40 rfl (fun v w hq => ?_)
  obtain ⟨q7, rfl, rfl, rfl⟩ := hq
  show V X 22 762 43 [(1, vI 2), (0, vP a)] [vP (q7 0), vI 2, vP b1] [bkW q7 (z0, z0, z0, z0, z0, z0, 0, 0, 0, 100), [(a, cO 3 [vP b1, vI 0, vI 0])], [(b1, cR 12 (up (up (fun _ => none) 0 (some (q3 0))) 1 (some (q5 0))))], bkW q3 (z0, z0, z0, z0, z0, z0, 0, 0, 0, 100), bkW q5 (z0, z0, z0, z0, z0, z0, 0, 0, 0, 100)]
  refine V.perm (cs' := [[(a, cO 3 [vP b1, vI 0, vI 0])], [(b1, cR 12 (up (up (fun _ => none) 0 (some (q3 0))) 1 (some (q5 0))))], bkW q3 (z0, z0, z0, z0, z0, z0, 0, 0, 0, 100), bkW q5 (z0, z0, z0, z0, z0, z0, 0, 0, 0, 100), bkW q7 (z0, z0, z0, z0, z0, z0, 0, 0, 0, 100)]) (permBy [1, 2, 3, 4, 0] (by decide) rfl rfl) ?_
  refine i_aast (i := 1) (j := 0) (i2 := 4) (j2 := 0) (q := 44) (cs' := [[(a, cO 3 [vP b1, vI 0, vI 0])], [(b1, cR 12 (up (up (up (fun _ => none) 0 (some (q3 0))) 1 (some (q5 0))) 2 (some (q7 0))))], bkW q3 (z0, z0, z0, z0, z0, z0, 0, 0, 0, 100), bkW q5 (z0, z0, z0, z0, z0, z0, 0, 0, 0, 100), bkW q7 (z0, z0, z0, z0, z0, z0, 0, 0, 0, 100)]) C rfl rfl rfl rfl (by decide) dX4_init_43 rfl rfl ?_
  refine i_iinc (j := 0) (q := 47) (lv' := [(1, vI 3), (0, vP a)]) C rfl (by decide) rfl dX4_init_44 rfl ?_
  refine i_goto (q := 25) C dX4_init_47 (by decide) ?_
  refine i_iload_n (j := 0) (q := 26) C rfl rfl dX4_init_25 rfl ?_
  refine i_bipush (q := 28) C (by decide) dX4_init_26 rfl ?_
  refine i_icmp_ge (tgt := 50) (q := 31) C (by decide) (by decide) dX4_init_28 (by decide) rfl (fun c_28 => absurd c_28 (by decide)) (fun c_28 => ?_)
  refine i_aload_n (j := 1) (q := 32) C rfl rfl dX4_init_31 rfl ?_
  refine i_get (i := 0) (j := 0) (f := 0) (q := 35) C rfl rfl rfl hi_X4_init_X4 (by decide) lk_X4_init_11 rfl dX4_init_32 rfl ?_
  refine i_iload_n (j := 0) (q := 36) C rfl rfl dX4_init_35 rfl ?_
  refine i_new (ci := 0) (fs := [vN, vN, vN, vN, vN, vN, vI 0, vI 0, vI 0, vI 0]) (q := 39) C rfl hi_X4_init_X0 tyX0 tyX0_ok (List.mem_of_getElem? (i := 4) rfl) (List.mem_of_getElem? (i := 8) rfl) (List.mem_of_getElem? (i := 9) rfl) df_X0 ⟨Nat.le_of_ble_eq_true rfl, Nat.le_of_ble_eq_true rfl⟩ dX4_init_36 rfl (fun c8 => ?_)
  show V X 23 772 39 [(1, vI 3), (0, vP a)] [vP c8, vI 3, vP b1] [[(a, cO 3 [vP b1, vI 0, vI 0])], [(b1, cR 12 (up (up (up (fun _ => none) 0 (some (q3 0))) 1 (some (q5 0))) 2 (some (q7 0))))], bkW q3 (z0, z0, z0, z0, z0, z0, 0, 0, 0, 100), bkW q5 (z0, z0, z0, z0, z0, z0, 0, 0, 0, 100), bkW q7 (z0, z0, z0, z0, z0, z0, 0, 0, 0, 100), [(c8, cO 0 [vN, vN, vN, vN, vN, vN, vI 0, vI 0, vI 0, vI 0])]]
  refine i_dup (q := 40) C rfl dX4_init_39 rfl ?_
  refine i_callIN (host := RX7) (wr := [[(a, cO 3 [vP b1, vI 0, vI 0])], [(b1, cR 12 (up (up (up (fun _ => none) 0 (some (q3 0))) 1 (some (q5 0))) 2 (some (q7 0))))], bkW q3 (z0, z0, z0, z0, z0, z0, 0, 0, 0, 100), bkW q5 (z0, z0, z0, z0, z0, z0, 0, 0, 0, 100), bkW q7 (z0, z0, z0, z0, z0, z0, 0, 0, 0, 100)]) (As := []) (st := [vP c8, vI 3, vP b1]) (q := 43) C (c_X0_init K l c8) gX4_init_X0_init_n24 rfl (by decide) (List.mem_of_getElem? (i := 10) rfl) (List.mem_of_getElem? (i := 9) rfl) hd_X0_init ⟨Nat.le_of_ble_eq_true rfl, Nat.le_of_ble_eq_true rfl⟩ ⟨rfl, rfl⟩ ⟨Nat.le_of_ble_eq_true rfl, Nat.le_of_ble_eq_true rfl⟩ (permBy [5, 0, 1, 2, 3, 4] (by decide) rfl rfl) rfl (Nat.le_of_ble_eq_true rfl) dX4_init_40 rfl (fun v w hq => ?_)
  obtain ⟨q9, rfl, rfl, rfl⟩ := hq
  show V X 29 1012 43 [(1, vI 3), (0, vP a)] [vP (q9 0), vI 3, vP b1] [bkW q9 (z0, z0, z0, z0, z0, z0, 0, 0, 0, 100), [(a, cO 3 [vP b1, vI 0, vI 0])], [(b1, cR 12 (up (up (up (fun _ => none) 0 (some (q3 0))) 1 (some (q5 0))) 2 (some (q7 0))))], bkW q3 (z0, z0, z0, z0, z0, z0, 0, 0, 0, 100), bkW q5 (z0, z0, z0, z0, z0, z0, 0, 0, 0, 100), bkW q7 (z0, z0, z0, z0, z0, z0, 0, 0, 0, 100)]
  refine V.perm (cs' := [[(a, cO 3 [vP b1, vI 0, vI 0])], [(b1, cR 12 (up (up (up (fun _ => none) 0 (some (q3 0))) 1 (some (q5 0))) 2 (some (q7 0))))], bkW q3 (z0, z0, z0, z0, z0, z0, 0, 0, 0, 100), bkW q5 (z0, z0, z0, z0, z0, z0, 0, 0, 0, 100), bkW q7 (z0, z0, z0, z0, z0, z0, 0, 0, 0, 100), bkW q9 (z0, z0, z0, z0, z0, z0, 0, 0, 0, 100)]) (permBy [1, 2, 3, 4, 5, 0] (by decide) rfl rfl) ?_
  refine i_aast (i := 1) (j := 0) (i2 := 5) (j2 := 0) (q := 44) (cs' := [[(a, cO 3 [vP b1, vI 0, vI 0])], [(b1, cR 12 (up (up (up (up (fun _ => none) 0 (some (q3 0))) 1 (some (q5 0))) 2 (some (q7 0))) 3 (some (q9 0))))], bkW q3 (z0, z0, z0, z0, z0, z0, 0, 0, 0, 100), bkW q5 (z0, z0, z0, z0, z0, z0, 0, 0, 0, 100), bkW q7 (z0, z0, z0, z0, z0, z0, 0, 0, 0, 100), bkW q9 (z0, z0, z0, z0, z0, z0, 0, 0, 0, 100)]) C rfl rfl rfl rfl (by decide) dX4_init_43 rfl rfl ?_
  refine i_iinc (j := 0) (q := 47) (lv' := [(1, vI 4), (0, vP a)]) C rfl (by decide) rfl dX4_init_44 rfl ?_
  refine i_goto (q := 25) C dX4_init_47 (by decide) ?_
  refine i_iload_n (j := 0) (q := 26) C rfl rfl dX4_init_25 rfl ?_
  refine i_bipush (q := 28) C (by decide) dX4_init_26 rfl ?_
  refine i_icmp_ge (tgt := 50) (q := 31) C (by decide) (by decide) dX4_init_28 (by decide) rfl (fun c_28 => absurd c_28 (by decide)) (fun c_28 => ?_)
  refine i_aload_n (j := 1) (q := 32) C rfl rfl dX4_init_31 rfl ?_
  refine i_get (i := 0) (j := 0) (f := 0) (q := 35) C rfl rfl rfl hi_X4_init_X4 (by decide) lk_X4_init_11 rfl dX4_init_32 rfl ?_
  refine i_iload_n (j := 0) (q := 36) C rfl rfl dX4_init_35 rfl ?_
  refine i_new (ci := 0) (fs := [vN, vN, vN, vN, vN, vN, vI 0, vI 0, vI 0, vI 0]) (q := 39) C rfl hi_X4_init_X0 tyX0 tyX0_ok (List.mem_of_getElem? (i := 4) rfl) (List.mem_of_getElem? (i := 8) rfl) (List.mem_of_getElem? (i := 9) rfl) df_X0 ⟨Nat.le_of_ble_eq_true rfl, Nat.le_of_ble_eq_true rfl⟩ dX4_init_36 rfl (fun c10 => ?_)
  show V X 30 1022 39 [(1, vI 4), (0, vP a)] [vP c10, vI 4, vP b1] [[(a, cO 3 [vP b1, vI 0, vI 0])], [(b1, cR 12 (up (up (up (up (fun _ => none) 0 (some (q3 0))) 1 (some (q5 0))) 2 (some (q7 0))) 3 (some (q9 0))))], bkW q3 (z0, z0, z0, z0, z0, z0, 0, 0, 0, 100), bkW q5 (z0, z0, z0, z0, z0, z0, 0, 0, 0, 100), bkW q7 (z0, z0, z0, z0, z0, z0, 0, 0, 0, 100), bkW q9 (z0, z0, z0, z0, z0, z0, 0, 0, 0, 100), [(c10, cO 0 [vN, vN, vN, vN, vN, vN, vI 0, vI 0, vI 0, vI 0])]]
  refine i_dup (q := 40) C rfl dX4_init_39 rfl ?_
  refine i_callIN (host := RX7) (wr := [[(a, cO 3 [vP b1, vI 0, vI 0])], [(b1, cR 12 (up (up (up (up (fun _ => none) 0 (some (q3 0))) 1 (some (q5 0))) 2 (some (q7 0))) 3 (some (q9 0))))], bkW q3 (z0, z0, z0, z0, z0, z0, 0, 0, 0, 100), bkW q5 (z0, z0, z0, z0, z0, z0, 0, 0, 0, 100), bkW q7 (z0, z0, z0, z0, z0, z0, 0, 0, 0, 100), bkW q9 (z0, z0, z0, z0, z0, z0, 0, 0, 0, 100)]) (As := []) (st := [vP c10, vI 4, vP b1]) (q := 43) C (c_X0_init K l c10) gX4_init_X0_init_n24 rfl (by decide) (List.mem_of_getElem? (i := 10) rfl) (List.mem_of_getElem? (i := 9) rfl) hd_X0_init ⟨Nat.le_of_ble_eq_true rfl, Nat.le_of_ble_eq_true rfl⟩ ⟨rfl, rfl⟩ ⟨Nat.le_of_ble_eq_true rfl, Nat.le_of_ble_eq_true rfl⟩ (permBy [6, 0, 1, 2, 3, 4, 5] (by decide) rfl rfl) rfl (Nat.le_of_ble_eq_true rfl) dX4_init_40 rfl (fun v w hq => ?_)
  obtain ⟨q11, rfl, rfl, rfl⟩ := hq
  show V X 36 1262 43 [(1, vI 4), (0, vP a)] [vP (q11 0), vI 4, vP b1] [bkW q11 (z0, z0, z0, z0, z0, z0, 0, 0, 0, 100), [(a, cO 3 [vP b1, vI 0, vI 0])], [(b1, cR 12 (up (up (up (up (fun _ => none) 0 (some (q3 0))) 1 (some (q5 0))) 2 (some (q7 0))) 3 (some (q9 0))))], bkW q3 (z0, z0, z0, z0, z0, z0, 0, 0, 0, 100), bkW q5 (z0, z0, z0, z0, z0, z0, 0, 0, 0, 100), bkW q7 (z0, z0, z0, z0, z0, z0, 0, 0, 0, 100), bkW q9 (z0, z0, z0, z0, z0, z0, 0, 0, 0, 100)]
  refine V.perm (cs' := [[(a, cO 3 [vP b1, vI 0, vI 0])], [(b1, cR 12 (up (up (up (up (fun _ => none) 0 (some (q3 0))) 1 (some (q5 0))) 2 (some (q7 0))) 3 (some (q9 0))))], bkW q3 (z0, z0, z0, z0, z0, z0, 0, 0, 0, 100), bkW q5 (z0, z0, z0, z0, z0, z0, 0, 0, 0, 100), bkW q7 (z0, z0, z0, z0, z0, z0, 0, 0, 0, 100), bkW q9 (z0, z0, z0, z0, z0, z0, 0, 0, 0, 100), bkW q11 (z0, z0, z0, z0, z0, z0, 0, 0, 0, 100)]) (permBy [1, 2, 3, 4, 5, 6, 0] (by decide) rfl rfl) ?_
  refine i_aast (i := 1) (j := 0) (i2 := 6) (j2 := 0) (q := 44) (cs' := [[(a, cO 3 [vP b1, vI 0, vI 0])], [(b1, cR 12 (up (up (up (up (up (fun _ => none) 0 (some (q3 0))) 1 (some (q5 0))) 2 (some (q7 0))) 3 (some (q9 0))) 4 (some (q11 0))))], bkW q3 (z0, z0, z0, z0, z0, z0, 0, 0, 0, 100), bkW q5 (z0, z0, z0, z0, z0, z0, 0, 0, 0, 100), bkW q7 (z0, z0, z0, z0, z0, z0, 0, 0, 0, 100), bkW q9 (z0, z0, z0, z0, z0, z0, 0, 0, 0, 100), bkW q11 (z0, z0, z0, z0, z0, z0, 0, 0, 0, 100)]) C rfl rfl rfl rfl (by decide) dX4_init_43 rfl rfl ?_
  refine i_iinc (j := 0) (q := 47) (lv' := [(1, vI 5), (0, vP a)]) C rfl (by decide) rfl dX4_init_44 rfl ?_
  refine i_goto (q := 25) C dX4_init_47 (by decide) ?_
  refine i_iload_n (j := 0) (q := 26) C rfl rfl dX4_init_25 rfl ?_
  refine i_bipush (q := 28) C (by decide) dX4_init_26 rfl ?_
  refine i_icmp_ge (tgt := 50) (q := 31) C (by decide) (by decide) dX4_init_28 (by decide) rfl (fun c_28 => absurd c_28 (by decide)) (fun c_28 => ?_)
  refine i_aload_n (j := 1) (q := 32) C rfl rfl dX4_init_31 rfl ?_
  refine i_get (i := 0) (j := 0) (f := 0) (q := 35) C rfl rfl rfl hi_X4_init_X4 (by decide) lk_X4_init_11 rfl dX4_init_32 rfl ?_
  refine i_iload_n (j := 0) (q := 36) C rfl rfl dX4_init_35 rfl ?_
  refine i_new (ci := 0) (fs := [vN, vN, vN, vN, vN, vN, vI 0, vI 0, vI 0, vI 0]) (q := 39) C rfl hi_X4_init_X0 tyX0 tyX0_ok (List.mem_of_getElem? (i := 4) rfl) (List.mem_of_getElem? (i := 8) rfl) (List.mem_of_getElem? (i := 9) rfl) df_X0 ⟨Nat.le_of_ble_eq_true rfl, Nat.le_of_ble_eq_true rfl⟩ dX4_init_36 rfl (fun c12 => ?_)
  show V X 37 1272 39 [(1, vI 5), (0, vP a)] [vP c12, vI 5, vP b1] [[(a, cO 3 [vP b1, vI 0, vI 0])], [(b1, cR 12 (up (up (up (up (up (fun _ => none) 0 (some (q3 0))) 1 (some (q5 0))) 2 (some (q7 0))) 3 (some (q9 0))) 4 (some (q11 0))))], bkW q3 (z0, z0, z0, z0, z0, z0, 0, 0, 0, 100), bkW q5 (z0, z0, z0, z0, z0, z0, 0, 0, 0, 100), bkW q7 (z0, z0, z0, z0, z0, z0, 0, 0, 0, 100), bkW q9 (z0, z0, z0, z0, z0, z0, 0, 0, 0, 100), bkW q11 (z0, z0, z0, z0, z0, z0, 0, 0, 0, 100), [(c12, cO 0 [vN, vN, vN, vN, vN, vN, vI 0, vI 0, vI 0, vI 0])]]
  refine i_dup (q := 40) C rfl dX4_init_39 rfl ?_
  refine i_callIN (host := RX7) (wr := [[(a, cO 3 [vP b1, vI 0, vI 0])], [(b1, cR 12 (up (up (up (up (up (fun _ => none) 0 (some (q3 0))) 1 (some (q5 0))) 2 (some (q7 0))) 3 (some (q9 0))) 4 (some (q11 0))))], bkW q3 (z0, z0, z0, z0, z0, z0, 0, 0, 0, 100), bkW q5 (z0, z0, z0, z0, z0, z0, 0, 0, 0, 100), bkW q7 (z0, z0, z0, z0, z0, z0, 0, 0, 0, 100), bkW q9 (z0, z0, z0, z0, z0, z0, 0, 0, 0, 100), bkW q11 (z0, z0, z0, z0, z0, z0, 0, 0, 0, 100)]) (As := []) (st := [vP c12, vI 5, vP b1]) (q := 43) C (c_X0_init K l c12) gX4_init_X0_init_n24 rfl (by decide) (List.mem_of_getElem? (i := 10) rfl) (List.mem_of_getElem? (i := 9) rfl) hd_X0_init ⟨Nat.le_of_ble_eq_true rfl, Nat.le_of_ble_eq_true rfl⟩ ⟨rfl, rfl⟩ ⟨Nat.le_of_ble_eq_true rfl, Nat.le_of_ble_eq_true rfl⟩ (permBy [7, 0, 1, 2, 3, 4, 5, 6] (by decide) rfl rfl) rfl (Nat.le_of_ble_eq_true rfl) dX4_init_40 rfl (fun v w hq => ?_)
  obtain ⟨q13, rfl, rfl, rfl⟩ := hq
  show V X 43 1512 43 [(1, vI 5), (0, vP a)] [vP (q13 0), vI 5, vP b1] [bkW q13 (z0, z0, z0, z0, z0, z0, 0, 0, 0, 100), [(a, cO 3 [vP b1, vI 0, vI 0])], [(b1, cR 12 (up (up (up (up (up (fun _ => none) 0 (some (q3 0))) 1 (some (q5 0))) 2 (some (q7 0))) 3 (some (q9 0))) 4 (some (q11 0))))], bkW q3 (z0, z0, z0, z0, z0, z0, 0, 0, 0, 100), bkW q5 (z0, z0, z0, z0, z0, z0, 0, 0, 0, 100), bkW q7 (z0, z0, z0, z0, z0, z0, 0, 0, 0, 100), bkW q9 (z0, z0, z0, z0, z0, z0, 0, 0, 0, 100), bkW q11 (z0, z0, z0, z0, z0, z0, 0, 0, 0, 100)]
  refine V.perm (cs' := [[(a, cO 3 [vP b1, vI 0, vI 0])], [(b1, cR 12 (up (up (up (up (up (fun _ => none) 0 (some (q3 0))) 1 (some (q5 0))) 2 (some (q7 0))) 3 (some (q9 0))) 4 (some (q11 0))))], bkW q3 (z0, z0, z0, z0, z0, z0, 0, 0, 0, 100), bkW q5 (z0, z0, z0, z0, z0, z0, 0, 0, 0, 100), bkW q7 (z0, z0, z0, z0, z0, z0, 0, 0, 0, 100), bkW q9 (z0, z0, z0, z0, z0, z0, 0, 0, 0, 100), bkW q11 (z0, z0, z0, z0, z0, z0, 0, 0, 0, 100), bkW q13 (z0, z0, z0, z0, z0, z0, 0, 0, 0, 100)]) (permBy [1, 2, 3, 4, 5, 6, 7, 0] (by decide) rfl rfl) ?_
  refine i_aast (i := 1) (j := 0) (i2 := 7) (j2 := 0) (q := 44) (cs' := [[(a, cO 3 [vP b1, vI 0, vI 0])], [(b1, cR 12 (up (up (up (up (up (up (fun _ => none) 0 (some (q3 0))) 1 (some (q5 0))) 2 (some (q7 0))) 3 (some (q9 0))) 4 (some (q11 0))) 5 (some (q13 0))))], bkW q3 (z0, z0, z0, z0, z0, z0, 0, 0, 0, 100), bkW q5 (z0, z0, z0, z0, z0, z0, 0, 0, 0, 100), bkW q7 (z0, z0, z0, z0, z0, z0, 0, 0, 0, 100), bkW q9 (z0, z0, z0, z0, z0, z0, 0, 0, 0, 100), bkW q11 (z0, z0, z0, z0, z0, z0, 0, 0, 0, 100), bkW q13 (z0, z0, z0, z0, z0, z0, 0, 0, 0, 100)]) C rfl rfl rfl rfl (by decide) dX4_init_43 rfl rfl ?_
  refine i_iinc (j := 0) (q := 47) (lv' := [(1, vI 6), (0, vP a)]) C rfl (by decide) rfl dX4_init_44 rfl ?_
  refine i_goto (q := 25) C dX4_init_47 (by decide) ?_
  refine i_iload_n (j := 0) (q := 26) C rfl rfl dX4_init_25 rfl ?_
  refine i_bipush (q := 28) C (by decide) dX4_init_26 rfl ?_
  refine i_icmp_ge (tgt := 50) (q := 31) C (by decide) (by decide) dX4_init_28 (by decide) rfl (fun c_28 => absurd c_28 (by decide)) (fun c_28 => ?_)
  refine i_aload_n (j := 1) (q := 32) C rfl rfl dX4_init_31 rfl ?_
  refine i_get (i := 0) (j := 0) (f := 0) (q := 35) C rfl rfl rfl hi_X4_init_X4 (by decide) lk_X4_init_11 rfl dX4_init_32 rfl ?_
  refine i_iload_n (j := 0) (q := 36) C rfl rfl dX4_init_35 rfl ?_
  refine i_new (ci := 0) (fs := [vN, vN, vN, vN, vN, vN, vI 0, vI 0, vI 0, vI 0]) (q := 39) C rfl hi_X4_init_X0 tyX0 tyX0_ok (List.mem_of_getElem? (i := 4) rfl) (List.mem_of_getElem? (i := 8) rfl) (List.mem_of_getElem? (i := 9) rfl) df_X0 ⟨Nat.le_of_ble_eq_true rfl, Nat.le_of_ble_eq_true rfl⟩ dX4_init_36 rfl (fun c14 => ?_)
  show V X 44 1522 39 [(1, vI 6), (0, vP a)] [vP c14, vI 6, vP b1] [[(a, cO 3 [vP b1, vI 0, vI 0])], [(b1, cR 12 (up (up (up (up (up (up (fun _ => none) 0 (some (q3 0))) 1 (some (q5 0))) 2 (some (q7 0))) 3 (some (q9 0))) 4 (some (q11 0))) 5 (some (q13 0))))], bkW q3 (z0, z0, z0, z0, z0, z0, 0, 0, 0, 100), bkW q5 (z0, z0, z0, z0, z0, z0, 0, 0, 0, 100), bkW q7 (z0, z0, z0, z0, z0, z0, 0, 0, 0, 100), bkW q9 (z0, z0, z0, z0, z0, z0, 0, 0, 0, 100), bkW q11 (z0, z0, z0, z0, z0, z0, 0, 0, 0, 100), bkW q13 (z0, z0, z0, z0, z0, z0, 0, 0, 0, 100), [(c14, cO 0 [vN, vN, vN, vN, vN, vN, vI 0, vI 0, vI 0, vI 0])]]
  refine i_dup (q := 40) C rfl dX4_init_39 rfl ?_
  refine i_callIN (host := RX7) (wr := [[(a, cO 3 [vP b1, vI 0, vI 0])], [(b1, cR 12 (up (up (up (up (up (up (fun _ => none) 0 (some (q3 0))) 1 (some (q5 0))) 2 (some (q7 0))) 3 (some (q9 0))) 4 (some (q11 0))) 5 (some (q13 0))))], bkW q3 (z0, z0, z0, z0, z0, z0, 0, 0, 0, 100), bkW q5 (z0, z0, z0, z0, z0, z0, 0, 0, 0, 100), bkW q7 (z0, z0, z0, z0, z0, z0, 0, 0, 0, 100), bkW q9 (z0, z0, z0, z0, z0, z0, 0, 0, 0, 100), bkW q11 (z0, z0, z0, z0, z0, z0, 0, 0, 0, 100), bkW q13 (z0, z0, z0, z0, z0, z0, 0, 0, 0, 100)]) (As := []) (st := [vP c14, vI 6, vP b1]) (q := 43) C (c_X0_init K l c14) gX4_init_X0_init_n24 rfl (by decide) (List.mem_of_getElem? (i := 10) rfl) (List.mem_of_getElem? (i := 9) rfl) hd_X0_init ⟨Nat.le_of_ble_eq_true rfl, Nat.le_of_ble_eq_true rfl⟩ ⟨rfl, rfl⟩ ⟨Nat.le_of_ble_eq_true rfl, Nat.le_of_ble_eq_true rfl⟩ (permBy [8, 0, 1, 2, 3, 4, 5, 6, 7] (by decide) rfl rfl) rfl (Nat.le_of_ble_eq_true rfl) dX4_init_40 rfl (fun v w hq => ?_)
  obtain ⟨q15, rfl, rfl, rfl⟩ := hq
  show V X 50 1762 43 [(1, vI 6), (0, vP a)] [vP (q15 0), vI 6, vP b1] [bkW q15 (z0, z0, z0, z0, z0, z0, 0, 0, 0, 100), [(a, cO 3 [vP b1, vI 0, vI 0])], [(b1, cR 12 (up (up (up (up (up (up (fun _ => none) 0 (some (q3 0))) 1 (some (q5 0))) 2 (some (q7 0))) 3 (some (q9 0))) 4 (some (q11 0))) 5 (some (q13 0))))], bkW q3 (z0, z0, z0, z0, z0, z0, 0, 0, 0, 100), bkW q5 (z0, z0, z0, z0, z0, z0, 0, 0, 0, 100), bkW q7 (z0, z0, z0, z0, z0, z0, 0, 0, 0, 100), bkW q9 (z0, z0, z0, z0, z0, z0, 0, 0, 0, 100), bkW q11 (z0, z0, z0, z0, z0, z0, 0, 0, 0, 100), bkW q13 (z0, z0, z0, z0, z0, z0, 0, 0, 0, 100)]
  refine V.perm (cs' := [[(a, cO 3 [vP b1, vI 0, vI 0])], [(b1, cR 12 (up (up (up (up (up (up (fun _ => none) 0 (some (q3 0))) 1 (some (q5 0))) 2 (some (q7 0))) 3 (some (q9 0))) 4 (some (q11 0))) 5 (some (q13 0))))], bkW q3 (z0, z0, z0, z0, z0, z0, 0, 0, 0, 100), bkW q5 (z0, z0, z0, z0, z0, z0, 0, 0, 0, 100), bkW q7 (z0, z0, z0, z0, z0, z0, 0, 0, 0, 100), bkW q9 (z0, z0, z0, z0, z0, z0, 0, 0, 0, 100), bkW q11 (z0, z0, z0, z0, z0, z0, 0, 0, 0, 100), bkW q13 (z0, z0, z0, z0, z0, z0, 0, 0, 0, 100), bkW q15 (z0, z0, z0, z0, z0, z0, 0, 0, 0, 100)]) (permBy [1, 2, 3, 4, 5, 6, 7, 8, 0] (by decide) rfl rfl) ?_
  refine i_aast (i := 1) (j := 0) (i2 := 8) (j2 := 0) (q := 44) (cs' := [[(a, cO 3 [vP b1, vI 0, vI 0])], [(b1, cR 12 (up (up (up (up (up (up (up (fun _ => none) 0 (some (q3 0))) 1 (some (q5 0))) 2 (some (q7 0))) 3 (some (q9 0))) 4 (some (q11 0))) 5 (some (q13 0))) 6 (some (q15 0))))], bkW q3 (z0, z0, z0, z0, z0, z0, 0, 0, 0, 100), bkW q5 (z0, z0, z0, z0, z0, z0, 0, 0, 0, 100), bkW q7 (z0, z0, z0, z0, z0, z0, 0, 0, 0, 100), bkW q9 (z0, z0, z0, z0, z0, z0, 0, 0, 0, 100), bkW q11 (z0, z0, z0, z0, z0, z0, 0, 0, 0, 100), bkW q13 (z0, z0, z0, z0, z0, z0, 0, 0, 0, 100), bkW q15 (z0, z0, z0, z0, z0, z0, 0, 0, 0, 100)]) C rfl rfl rfl rfl (by decide) dX4_init_43 rfl rfl ?_
  refine i_iinc (j := 0) (q := 47) (lv' := [(1, vI 7), (0, vP a)]) C rfl (by decide) rfl dX4_init_44 rfl ?_
  refine i_goto (q := 25) C dX4_init_47 (by decide) ?_
  refine i_iload_n (j := 0) (q := 26) C rfl rfl dX4_init_25 rfl ?_
  refine i_bipush (q := 28) C (by decide) dX4_init_26 rfl ?_
  refine i_icmp_ge (tgt := 50) (q := 31) C (by decide) (by decide) dX4_init_28 (by decide) rfl (fun c_28 => absurd c_28 (by decide)) (fun c_28 => ?_)
  refine i_aload_n (j := 1) (q := 32) C rfl rfl dX4_init_31 rfl ?_
  refine i_get (i := 0) (j := 0) (f := 0) (q := 35) C rfl rfl rfl hi_X4_init_X4 (by decide) lk_X4_init_11 rfl dX4_init_32 rfl ?_
  refine i_iload_n (j := 0) (q := 36) C rfl rfl dX4_init_35 rfl ?_
  refine i_new (ci := 0) (fs := [vN, vN, vN, vN, vN, vN, vI 0, vI 0, vI 0, vI 0]) (q := 39) C rfl hi_X4_init_X0 tyX0 tyX0_ok (List.mem_of_getElem? (i := 4) rfl) (List.mem_of_getElem? (i := 8) rfl) (List.mem_of_getElem? (i := 9) rfl) df_X0 ⟨Nat.le_of_ble_eq_true rfl, Nat.le_of_ble_eq_true rfl⟩ dX4_init_36 rfl (fun c16 => ?_)
  show V X 51 1772 39 [(1, vI 7), (0, vP a)] [vP c16, vI 7, vP b1] [[(a, cO 3 [vP b1, vI 0, vI 0])], [(b1, cR 12 (up (up (up (up (up (up (up (fun _ => none) 0 (some (q3 0))) 1 (some (q5 0))) 2 (some (q7 0))) 3 (some (q9 0))) 4 (some (q11 0))) 5 (some (q13 0))) 6 (some (q15 0))))], bkW q3 (z0, z0, z0, z0, z0, z0, 0, 0, 0, 100), bkW q5 (z0, z0, z0, z0, z0, z0, 0, 0, 0, 100), bkW q7 (z0, z0, z0, z0, z0, z0, 0, 0, 0, 100), bkW q9 (z0, z0, z0, z0, z0, z0, 0, 0, 0, 100), bkW q11 (z0, z0, z0, z0, z0, z0, 0, 0, 0, 100), bkW q13 (z0, z0, z0, z0, z0, z0, 0, 0, 0, 100), bkW q15 (z0, z0, z0, z0, z0, z0, 0, 0, 0, 100), [(c16, cO 0 [vN, vN, vN, vN, vN, vN, vI 0, vI 0, vI 0, vI 0])]]
  refine i_dup (q := 40) C rfl dX4_init_39 rfl ?_
  refine i_callIN (host := RX7) (wr := [[(a, cO 3 [vP b1, vI 0, vI 0])], [(b1, cR 12 (up (up (up (up (up (up (up (fun _ => none) 0 (some (q3 0))) 1 (some (q5 0))) 2 (some (q7 0))) 3 (some (q9 0))) 4 (some (q11 0))) 5 (some (q13 0))) 6 (some (q15 0))))], bkW q3 (z0, z0, z0, z0, z0, z0, 0, 0, 0, 100), bkW q5 (z0, z0, z0, z0, z0, z0, 0, 0, 0, 100), bkW q7 (z0, z0, z0, z0, z0, z0, 0, 0, 0, 100), bkW q9 (z0, z0, z0, z0, z0, z0, 0, 0, 0, 100), bkW q11 (z0, z0, z0, z0, z0, z0, 0, 0, 0, 100), bkW q13 (z0, z0, z0, z0, z0, z0, 0, 0, 0, 100), bkW q15 (z0, z0, z0, z0, z0, z0, 0, 0, 0, 100)]) (As := []) (st := [vP c16, vI 7, vP b1]) (q := 43) C (c_X0_init K l c16) gX4_init_X0_init_n24 rfl (by decide) (List.mem_of_getElem? (i := 10) rfl) (List.mem_of_getElem? (i := 9) rfl) hd_X0_init ⟨Nat.le_of_ble_eq_true rfl, Nat.le_of_ble_eq_true rfl⟩ ⟨rfl, rfl⟩ ⟨Nat.le_of_ble_eq_true rfl, Nat.le_of_ble_eq_true rfl⟩ (permBy [9, 0, 1, 2, 3, 4, 5, 6, 7, 8] (by decide) rfl rfl) rfl (Nat.le_of_ble_eq_true rfl) dX4_init_40 rfl (fun v w hq => ?_)
  obtain ⟨q17, rfl, rfl, rfl⟩ := hq
  show V X 57 2012 43 [(1, vI 7), (0, vP a)] [vP (q17 0), vI 7, vP b1] [bkW q17 (z0, z0, z0, z0, z0, z0, 0, 0, 0, 100), [(a, cO 3 [vP b1, vI 0, vI 0])], [(b1, cR 12 (up (up (up (up (up (up (up (fun _ => none) 0 (some (q3 0))) 1 (some (q5 0))) 2 (some (q7 0))) 3 (some (q9 0))) 4 (some (q11 0))) 5 (some (q13 0))) 6 (some (q15 0))))], bkW q3 (z0, z0, z0, z0, z0, z0, 0, 0, 0, 100), bkW q5 (z0, z0, z0, z0, z0, z0, 0, 0, 0, 100), bkW q7 (z0, z0, z0, z0, z0, z0, 0, 0, 0, 100), bkW q9 (z0, z0, z0, z0, z0, z0, 0, 0, 0, 100), bkW q11 (z0, z0, z0, z0, z0, z0, 0, 0, 0, 100), bkW q13 (z0, z0, z0, z0, z0, z0, 0, 0, 0, 100), bkW q15 (z0, z0, z0, z0, z0, z0, 0, 0, 0, 100)]
  refine V.perm (cs' := [[(a, cO 3 [vP b1, vI 0, vI 0])], [(b1, cR 12 (up (up (up (up (up (up (up (fun _ => none) 0 (some (q3 0))) 1 (some (q5 0))) 2 (some (q7 0))) 3 (some (q9 0))) 4 (some (q11 0))) 5 (some (q13 0))) 6 (some (q15 0))))], bkW q3 (z0, z0, z0, z0, z0, z0, 0, 0, 0, 100), bkW q5 (z0, z0, z0, z0, z0, z0, 0, 0, 0, 100), bkW q7 (z0, z0, z0, z0, z0, z0, 0, 0, 0, 100), bkW q9 (z0, z0, z0, z0, z0, z0, 0, 0, 0, 100), bkW q11 (z0, z0, z0, z0, z0, z0, 0, 0, 0, 100), bkW q13 (z0, z0, z0, z0, z0, z0, 0, 0, 0, 100), bkW q15 (z0, z0, z0, z0, z0, z0, 0, 0, 0, 100), bkW q17 (z0, z0, z0, z0, z0, z0, 0, 0, 0, 100)]) (permBy [1, 2, 3, 4, 5, 6, 7, 8, 9, 0] (by decide) rfl rfl) ?_
  refine i_aast (i := 1) (j := 0) (i2 := 9) (j2 := 0) (q := 44) (cs' := [[(a, cO 3 [vP b1, vI 0, vI 0])], [(b1, cR 12 (up (up (up (up (up (up (up (up (fun _ => none) 0 (some (q3 0))) 1 (some (q5 0))) 2 (some (q7 0))) 3 (some (q9 0))) 4 (some (q11 0))) 5 (some (q13 0))) 6 (some (q15 0))) 7 (some (q17 0))))], bkW q3 (z0, z0, z0, z0, z0, z0, 0, 0, 0, 100), bkW q5 (z0, z0, z0, z0, z0, z0, 0, 0, 0, 100), bkW q7 (z0, z0, z0, z0, z0, z0, 0, 0, 0, 100), bkW q9 (z0, z0, z0, z0, z0, z0, 0, 0, 0, 100), bkW q11 (z0, z0, z0, z0, z0, z0, 0, 0, 0, 100), bkW q13 (z0, z0, z0, z0, z0, z0, 0, 0, 0, 100), bkW q15 (z0, z0, z0, z0, z0, z0, 0, 0, 0, 100), bkW q17 (z0, z0, z0, z0, z0, z0, 0, 0, 0, 100)]) C rfl rfl rfl rfl (by decide) dX4_init_43 rfl rfl ?_
  refine i_iinc (j := 0) (q := 47) (lv' := [(1, vI 8), (0, vP a)]) C rfl (by decide) rfl dX4_init_44 rfl ?_
  refine i_goto (q := 25) C dX4_init_47 (by decide) ?_
  refine i_iload_n (j := 0) (q := 26) C rfl rfl dX4_init_25 rfl ?_
  refine i_bipush (q := 28) C (by decide) dX4_init_26 rfl ?_
  refine i_icmp_ge (tgt := 50) (q := 31) C (by decide) (by decide) dX4_init_28 (by decide) rfl (fun c_28 => absurd c_28 (by decide)) (fun c_28 => ?_)
  refine i_aload_n (j := 1) (q := 32) C rfl rfl dX4_init_31 rfl ?_
  refine i_get (i := 0) (j := 0) (f := 0) (q := 35) C rfl rfl rfl hi_X4_init_X4 (by decide) lk_X4_init_11 rfl dX4_init_32 rfl ?_
  refine i_iload_n (j := 0) (q := 36) C rfl rfl dX4_init_35 rfl ?_
  refine i_new (ci := 0) (fs := [vN, vN, vN, vN, vN, vN, vI 0, vI 0, vI 0, vI 0]) (q := 39) C rfl hi_X4_init_X0 tyX0 tyX0_ok (List.mem_of_getElem? (i := 4) rfl) (List.mem_of_getElem? (i := 8) rfl) (List.mem_of_getElem? (i := 9) rfl) df_X0 ⟨Nat.le_of_ble_eq_true rfl, Nat.le_of_ble_eq_true rfl⟩ dX4_init_36 rfl (fun c18 => ?_)
  show V X 58 2022 39 [(1, vI 8), (0, vP a)] [vP c18, vI 8, vP b1] [[(a, cO 3 [vP b1, vI 0, vI 0])], [(b1, cR 12 (up (up (up (up (up (up (up (up (fun _ => none) 0 (some (q3 0))) 1 (some (q5 0))) 2 (some (q7 0))) 3 (some (q9 0))) 4 (some (q11 0))) 5 (some (q13 0))) 6 (some (q15 0))) 7 (some (q17 0))))], bkW q3 (z0, z0, z0, z0, z0, z0, 0, 0, 0, 100), bkW q5 (z0, z0, z0, z0, z0, z0, 0, 0, 0, 100), bkW q7 (z0, z0, z0, z0, z0, z0, 0, 0, 0, 100), bkW q9 (z0, z0, z0, z0, z0, z0, 0, 0, 0, 100), bkW q11 (z0, z0, z0, z0, z0, z0, 0, 0, 0, 100), bkW q13 (z0, z0, z0, z0, z0, z0, 0, 0, 0, 100), bkW q15 (z0, z0, z0, z0, z0, z0, 0, 0, 0, 100), bkW q17 (z0, z0, z0, z0, z0, z0, 0, 0, 0, 100), [(c18, cO 0 [vN, vN, vN, vN, vN, vN, vI 0, vI 0, vI 0, vI 0])]]
  refine i_dup (q := 40) C rfl dX4_init_39 rfl ?_
  refine i_callIN (host := RX7) (wr := [[(a, cO 3 [vP b1, vI 0, vI 0])], [(b1, cR 12 (up (up (up (up (up (up (up (up (fun _ => none) 0 (some (q3 0))) 1 (some (q5 0))) 2 (some (q7 0))) 3 (some (q9 0))) 4 (some (q11 0))) 5 (some (q13 0))) 6 (some (q15 0))) 7 (some (q17 0))))], bkW q3 (z0, z0, z0, z0, z0, z0, 0, 0, 0, 100), bkW q5 (z0, z0, z0, z0, z0, z0, 0, 0, 0, 100), bkW q7 (z0, z0, z0, z0, z0, z0, 0, 0, 0, 100), bkW q9 (z0, z0, z0, z0, z0, z0, 0, 0, 0, 100), bkW q11 (z0, z0, z0, z0, z0, z0, 0, 0, 0, 100), bkW q13 (z0, z0, z0, z0, z0, z0, 0, 0, 0, 100), bkW q15 (z0, z0, z0, z0, z0, z0, 0, 0, 0, 100), bkW q17 (z0, z0, z0, z0, z0, z0, 0, 0, 0, 100)]) (As := []) (st := [vP c18, vI 8, vP b1]) (q := 43) C (c_X0_init K l c18) gX4_init_X0_init_n24 rfl (by decide) (List.mem_of_getElem? (i := 10) rfl) (List.mem_of_getElem? (i := 9) rfl) hd_X0_init ⟨Nat.le_of_ble_eq_true rfl, Nat.le_of_ble_eq_true rfl⟩ ⟨rfl, rfl⟩ ⟨Nat.le_of_ble_eq_true rfl, Nat.le_of_ble_eq_true rfl⟩ (permBy [10, 0, 1, 2, 3, 4, 5, 6, 7, 8, 9] (by decide) rfl rfl) rfl (Nat.le_of_ble_eq_true rfl) dX4_init_40 rfl (fun v w hq => ?_)
  obtain ⟨q19, rfl, rfl, rfl⟩ := hq
  show V X 64 2262 43 [(1, vI 8), (0, vP a)] [vP (q19 0), vI 8, vP b1] [bkW q19 (z0, z0, z0, z0, z0, z0, 0, 0, 0, 100), [(a, cO 3 [vP b1, vI 0, vI 0])], [(b1, cR 12 (up (up (up (up (up (up (up (up (fun _ => none) 0 (some (q3 0))) 1 (some (q5 0))) 2 (some (q7 0))) 3 (some (q9 0))) 4 (some (q11 0))) 5 (some (q13 0))) 6 (some (q15 0))) 7 (some (q17 0))))], bkW q3 (z0, z0, z0, z0, z0, z0, 0, 0, 0, 100), bkW q5 (z0, z0, z0, z0, z0, z0, 0, 0, 0, 100), bkW q7 (z0, z0, z0, z0, z0, z0, 0, 0, 0, 100), bkW q9 (z0, z0, z0, z0, z0, z0, 0, 0, 0, 100), bkW q11 (z0, z0, z0, z0, z0, z0, 0, 0, 0, 100), bkW q13 (z0, z0, z0, z0, z0, z0, 0, 0, 0, 100), bkW q15 (z0, z0, z0, z0, z0, z0, 0, 0, 0, 100), bkW q17 (z0, z0, z0, z0, z0, z0, 0, 0, 0, 100)]
  refine V.perm (cs' := [[(a, cO 3 [vP b1, vI 0, vI 0])], [(b1, cR 12 (up (up (up (up (up (up (up (up (fun _ => none) 0 (some (q3 0))) 1 (some (q5 0))) 2 (some (q7 0))) 3 (some (q9 0))) 4 (some (q11 0))) 5 (some (q13 0))) 6 (some (q15 0))) 7 (some (q17 0))))], bkW q3 (z0, z0, z0, z0, z0, z0, 0, 0, 0, 100), bkW q5 (z0, z0, z0, z0, z0, z0, 0, 0, 0, 100), bkW q7 (z0, z0, z0, z0, z0, z0, 0, 0, 0, 100), bkW q9 (z0, z0, z0, z0, z0, z0, 0, 0, 0, 100), bkW q11 (z0, z0, z0, z0, z0, z0, 0, 0, 0, 100), bkW q13 (z0, z0, z0, z0, z0, z0, 0, 0, 0, 100), bkW q15 (z0, z0, z0, z0, z0, z0, 0, 0, 0, 100), bkW q17 (z0, z0, z0, z0, z0, z0, 0, 0, 0, 100), bkW q19 (z0, z0, z0, z0, z0, z0, 0, 0, 0, 100)]) (permBy [1, 2, 3, 4, 5, 6, 7, 8, 9, 10, 0] (by decide) rfl rfl) ?_
  refine i_aast (i := 1) (j := 0) (i2 := 10) (j2 := 0) (q := 44) (cs' := [[(a, cO 3 [vP b1, vI 0, vI 0])], [(b1, cR 12 (up (up (up (up (up (up (up (up (up (fun _ => none) 0 (some (q3 0))) 1 (some (q5 0))) 2 (some (q7 0))) 3 (some (q9 0))) 4 (some (q11 0))) 5 (some (q13 0))) 6 (some (q15 0))) 7 (some (q17 0))) 8 (some (q19 0))))], bkW q3 (z0, z0, z0, z0, z0, z0, 0, 0, 0, 100), bkW q5 (z0, z0, z0, z0, z0, z0, 0, 0, 0, 100), bkW q7 (z0, z0, z0, z0, z0, z0, 0, 0, 0, 100), bkW q9 (z0, z0, z0, z0, z0, z0, 0, 0, 0, 100), bkW q11 (z0, z0, z0, z0, z0, z0, 0, 0, 0, 100), bkW q13 (z0, z0, z0, z0, z0, z0, 0, 0, 0, 100), bkW q15 (z0, z0, z0, z0, z0, z0, 0, 0, 0, 100), bkW q17 (z0, z0, z0, z0, z0, z0, 0, 0, 0, 100), bkW q19 (z0, z0, z0, z0, z0, z0, 0, 0, 0, 100)]) C rfl rfl rfl rfl (by decide) dX4_init_43 rfl rfl ?_
  refine i_iinc (j := 0) (q := 47) (lv' := [(1, vI 9), (0, vP a)]) C rfl (by decide) rfl dX4_init_44 rfl ?_
  refine i_goto (q := 25) C dX4_init_47 (by decide) ?_
  refine i_iload_n (j := 0) (q := 26) C rfl rfl dX4_init_25 rfl ?_
  refine i_bipush (q := 28) C (by decide) dX4_init_26 rfl ?_
  refine i_icmp_ge (tgt := 50) (q := 31) C (by decide) (by decide) dX4_init_28 (by decide) rfl (fun c_28 => absurd c_28 (by decide)) (fun c_28 => ?_)
  refine i_aload_n (j := 1) (q := 32) C rfl rfl dX4_init_31 rfl ?_
  refine i_get (i := 0) (j := 0) (f := 0) (q := 35) C rfl rfl rfl hi_X4_init_X4 (by decide) lk_X4_init_11 rfl dX4_init_32 rfl ?_
  refine i_iload_n (j := 0) (q := 36) C rfl rfl dX4_init_35 rfl ?_
  refine i_new (ci := 0) (fs := [vN, vN, vN, vN, vN, vN, vI 0, vI 0, vI 0, vI 0]) (q := 39) C rfl hi_X4_init_X0 tyX0 tyX0_ok (List.mem_of_getElem? (i := 4) rfl) (List.mem_of_getElem? (i := 8) rfl) (List.mem_of_getElem? (i := 9) rfl) df_X0 ⟨Nat.le_of_ble_eq_true rfl, Nat.le_of_ble_eq_true rfl⟩ dX4_init_36 rfl (fun c20 => ?_)
  show V X 65 2272 39 [(1, vI 9), (0, vP a)] [vP c20, vI 9, vP b1] [[(a, cO 3 [vP b1, vI 0, vI 0])], [(b1, cR 12 (up (up (up (up (up (up (up (up (up (fun _ => none) 0 (some (q3 0))) 1 (some (q5 0))) 2 (some (q7 0))) 3 (some (q9 0))) 4 (some (q11 0))) 5 (some (q13 0))) 6 (some (q15 0))) 7 (some (q17 0))) 8 (some (q19 0))))], bkW q3 (z0, z0, z0, z0, z0, z0, 0, 0, 0, 100), bkW q5 (z0, z0, z0, z0, z0, z0, 0, 0, 0, 100), bkW q7 (z0, z0, z0, z0, z0, z0, 0, 0, 0, 100), bkW q9 (z0, z0, z0, z0, z0, z0, 0, 0, 0, 100), bkW q11 (z0, z0, z0, z0, z0, z0, 0, 0, 0, 100), bkW q13 (z0, z0, z0, z0, z0, z0, 0, 0, 0, 100), bkW q15 (z0, z0, z0, z0, z0, z0, 0, 0, 0, 100), bkW q17 (z0, z0, z0, z0, z0, z0, 0, 0, 0, 100), bkW q19 (z0, z0, z0, z0, z0, z0, 0, 0, 0, 100), [(c20, cO 0 [vN, vN, vN, vN, vN, vN, vI 0, vI 0, vI 0, vI 0])]]
  refine i_dup (q := 40) C rfl dX4_init_39 rfl ?_
  refine i_callIN (host := RX7) (wr := [[(a, cO 3 [vP b1, vI 0, vI 0])], [(b1, cR 12 (up (up (up (up (up (up (up (up (up (fun _ => none) 0 (some (q3 0))) 1 (some (q5 0))) 2 (some (q7 0))) 3 (some (q9 0))) 4 (some (q11 0))) 5 (some (q13 0))) 6 (some (q15 0))) 7 (some (q17 0))) 8 (some (q19 0))))], bkW q3 (z0, z0, z0, z0, z0, z0, 0, 0, 0, 100), bkW q5 (z0, z0, z0, z0, z0, z0, 0, 0, 0, 100), bkW q7 (z0, z0, z0, z0, z0, z0, 0, 0, 0, 100), bkW q9 (z0, z0, z0, z0, z0, z0, 0, 0, 0, 100), bkW q11 (z0, z0, z0, z0, z0, z0, 0, 0, 0, 100), bkW q13 (z0, z0, z0, z0, z0, z0, 0, 0, 0, 100), bkW q15 (z0, z0, z0, z0, z0, z0, 0, 0, 0, 100), bkW q17 (z0, z0, z0, z0, z0, z0, 0, 0, 0, 100), bkW q19 (z0, z0, z0, z0, z0, z0, 0, 0, 0, 100)]) (As := []) (st := [vP c20, vI 9, vP b1]) (q := 43) C (c_X0_init K l c20) gX4_init_X0_init_n24 rfl (by decide) (List.mem_of_getElem? (i := 10) rfl) (List.mem_of_getElem? (i := 9) rfl) hd_X0_init ⟨Nat.le_of_ble_eq_true rfl, Nat.le_of_ble_eq_true rfl⟩ ⟨rfl, rfl⟩ ⟨Nat.le_of_ble_eq_true rfl, Nat.le_of_ble_eq_true rfl⟩ (permBy [11, 0, 1, 2, 3, 4, 5, 6, 7, 8, 9, 10] (by decide) rfl rfl) rfl (Nat.le_of_ble_eq_true rfl) dX4_init_40 rfl (fun v w hq => ?_)
  obtain ⟨q21, rfl, rfl, rfl⟩ := hq
  show V X 71 2512 43 [(1, vI 9), (0, vP a)] [vP (q21 0), vI 9, vP b1] [bkW q21 (z0, z0, z0, z0, z0, z0, 0, 0, 0, 100), [(a, cO 3 [vP b1, vI 0, vI 0])], [(b1, cR 12 (up (up (up (up (up (up (up (up (up (fun _ => none) 0 (some (q3 0))) 1 (some (q5 0))) 2 (some (q7 0))) 3 (some (q9 0))) 4 (some (q11 0))) 5 (some (q13 0))) 6 (some (q15 0))) 7 (some (q17 0))) 8 (some (q19 0))))], bkW q3 (z0, z0, z0, z0, z0, z0, 0, 0, 0, 100), bkW q5 (z0, z0, z0, z0, z0, z0, 0, 0, 0, 100), bkW q7 (z0, z0, z0, z0, z0, z0, 0, 0, 0, 100), bkW q9 (z0, z0, z0, z0, z0, z0, 0, 0, 0, 100), bkW q11 (z0, z0, z0, z0, z0, z0, 0, 0, 0, 100), bkW q13 (z0, z0, z0, z0, z0, z0, 0, 0, 0, 100), bkW q15 (z0, z0, z0, z0, z0, z0, 0, 0, 0, 100), bkW q17 (z0, z0, z0, z0, z0, z0, 0, 0, 0, 100), bkW q19 (z0, z0, z0, z0, z0, z0, 0, 0, 0, 100)]
  refine V.perm (cs' := [[(a, cO 3 [vP b1, vI 0, vI 0])], [(b1, cR 12 (up (up (up (up (up (up (up (up (up (fun _ => none) 0 (some (q3 0))) 1 (some (q5 0))) 2 (some (q7 0))) 3 (some (q9 0))) 4 (some (q11 0))) 5 (some (q13 0))) 6 (some (q15 0))) 7 (some (q17 0))) 8 (some (q19 0))))], bkW q3 (z0, z0, z0, z0, z0, z0, 0, 0, 0, 100), bkW q5 (z0, z0, z0, z0, z0, z0, 0, 0, 0, 100), bkW q7 (z0, z0, z0, z0, z0, z0, 0, 0, 0, 100), bkW q9 (z0, z0, z0, z0, z0, z0, 0, 0, 0, 100), bkW q11 (z0, z0, z0, z0, z0, z0, 0, 0, 0, 100), bkW q13 (z0, z0, z0, z0, z0, z0, 0, 0, 0, 100), bkW q15 (z0, z0, z0, z0, z0, z0, 0, 0, 0, 100), bkW q17 (z0, z0, z0, z0, z0, z0, 0, 0, 0, 100), bkW q19 (z0, z0, z0, z0, z0, z0, 0, 0, 0, 100), bkW q21 (z0, z0, z0, z0, z0, z0, 0, 0, 0, 100)]) (permBy [1, 2, 3, 4, 5, 6, 7, 8, 9, 10, 11, 0] (by decide) rfl rfl) ?_
  refine i_aast (i := 1) (j := 0) (i2 := 11) (j2 := 0) (q := 44) (cs' := [[(a, cO 3 [vP b1, vI 0, vI 0])], [(b1, cR 12 (up (up (up (up (up (up (up (up (up (up (fun _ => none) 0 (some (q3 0))) 1 (some (q5 0))) 2 (some (q7 0))) 3 (some (q9 0))) 4 (some (q11 0))) 5 (some (q13 0))) 6 (some (q15 0))) 7 (some (q17 0))) 8 (some (q19 0))) 9 (some (q21 0))))], bkW q3 (z0, z0, z0, z0, z0, z0, 0, 0, 0, 100), bkW q5 (z0, z0, z0, z0, z0, z0, 0, 0, 0, 100), bkW q7 (z0, z0, z0, z0, z0, z0, 0, 0, 0, 100), bkW q9 (z0, z0, z0, z0, z0, z0, 0, 0, 0, 100), bkW q11 (z0, z0, z0, z0, z0, z0, 0, 0, 0, 100), bkW q13 (z0, z0, z0, z0, z0, z0, 0, 0, 0, 100), bkW q15 (z0, z0, z0, z0, z0, z0, 0, 0, 0, 100), bkW q17 (z0, z0, z0, z0, z0, z0, 0, 0, 0, 100), bkW q19 (z0, z0, z0, z0, z0, z0, 0, 0, 0, 100), bkW q21 (z0, z0, z0, z0, z0, z0, 0, 0, 0, 100)]) C rfl rfl rfl rfl (by decide) dX4_init_43 rfl rfl ?_
  refine i_iinc (j := 0) (q := 47) (lv' := [(1, vI 10), (0, vP a)]) C rfl (by decide) rfl dX4_init_44 rfl ?_
  refine i_goto (q := 25) C dX4_init_47 (by decide) ?_
  refine i_iload_n (j := 0) (q := 26) C rfl rfl dX4_init_25 rfl ?_
  refine i_bipush (q := 28) C (by decide) dX4_init_26 rfl ?_
  refine i_icmp_ge (tgt := 50) (q := 31) C (by decide) (by decide) dX4_init_28 (by decide) rfl (fun c_28 => absurd c_28 (by decide)) (fun c_28 => ?_)
  refine i_aload_n (j := 1) (q := 32) C rfl rfl dX4_init_31 rfl ?_
  refine i_get (i := 0) (j := 0) (f := 0) (q := 35) C rfl rfl rfl hi_X4_init_X4 (by decide) lk_X4_init_11 rfl dX4_init_32 rfl ?_
  refine i_iload_n (j := 0) (q := 36) C rfl rfl dX4_init_35 rfl ?_
  refine i_new (ci := 0) (fs := [vN, vN, vN, vN, vN, vN, vI 0, vI 0, vI 0, vI 0]) (q := 39) C rfl hi_X4_init_X0 tyX0 tyX0_ok (List.mem_of_getElem? (i := 4) rfl) (List.mem_of_getElem? (i := 8) rfl) (List.mem_of_getElem? (i := 9) rfl) df_X0 ⟨Nat.le_of_ble_eq_true rfl, Nat.le_of_ble_eq_true rfl⟩ dX4_init_36 rfl (fun c22 => ?_)
  show V X 72 2522 39 [(1, vI 10), (0, vP a)] [vP c22, vI 10, vP b1] [[(a, cO 3 [vP b1, vI 0, vI 0])], [(b1, cR 12 (up (up (up (up (up (up (up (up (up (up (fun _ => none) 0 (some (q3 0))) 1 (some (q5 0))) 2 (some (q7 0))) 3 (some (q9 0))) 4 (some (q11 0))) 5 (some (q13 0))) 6 (some (q15 0))) 7 (some (q17 0))) 8 (some (q19 0))) 9 (some (q21 0))))], bkW q3 (z0, z0, z0, z0, z0, z0, 0, 0, 0, 100), bkW q5 (z0, z0, z0, z0, z0, z0, 0, 0, 0, 100), bkW q7 (z0, z0, z0, z0, z0, z0, 0, 0, 0, 100), bkW q9 (z0, z0, z0, z0, z0, z0, 0, 0, 0, 100), bkW q11 (z0, z0, z0, z0, z0, z0, 0, 0, 0, 100), bkW q13 (z0, z0, z0, z0, z0, z0, 0, 0, 0, 100), bkW q15 (z0, z0, z0, z0, z0, z0, 0, 0, 0, 100), bkW q17 (z0, z0, z0, z0, z0, z0, 0, 0, 0, 100), bkW q19 (z0, z0, z0, z0, z0, z0, 0, 0, 0, 100), bkW q21 (z0, z0, z0, z0, z0, z0, 0, 0, 0, 100), [(c22, cO 0 [vN, vN, vN, vN, vN, vN, vI 0, vI 0, vI 0, vI 0])]]
  refine i_dup (q := 40) C rfl dX4_init_39 rfl ?_
  refine i_callIN (host := RX7) (wr := [[(a, cO 3 [vP b1, vI 0, vI 0])], [(b1, cR 12 (up (up (up (up (up (up (up (up (up (up (fun _ => none) 0 (some (q3 0))) 1 (some (q5 0))) 2 (some (q7 0))) 3 (some (q9 0))) 4 (some (q11 0))) 5 (some (q13 0))) 6 (some (q15 0))) 7 (some (q17 0))) 8 (some (q19 0))) 9 (some (q21 0))))], bkW q3 (z0, z0, z0, z0, z0, z0, 0, 0, 0, 100), bkW q5 (z0, z0, z0, z0, z0, z0, 0, 0, 0, 100), bkW q7 (z0, z0, z0, z0, z0, z0, 0, 0, 0, 100), bkW q9 (z0, z0, z0, z0, z0, z0, 0, 0, 0, 100), bkW q11 (z0, z0, z0, z0, z0, z0, 0, 0, 0, 100), bkW q13 (z0, z0, z0, z0, z0, z0, 0, 0, 0, 100), bkW q15 (z0, z0, z0, z0, z0, z0, 0, 0, 0, 100), bkW q17 (z0, z0, z0, z0, z0, z0, 0, 0, 0, 100), bkW q19 (z0, z0, z0, z0, z0, z0, 0, 0, 0, 100), bkW q21 (z0, z0, z0, z0, z0, z0, 0, 0, 0, 100)]) (As := []) (st := [vP c22, vI 10, vP b1]) (q := 43) C (c_X0_init K l c22) gX4_init_X0_init_n24 rfl (by decide) (List.mem_of_getElem? (i := 10) rfl) (List.mem_of_getElem? (i := 9) rfl) hd_X0_init ⟨Nat.le_of_ble_eq_true rfl, Nat.le_of_ble_eq_true rfl⟩ ⟨rfl, rfl⟩ ⟨Nat.le_of_ble_eq_true rfl, Nat.le_of_ble_eq_true rfl⟩ (permBy [12, 0, 1, 2, 3, 4, 5, 6, 7, 8, 9, 10, 11] (by decide) rfl rfl) rfl (Nat.le_of_ble_eq_true rfl) dX4_init_40 rfl (fun v w hq => ?_)
  obtain ⟨q23, rfl, rfl, rfl⟩ := hq
  show V X 78 2762 43 [(1, vI 10), (0, vP a)] [vP (q23 0), vI 10, vP b1] [bkW q23 (z0, z0, z0, z0, z0, z0, 0, 0, 0, 100), [(a, cO 3 [vP b1, vI 0, vI 0])], [(b1, cR 12 (up (up (up (up (up (up (up (up (up (up (fun _ => none) 0 (some (q3 0))) 1 (some (q5 0))) 2 (some (q7 0))) 3 (some (q9 0))) 4 (some (q11 0))) 5 (some (q13 0))) 6 (some (q15 0))) 7 (some (q17 0))) 8 (some (q19 0))) 9 (some (q21 0))))], bkW q3 (z0, z0, z0, z0, z0, z0, 0, 0, 0, 100), bkW q5 (z0, z0, z0, z0, z0, z0, 0, 0, 0, 100), bkW q7 (z0, z0, z0, z0, z0, z0, 0, 0, 0, 100), bkW q9 (z0, z0, z0, z0, z0, z0, 0, 0, 0, 100), bkW q11 (z0, z0, z0, z0, z0, z0, 0, 0, 0, 100), bkW q13 (z0, z0, z0, z0, z0, z0, 0, 0, 0, 100), bkW q15 (z0, z0, z0, z0, z0, z0, 0, 0, 0, 100), bkW q17 (z0, z0, z0, z0, z0, z0, 0, 0, 0, 100), bkW q19 (z0, z0, z0, z0, z0, z0, 0, 0, 0, 100), bkW q21 (z0, z0, z0, z0, z0, z0, 0, 0, 0, 100)]
  refine V.perm (cs' := [[(a, cO 3 [vP b1, vI 0, vI 0])], [(b1, cR 12 (up (up (up (up (up (up (up (up (up (up (fun _ => none) 0 (some (q3 0))) 1 (some (q5 0))) 2 (some (q7 0))) 3 (some (q9 0))) 4 (some (q11 0))) 5 (some (q13 0))) 6 (some (q15 0))) 7 (some (q17 0))) 8 (some (q19 0))) 9 (some (q21 0))))], bkW q3 (z0, z0, z0, z0, z0, z0, 0, 0, 0, 100), bkW q5 (z0, z0, z0, z0, z0, z0, 0, 0, 0, 100), bkW q7 (z0, z0, z0, z0, z0, z0, 0, 0, 0, 100), bkW q9 (z0, z0, z0, z0, z0, z0, 0, 0, 0, 100), bkW q11 (z0, z0, z0, z0, z0, z0, 0, 0, 0, 100), bkW q13 (z0, z0, z0, z0, z0, z0, 0, 0, 0, 100), bkW q15 (z0, z0, z0, z0, z0, z0, 0, 0, 0, 100), bkW q17 (z0, z0, z0, z0, z0, z0, 0, 0, 0, 100), bkW q19 (z0, z0, z0, z0, z0, z0, 0, 0, 0, 100), bkW q21 (z0, z0, z0, z0, z0, z0, 0, 0, 0, 100), bkW q23 (z0, z0, z0, z0, z0, z0, 0, 0, 0, 100)]) (permBy [1, 2, 3, 4, 5, 6, 7, 8, 9, 10, 11, 12, 0] (by decide) rfl rfl) ?_
  refine i_aast (i := 1) (j := 0) (i2 := 12) (j2 := 0) (q := 44) (cs' := [[(a, cO 3 [vP b1, vI 0, vI 0])], [(b1, cR 12 (up (up (up (up (up (up (up (up (up (up (up (fun _ => none) 0 (some (q3 0))) 1 (some (q5 0))) 2 (some (q7 0))) 3 (some (q9 0))) 4 (some (q11 0))) 5 (some (q13 0))) 6 (some (q15 0))) 7 (some (q17 0))) 8 (some (q19 0))) 9 (some (q21 0))) 10 (some (q23 0))))], bkW q3 (z0, z0, z0, z0, z0, z0, 0, 0, 0, 100), bkW q5 (z0, z0, z0, z0, z0, z0, 0, 0, 0, 100), bkW q7 (z0, z0, z0, z0, z0, z0, 0, 0, 0, 100), bkW q9 (z0, z0, z0, z0, z0, z0, 0, 0, 0, 100), bkW q11 (z0, z0, z0, z0, z0, z0, 0, 0, 0, 100), bkW q13 (z0, z0, z0, z0, z0, z0, 0, 0, 0, 100), bkW q15 (z0, z0, z0, z0, z0, z0, 0, 0, 0, 100), bkW q17 (z0, z0, z0, z0, z0, z0, 0, 0, 0, 100), bkW q19 (z0, z0, z0, z0, z0, z0, 0, 0, 0, 100), bkW q21 (z0, z0, z0, z0, z0, z0, 0, 0, 0, 100), bkW q23 (z0, z0, z0, z0, z0, z0, 0, 0, 0, 100)]) C rfl rfl rfl rfl (by decide) dX4_init_43 rfl rfl ?_
  refine i_iinc (j := 0) (q := 47) (lv' := [(1, vI 11), (0, vP a)]) C rfl (by decide) rfl dX4_init_44 rfl ?_
  refine i_goto (q := 25) C dX4_init_47 (by decide) ?_
  refine i_iload_n (j := 0) (q := 26) C rfl rfl dX4_init_25 rfl ?_
  refine i_bipush (q := 28) C (by decide) dX4_init_26 rfl ?_
  refine i_icmp_ge (tgt := 50) (q := 31) C (by decide) (by decide) dX4_init_28 (by decide) rfl (fun c_28 => absurd c_28 (by decide)) (fun c_28 => ?_)
  refine i_aload_n (j := 1) (q := 32) C rfl rfl dX4_init_31 rfl ?_
  refine i_get (i := 0) (j := 0) (f := 0) (q := 35) C rfl rfl rfl hi_X4_init_X4 (by decide) lk_X4_init_11 rfl dX4_init_32 rfl ?_
  refine i_iload_n (j := 0) (q := 36) C rfl rfl dX4_init_35 rfl ?_
  refine i_new (ci := 0) (fs := [vN, vN, vN, vN, vN, vN, vI 0, vI 0, vI 0, vI 0]) (q := 39) C rfl hi_X4_init_X0 tyX0 tyX0_ok (List.mem_of_getElem? (i := 4) rfl) (List.mem_of_getElem? (i := 8) rfl) (List.mem_of_getElem? (i := 9) rfl) df_X0 ⟨Nat.le_of_ble_eq_true rfl, Nat.le_of_ble_eq_true rfl⟩ dX4_init_36 rfl (fun c24 => ?_)
  show V X 79 2772 39 [(1, vI 11), (0, vP a)] [vP c24, vI 11, vP b1] [[(a, cO 3 [vP b1, vI 0, vI 0])], [(b1, cR 12 (up (up (up (up (up (up (up (up (up (up (up (fun _ => none) 0 (some (q3 0))) 1 (some (q5 0))) 2 (some (q7 0))) 3 (some (q9 0))) 4 (some (q11 0))) 5 (some (q13 0))) 6 (some (q15 0))) 7 (some (q17 0))) 8 (some (q19 0))) 9 (some (q21 0))) 10 (some (q23 0))))], bkW q3 (z0, z0, z0, z0, z0, z0, 0, 0, 0, 100), bkW q5 (z0, z0, z0, z0, z0, z0, 0, 0, 0, 100), bkW q7 (z0, z0, z0, z0, z0, z0, 0, 0, 0, 100), bkW q9 (z0, z0, z0, z0, z0, z0, 0, 0, 0, 100), bkW q11 (z0, z0, z0, z0, z0, z0, 0, 0, 0, 100), bkW q13 (z0, z0, z0, z0, z0, z0, 0, 0, 0, 100), bkW q15 (z0, z0, z0, z0, z0, z0, 0, 0, 0, 100), bkW q17 (z0, z0, z0, z0, z0, z0, 0, 0, 0, 100), bkW q19 (z0, z0, z0, z0, z0, z0, 0, 0, 0, 100), bkW q21 (z0, z0, z0, z0, z0, z0, 0, 0, 0, 100), bkW q23 (z0, z0, z0, z0, z0, z0, 0, 0, 0, 100), [(c24, cO 0 [vN, vN, vN, vN, vN, vN, vI 0, vI 0, vI 0, vI 0])]]
  refine i_dup (q := 40) C rfl dX4_init_39 rfl ?_
  refine i_callIN (host := RX7) (wr := [[(a, cO 3 [vP b1, vI 0, vI 0])], [(b1, cR 12 (up (up (up (up (up (up (up (up (up (up (up (fun _ => none) 0 (some (q3 0))) 1 (some (q5 0))) 2 (some (q7 0))) 3 (some (q9 0))) 4 (some (q11 0))) 5 (some (q13 0))) 6 (some (q15 0))) 7 (some (q17 0))) 8 (some (q19 0))) 9 (some (q21 0))) 10 (some (q23 0))))], bkW q3 (z0, z0, z0, z0, z0, z0, 0, 0, 0, 100), bkW q5 (z0, z0, z0, z0, z0, z0, 0, 0, 0, 100), bkW q7 (z0, z0, z0, z0, z0, z0, 0, 0, 0, 100), bkW q9 (z0, z0, z0, z0, z0, z0, 0, 0, 0, 100), bkW q11 (z0, z0, z0, z0, z0, z0, 0, 0, 0, 100), bkW q13 (z0, z0, z0, z0, z0, z0, 0, 0, 0, 100), bkW q15 (z0, z0, z0, z0, z0, z0, 0, 0, 0, 100), bkW q17 (z0, z0, z0, z0, z0, z0, 0, 0, 0, 100), bkW q19 (z0, z0, z0, z0, z0, z0, 0, 0, 0, 100), bkW q21 (z0, z0, z0, z0, z0, z0, 0, 0, 0, 100), bkW q23 (z0, z0, z0, z0, z0, z0, 0, 0, 0, 100)]) (As := []) (st := [vP c24, vI 11, vP b1]) (q := 43) C (c_X0_init K l c24) gX4_init_X0_init_n24 rfl (by decide) (List.mem_of_getElem? (i := 10) rfl) (List.mem_of_getElem? (i := 9) rfl) hd_X0_init ⟨Nat.le_of_ble_eq_true rfl, Nat.le_of_ble_eq_true rfl⟩ ⟨rfl, rfl⟩ ⟨Nat.le_of_ble_eq_true rfl, Nat.le_of_ble_eq_true rfl⟩ (permBy [13, 0, 1, 2, 3, 4, 5, 6, 7, 8, 9, 10, 11, 12] (by decide) rfl rfl) rfl (Nat.le_of_ble_eq_true rfl) dX4_init_40 rfl (fun v w hq => ?_)
  obtain ⟨q25, rfl, rfl, rfl⟩ := hq
  show V X 85 3012 43 [(1, vI 11), (0, vP a)] [vP (q25 0), vI 11, vP b1] [bkW q25 (z0, z0, z0, z0, z0, z0, 0, 0, 0, 100), [(a, cO 3 [vP b1, vI 0, vI 0])], [(b1, cR 12 (up (up (up (up (up (up (up (up (up (up (up (fun _ => none) 0 (some (q3 0))) 1 (some (q5 0))) 2 (some (q7 0))) 3 (some (q9 0))) 4 (some (q11 0))) 5 (some (q13 0))) 6 (some (q15 0))) 7 (some (q17 0))) 8 (some (q19 0))) 9 (some (q21 0))) 10 (some (q23 0))))], bkW q3 (z0, z0, z0, z0, z0, z0, 0, 0, 0, 100), bkW q5 (z0, z0, z0, z0, z0, z0, 0, 0, 0, 100), bkW q7 (z0, z0, z0, z0, z0, z0, 0, 0, 0, 100), bkW q9 (z0, z0, z0, z0, z0, z0, 0, 0, 0, 100), bkW q11 (z0, z0, z0, z0, z0, z0, 0, 0, 0, 100), bkW q13 (z0, z0, z0, z0, z0, z0, 0, 0, 0, 100), bkW q15 (z0, z0, z0, z0, z0, z0, 0, 0, 0, 100), bkW q17 (z0, z0, z0, z0, z0, z0, 0, 0, 0, 100), bkW q19 (z0, z0, z0, z0, z0, z0, 0, 0, 0, 100), bkW q21 (z0, z0, z0, z0, z0, z0, 0, 0, 0, 100), bkW q23 (z0, z0, z0, z0, z0, z0, 0, 0, 0, 100)]
  refine V.perm (cs' := [[(a, cO 3 [vP b1, vI 0, vI 0])], [(b1, cR 12 (up (up (up (up (up (up (up (up (up (up (up (fun _ => none) 0 (some (q3 0))) 1 (some (q5 0))) 2 (some (q7 0))) 3 (some (q9 0))) 4 (some (q11 0))) 5 (some (q13 0))) 6 (some (q15 0))) 7 (some (q17 0))) 8 (some (q19 0))) 9 (some (q21 0))) 10 (some (q23 0))))], bkW q3 (z0, z0, z0, z0, z0, z0, 0, 0, 0, 100), bkW q5 (z0, z0, z0, z0, z0, z0, 0, 0, 0, 100), bkW q7 (z0, z0, z0, z0, z0, z0, 0, 0, 0, 100), bkW q9 (z0, z0, z0, z0, z0, z0, 0, 0, 0, 100), bkW q11 (z0, z0, z0, z0, z0, z0, 0, 0, 0, 100), bkW q13 (z0, z0, z0, z0, z0, z0, 0, 0, 0, 100), bkW q15 (z0, z0, z0, z0, z0, z0, 0, 0, 0, 100), bkW q17 (z0, z0, z0, z0, z0, z0, 0, 0, 0, 100), bkW q19 (z0, z0, z0, z0, z0, z0, 0, 0, 0, 100), bkW q21 (z0, z0, z0, z0, z0, z0, 0, 0, 0, 100), bkW q23 (z0, z0, z0, z0, z0, z0, 0, 0, 0, 100), bkW q25 (z0, z0, z0, z0, z0, z0, 0, 0, 0, 100)]) (permBy [1, 2, 3, 4, 5, 6, 7, 8, 9, 10, 11, 12, 13, 0] (by decide) rfl rfl) ?_
  refine i_aast (i := 1) (j := 0) (i2 := 13) (j2 := 0) (q := 44) (cs' := [[(a, cO 3 [vP b1, vI 0, vI 0])], [(b1, cR 12 (up (up (up (up (up (up (up (up (up (up (up (up (fun _ => none) 0 (some (q3 0))) 1 (some (q5 0))) 2 (some (q7 0))) 3 (some (q9 0))) 4 (some (q11 0))) 5 (some (q13 0))) 6 (some (q15 0))) 7 (some (q17 0))) 8 (some (q19 0))) 9 (some (q21 0))) 10 (some (q23 0))) 11 (some (q25 0))))], bkW q3 (z0, z0, z0, z0, z0, z0, 0, 0, 0, 100), bkW q5 (z0, z0, z0, z0, z0, z0, 0, 0, 0, 100), bkW q7 (z0, z0, z0, z0, z0, z0, 0, 0, 0, 100), bkW q9 (z0, z0, z0, z0, z0, z0, 0, 0, 0, 100), bkW q11 (z0, z0, z0, z0, z0, z0, 0, 0, 0, 100), bkW q13 (z0, z0, z0, z0, z0, z0, 0, 0, 0, 100), bkW q15 (z0, z0, z0, z0, z0, z0, 0, 0, 0, 100), bkW q17 (z0, z0, z0, z0, z0, z0, 0, 0, 0, 100), bkW q19 (z0, z0, z0, z0, z0, z0, 0, 0, 0, 100), bkW q21 (z0, z0, z0, z0, z0, z0, 0, 0, 0, 100), bkW q23 (z0, z0, z0, z0, z0, z0, 0, 0, 0, 100), bkW q25 (z0, z0, z0, z0, z0, z0, 0, 0, 0, 100)]) C rfl rfl rfl rfl (by decide) dX4_init_43 rfl rfl ?_
  refine i_iinc (j := 0) (q := 47) (lv' := [(1, vI 12), (0, vP a)]) C rfl (by decide) rfl dX4_init_44 rfl ?_
  refine i_goto (q := 25) C dX4_init_47 (by decide) ?_
  refine i_iload_n (j := 0) (q := 26) C rfl rfl dX4_init_25 rfl ?_
  refine i_bipush (q := 28) C (by decide) dX4_init_26 rfl ?_
  refine i_icmp_ge (tgt := 50) (q := 31) C (by decide) (by decide) dX4_init_28 (by decide) rfl (fun c_28 => ?_) (fun c_28 => absurd c_28 (by decide))
  refine V.cRx (i := 1) (j := 0) (cs' := [[(a, cO 3 [vP b1, vI 0, vI 0])], [(b1, cR 12 (fun i : Int => some ((fun i : Int => ([q3, q5, q7, q9, q11, q13, q15, q17, q19, q21, q23, q25] : List (Nat → Nat)).getD i.toNat q3) i 0)))], bkW q3 (z0, z0, z0, z0, z0, z0, 0, 0, 0, 100), bkW q5 (z0, z0, z0, z0, z0, z0, 0, 0, 0, 100), bkW q7 (z0, z0, z0, z0, z0, z0, 0, 0, 0, 100), bkW q9 (z0, z0, z0, z0, z0, z0, 0, 0, 0, 100), bkW q11 (z0, z0, z0, z0, z0, z0, 0, 0, 0, 100), bkW q13 (z0, z0, z0, z0, z0, z0, 0, 0, 0, 100), bkW q15 (z0, z0, z0, z0, z0, z0, 0, 0, 0, 100), bkW q17 (z0, z0, z0, z0, z0, z0, 0, 0, 0, 100), bkW q19 (z0, z0, z0, z0, z0, z0, 0, 0, 0, 100), bkW q21 (z0, z0, z0, z0, z0, z0, 0, 0, 0, 100), bkW q23 (z0, z0, z0, z0, z0, z0, 0, 0, 0, 100), bkW q25 (z0, z0, z0, z0, z0, z0, 0, 0, 0, 100)]) rfl rfl (fun z hz => ?_) rfl ?_
  · rcases (show z = 0 ∨ z = 1 ∨ z = 2 ∨ z = 3 ∨ z = 4 ∨ z = 5 ∨ z = 6 ∨ z = 7 ∨ z = 8 ∨ z = 9 ∨ z = 10 ∨ z = 11 by omega) with rfl | rfl | rfl | rfl | rfl | rfl | rfl | rfl | rfl | rfl | rfl | rfl <;> rfl
  refine V.permF (cs' := [paW (fun k => ([a, b1] : List Nat).getD k 0) (fun i : Int => ([q3, q5, q7, q9, q11, q13, q15, q17, q19, q21, q23, q25] : List (Nat → Nat)).getD i.toNat q3) (0, 0), kbW (fun i : Int => ([q3, q5, q7, q9, q11, q13, q15, q17, q19, q21, q23, q25] : List (Nat → Nat)).getD i.toNat q3) (fun _ => B0)]) (List.Perm.of_eq rfl) ?_
  refine i_vret C hR dX4_init_50 ?_
  exact ⟨_, _, rfl, rfl, rfl⟩

theorem hi_X7_init_X0 : ∀ w ∈ u_ws RX0 TX0 10, w ∈ wsX7_init := by decide +kernel
theorem lk_X7_init_10 : Cond.fieldLink RX7 10 (TX7 0).1 (TX7 0).2.1 (TX7 0).2.2.1 ∈ wsX7_init := List.mem_of_getElem? (i := 7) rfl
theorem hi_X7_init_X7 : ∀ w ∈ u_ws RX7 TX7 9, w ∈ wsX7_init := by decide +kernel
theorem hi_X7_init_X4 : ∀ w ∈ u_ws RX4 TX4 3, w ∈ wsX7_init := by decide +kernel
theorem hd_X4_init : yX4_init.name = "<init>" ∧ yX4_init.cls ≠ "java/lang/invoke/MethodHandle" ∧ yX4_init.cls ≠ "java/lang/invoke/VarHandle" ∧ (parseMethodDescriptor yX4_init.desc).map (fun d => d.parameters.length) = some 0 := by decide +kernel
theorem lk_X7_init_19 : Cond.fieldLink RX7 19 (TX7 1).1 (TX7 1).2.1 (TX7 1).2.2.1 ∈ wsX7_init := List.mem_of_getElem? (i := 11) rfl
theorem hi_X7_init_X2 : ∀ w ∈ u_ws RX2 TX2 3, w ∈ wsX7_init := by decide +kernel
theorem hd_X2_init : yX2_init.name = "<init>" ∧ yX2_init.cls ≠ "java/lang/invoke/MethodHandle" ∧ yX2_init.cls ≠ "java/lang/invoke/VarHandle" ∧ (parseMethodDescriptor yX2_init.desc).map (fun d => d.parameters.length) = some 0 := by decide +kernel
theorem lk_X7_init_26 : Cond.fieldLink RX7 26 (TX7 2).1 (TX7 2).2.1 (TX7 2).2.2.1 ∈ wsX7_init := List.mem_of_getElem? (i := 15) rfl
theorem hi_X7_init_X3 : ∀ w ∈ u_ws RX3 TX3 9, w ∈ wsX7_init := by decide +kernel
theorem hd_X3_init : yX3_init.name = "<init>" ∧ yX3_init.cls ≠ "java/lang/invoke/MethodHandle" ∧ yX3_init.cls ≠ "java/lang/invoke/VarHandle" ∧ (parseMethodDescriptor yX3_init.desc).map (fun d => d.parameters.length) = some 0 := by decide +kernel
theorem lk_X7_init_33 : Cond.fieldLink RX7 33 (TX7 3).1 (TX7 3).2.1 (TX7 3).2.2.1 ∈ wsX7_init := List.mem_of_getElem? (i := 19) rfl
theorem lk_X7_init_37 : Cond.fieldLink RX7 37 (TX7 4).1 (TX7 4).2.1 (TX7 4).2.2.1 ∈ wsX7_init := List.mem_of_getElem? (i := 20) rfl
theorem lk_X7_init_41 : Cond.fieldLink RX7 41 (TX7 5).1 (TX7 5).2.1 (TX7 5).2.2.1 ∈ wsX7_init := List.mem_of_getElem? (i := 21) rfl
theorem lk_X7_init_45 : Cond.fieldLink RX7 45 (TX7 6).1 (TX7 6).2.1 (TX7 6).2.2.1 ∈ wsX7_init := List.mem_of_getElem? (i := 22) rfl
theorem lk_X7_init_48 : Cond.fieldLink RX7 48 (TX7 7).1 (TX7 7).2.1 (TX7 7).2.2.1 ∈ wsX7_init := List.mem_of_getElem? (i := 23) rfl
theorem lk_X7_init_51 : Cond.fieldLink RX7 51 (TX7 8).1 (TX7 8).2.1 (TX7 8).2.2.1 ∈ wsX7_init := List.mem_of_getElem? (i := 24) rfl
set_option maxHeartbeats 1000000 in
set_option maxRecDepth 100000 in
theorem c_X7_init (K : KT) (l : Launch) (a : Nat) : Mt K l yX7_init wsX7_init ({ frames := 3, cells := 102, slots := 3573, locals := 53 }) [vP a] [[(a, cO 4 [vN, vN, vN, vN, vJ 0, vI 0, vI 0, vI 0, vI 0])]] 102 3573 (fun v w => ∃ ax ab ap al ao : Nat → Nat, ∃ ak : Int → Nat → Nat, v = none ∧ ax 0 = a ∧ w = [boW ax ab ap al ao (0, 0, 0, 0, 0), bkW ab (z0, z0, z0, z0, z0, z0, 0, 0, 0, 100), paW ap ak (0, 0), kbW ak (fun _ => B0), liW al (z0, z0, 0), odW ao (z0, z0, z0, z0, z0, 0, 0, 0, -1)]) := by
  refine Mt.of (own := RX7) (cc := cX7_init) (maxL := 1) (ret := none) (lv0 := [(0, vP a)]) (by decide) rfl rfl (Nat.le_of_ble_eq_true rfl) rfl (fun X C hR hNm => ?_)
  refine i_aload_n (j := 0) (q := 1) C rfl rfl dX7_init_0 rfl ?_
  refine i_objInit (q := 4) C (List.mem_of_getElem? (i := 1) rfl) (List.mem_of_getElem? (i := 2) rfl) (List.mem_of_getElem? (i := 3) rfl) rfl ⟨Nat.le_of_ble_eq_true rfl, Nat.le_of_ble_eq_true rfl⟩ dX7_init_1 rfl ?_
  refine i_aload_n (j := 0) (q := 5) C rfl rfl dX7_init_4 rfl ?_
  refine i_new (ci := 0) (fs := [vN, vN, vN, vN, vN, vN, vI 0, vI 0, vI 0, vI 0]) (q := 8) C rfl hi_X7_init_X0 tyX0 tyX0_ok (List.mem_of_getElem? (i := 4) rfl) (List.mem_of_getElem? (i := 5) rfl) (List.mem_of_getElem? (i := 6) rfl) df_X0 ⟨Nat.le_of_ble_eq_true rfl, Nat.le_of_ble_eq_true rfl⟩ dX7_init_5 rfl (fun c1 => ?_)
  show V X 1 10 8 [(0, vP a)] [vP c1, vP a] [[(a, cO 4 [vN, vN, vN, vN, vJ 0, vI 0, vI 0, vI 0, vI 0])], [(c1, cO 0 [vN, vN, vN, vN, vN, vN, vI 0, vI 0, vI 0, vI 0])]]
  refine i_dup (q := 9) C rfl dX7_init_8 rfl ?_
  refine i_callIN (host := RX7) (wr := [[(a, cO 4 [vN, vN, vN, vN, vJ 0, vI 0, vI 0, vI 0, vI 0])]]) (As := []) (st := [vP c1, vP a]) (q := 12) C (c_X0_init K l c1) gX7_init_X0_init_n9 rfl (by decide) (List.mem_of_getElem? (i := 25) rfl) (List.mem_of_getElem? (i := 6) rfl) hd_X0_init ⟨Nat.le_of_ble_eq_true rfl, Nat.le_of_ble_eq_true rfl⟩ ⟨rfl, rfl⟩ ⟨Nat.le_of_ble_eq_true rfl, Nat.le_of_ble_eq_true rfl⟩ (permBy [1, 0] (by decide) rfl rfl) rfl (Nat.le_of_ble_eq_true rfl) dX7_init_9 rfl (fun v w hq => ?_)
  obtain ⟨q2, rfl, rfl, rfl⟩ := hq
  show V X 7 250 12 [(0, vP a)] [vP (q2 0), vP a] [bkW q2 (z0, z0, z0, z0, z0, z0, 0, 0, 0, 100), [(a, cO 4 [vN, vN, vN, vN, vJ 0, vI 0, vI 0, vI 0, vI 0])]]
  refine V.perm (cs' := [[(a, cO 4 [vN, vN, vN, vN, vJ 0, vI 0, vI 0, vI 0, vI 0])], bkW q2 (z0, z0, z0, z0, z0, z0, 0, 0, 0, 100)]) (permBy [1, 0] (by decide) rfl rfl) ?_
  refine i_putFP (i := 0) (j := 0) (f := 0) (q := 15) (cs' := [[(a, cO 4 [vP (q2 0), vN, vN, vN, vJ 0, vI 0, vI 0, vI 0, vI 0])], bkW q2 (z0, z0, z0, z0, z0, z0, 0, 0, 0, 100)]) hNm C rfl rfl rfl hi_X7_init_X7 tyX7 tyX7_ok nmX7 (by decide) (Nat.le_of_ble_eq_true rfl) lk_X7_init_10 rfl rfl (Or.inl ⟨_, rfl⟩) dX7_init_12 rfl rfl ?_
  refine i_aload_n (j := 0) (q := 16) C rfl rfl dX7_init_15 rfl ?_
  refine i_new (ci := 3) (fs := [vN, vI 0, vI 0]) (q := 19) C rfl hi_X7_init_X4 tyX4 tyX4_ok (List.mem_of_getElem? (i := 8) rfl) (List.mem_of_getElem? (i := 9) rfl) (List.mem_of_getElem? (i := 10) rfl) df_X4 ⟨Nat.le_of_ble_eq_true rfl, Nat.le_of_ble_eq_true rfl⟩ dX7_init_16 rfl (fun c3 => ?_)
  show V X 8 253 19 [(0, vP a)] [vP c3, vP a] [[(a, cO 4 [vP (q2 0), vN, vN, vN, vJ 0, vI 0, vI 0, vI 0, vI 0])], bkW q2 (z0, z0, z0, z0, z0, z0, 0, 0, 0, 100), [(c3, cO 3 [vN, vI 0, vI 0])]]
  refine i_dup (q := 20) C rfl dX7_init_19 rfl ?_
  refine i_callI (wr := [[(a, cO 4 [vP (q2 0), vN, vN, vN, vJ 0, vI 0, vI 0, vI 0, vI 0])], bkW q2 (z0, z0, z0, z0, z0, z0, 0, 0, 0, 100)]) (As := []) (st := [vP c3, vP a]) (q := 23) C (c_X4_init K l c3) gX7_init_X4_init rfl (List.mem_of_getElem? (i := 40) rfl) (List.mem_of_getElem? (i := 41) rfl) (List.mem_of_getElem? (i := 10) rfl) hd_X4_init ⟨Nat.le_of_ble_eq_true rfl, Nat.le_of_ble_eq_true rfl⟩ ⟨rfl, rfl⟩ ⟨Nat.le_of_ble_eq_true rfl, Nat.le_of_ble_eq_true rfl⟩ (permBy [2, 0, 1] (by decide) rfl rfl) rfl (Nat.le_of_ble_eq_true rfl) dX7_init_20 rfl (fun v w hq => ?_)
  obtain ⟨q4, k5, rfl, rfl, rfl⟩ := hq
  show V X 93 3265 23 [(0, vP a)] [vP (q4 0), vP a] [paW q4 k5 (0, 0), kbW k5 (fun _ => B0), [(a, cO 4 [vP (q2 0), vN, vN, vN, vJ 0, vI 0, vI 0, vI 0, vI 0])], bkW q2 (z0, z0, z0, z0, z0, z0, 0, 0, 0, 100)]
  refine V.perm (cs' := [[(a, cO 4 [vP (q2 0), vN, vN, vN, vJ 0, vI 0, vI 0, vI 0, vI 0])], bkW q2 (z0, z0, z0, z0, z0, z0, 0, 0, 0, 100), paW q4 k5 (0, 0), kbW k5 (fun _ => B0)]) (permBy [2, 3, 0, 1] (by decide) rfl rfl) ?_
  refine i_putFP (i := 0) (j := 0) (f := 1) (q := 26) (cs' := [[(a, cO 4 [vP (q2 0), vP (q4 0), vN, vN, vJ 0, vI 0, vI 0, vI 0, vI 0])], bkW q2 (z0, z0, z0, z0, z0, z0, 0, 0, 0, 100), paW q4 k5 (0, 0), kbW k5 (fun _ => B0)]) hNm C rfl rfl rfl hi_X7_init_X7 tyX7 tyX7_ok nmX7 (by decide) (Nat.le_of_ble_eq_true rfl) lk_X7_init_19 rfl rfl (Or.inl ⟨_, rfl⟩) dX7_init_23 rfl rfl ?_
  refine i_aload_n (j := 0) (q := 27) C rfl rfl dX7_init_26 rfl ?_
  refine i_new (ci := 1) (fs := [vN, vN, vI 0]) (q := 30) C rfl hi_X7_init_X2 tyX2 tyX2_ok (List.mem_of_getElem? (i := 12) rfl) (List.mem_of_getElem? (i := 13) rfl) (List.mem_of_getElem? (i := 14) rfl) df_X2 ⟨Nat.le_of_ble_eq_true rfl, Nat.le_of_ble_eq_true rfl⟩ dX7_init_27 rfl (fun c6 => ?_)
  show V X 94 3268 30 [(0, vP a)] [vP c6, vP a] [[(a, cO 4 [vP (q2 0), vP (q4 0), vN, vN, vJ 0, vI 0, vI 0, vI 0, vI 0])], bkW q2 (z0, z0, z0, z0, z0, z0, 0, 0, 0, 100), paW q4 k5 (0, 0), kbW k5 (fun _ => B0), [(c6, cO 1 [vN, vN, vI 0])]]
  refine i_dup (q := 31) C rfl dX7_init_30 rfl ?_
  refine i_callIN (host := RX7) (wr := [[(a, cO 4 [vP (q2 0), vP (q4 0), vN, vN, vJ 0, vI 0, vI 0, vI 0, vI 0])], bkW q2 (z0, z0, z0, z0, z0, z0, 0, 0, 0, 100), paW q4 k5 (0, 0), kbW k5 (fun _ => B0)]) (As := []) (st := [vP c6, vP a]) (q := 34) C (c_X2_init K l c6) gX7_init_X2_init_n25 rfl (by decide) (List.mem_of_getElem? (i := 48) rfl) (List.mem_of_getElem? (i := 14) rfl) hd_X2_init ⟨Nat.le_of_ble_eq_true rfl, Nat.le_of_ble_eq_true rfl⟩ ⟨rfl, rfl⟩ ⟨Nat.le_of_ble_eq_true rfl, Nat.le_of_ble_eq_true rfl⟩ (permBy [4, 0, 1, 2, 3] (by decide) rfl rfl) rfl (Nat.le_of_ble_eq_true rfl) dX7_init_31 rfl (fun v w hq => ?_)
  obtain ⟨q7, rfl, rfl, rfl⟩ := hq
  show V X 96 3348 34 [(0, vP a)] [vP (q7 0), vP a] [liW q7 (z0, z0, 0), [(a, cO 4 [vP (q2 0), vP (q4 0), vN, vN, vJ 0, vI 0, vI 0, vI 0, vI 0])], bkW q2 (z0, z0, z0, z0, z0, z0, 0, 0, 0, 100), paW q4 k5 (0, 0), kbW k5 (fun _ => B0)]
  refine V.perm (cs' := [[(a, cO 4 [vP (q2 0), vP (q4 0), vN, vN, vJ 0, vI 0, vI 0, vI 0, vI 0])], bkW q2 (z0, z0, z0, z0, z0, z0, 0, 0, 0, 100), paW q4 k5 (0, 0), kbW k5 (fun _ => B0), liW q7 (z0, z0, 0)]) (permBy [1, 2, 3, 4, 0] (by decide) rfl rfl) ?_
  refine i_putFP (i := 0) (j := 0) (f := 2) (q := 37) (cs' := [[(a, cO 4 [vP (q2 0), vP (q4 0), vP (q7 0), vN, vJ 0, vI 0, vI 0, vI 0, vI 0])], bkW q2 (z0, z0, z0, z0, z0, z0, 0, 0, 0, 100), paW q4 k5 (0, 0), kbW k5 (fun _ => B0), liW q7 (z0, z0, 0)]) hNm C rfl rfl rfl hi_X7_init_X7 tyX7 tyX7_ok nmX7 (by decide) (Nat.le_of_ble_eq_true rfl) lk_X7_init_26 rfl rfl (Or.inl ⟨_, rfl⟩) dX7_init_34 rfl rfl ?_
  refine i_aload_n (j := 0) (q := 38) C rfl rfl dX7_init_37 rfl ?_
  refine i_new (ci := 2) (fs := [vN, vI 0, vN, vN, vN, vN, vI 0, vI 0, vI 0]) (q := 41) C rfl hi_X7_init_X3 tyX3 tyX3_ok (List.mem_of_getElem? (i := 16) rfl) (List.mem_of_getElem? (i := 17) rfl) (List.mem_of_getElem? (i := 18) rfl) df_X3 ⟨Nat.le_of_ble_eq_true rfl, Nat.le_of_ble_eq_true rfl⟩ dX7_init_38 rfl (fun c8 => ?_)
  show V X 97 3357 41 [(0, vP a)] [vP c8, vP a] [[(a, cO 4 [vP (q2 0), vP (q4 0), vP (q7 0), vN, vJ 0, vI 0, vI 0, vI 0, vI 0])], bkW q2 (z0, z0, z0, z0, z0, z0, 0, 0, 0, 100), paW q4 k5 (0, 0), kbW k5 (fun _ => B0), liW q7 (z0, z0, 0), [(c8, cO 2 [vN, vI 0, vN, vN, vN, vN, vI 0, vI 0, vI 0])]]
  refine i_dup (q := 42) C rfl dX7_init_41 rfl ?_
  refine i_callIN (host := RX7) (wr := [[(a, cO 4 [vP (q2 0), vP (q4 0), vP (q7 0), vN, vJ 0, vI 0, vI 0, vI 0, vI 0])], bkW q2 (z0, z0, z0, z0, z0, z0, 0, 0, 0, 100), paW q4 k5 (0, 0), kbW k5 (fun _ => B0), liW q7 (z0, z0, 0)]) (As := []) (st := [vP c8, vP a]) (q := 45) C (c_X3_init K l c8) gX7_init_X3_init_n32 rfl (by decide) (List.mem_of_getElem? (i := 54) rfl) (List.mem_of_getElem? (i := 18) rfl) hd_X3_init ⟨Nat.le_of_ble_eq_true rfl, Nat.le_of_ble_eq_true rfl⟩ ⟨rfl, rfl⟩ ⟨Nat.le_of_ble_eq_true rfl, Nat.le_of_ble_eq_true rfl⟩ (permBy [5, 0, 1, 2, 3, 4] (by decide) rfl rfl) rfl (Nat.le_of_ble_eq_true rfl) dX7_init_42 rfl (fun v w hq => ?_)
  obtain ⟨q9, rfl, rfl, rfl⟩ := hq
  show V X 102 3573 45 [(0, vP a)] [vP (q9 0), vP a] [odW q9 (z0, z0, z0, z0, z0, 0, 0, 0, -1), [(a, cO 4 [vP (q2 0), vP (q4 0), vP (q7 0), vN, vJ 0, vI 0, vI 0, vI 0, vI 0])], bkW q2 (z0, z0, z0, z0, z0, z0, 0, 0, 0, 100), paW q4 k5 (0, 0), kbW k5 (fun _ => B0), liW q7 (z0, z0, 0)]
  refine V.perm (cs' := [[(a, cO 4 [vP (q2 0), vP (q4 0), vP (q7 0), vN, vJ 0, vI 0, vI 0, vI 0, vI 0])], bkW q2 (z0, z0, z0, z0, z0, z0, 0, 0, 0, 100), paW q4 k5 (0, 0), kbW k5 (fun _ => B0), liW q7 (z0, z0, 0), odW q9 (z0, z0, z0, z0, z0, 0, 0, 0, -1)]) (permBy [1, 2, 3, 4, 5, 0] (by decide) rfl rfl) ?_
  refine i_putFP (i := 0) (j := 0) (f := 3) (q := 48) (cs' := [[(a, cO 4 [vP (q2 0), vP (q4 0), vP (q7 0), vP (q9 0), vJ 0, vI 0, vI 0, vI 0, vI 0])], bkW q2 (z0, z0, z0, z0, z0, z0, 0, 0, 0, 100), paW q4 k5 (0, 0), kbW k5 (fun _ => B0), liW q7 (z0, z0, 0), odW q9 (z0, z0, z0, z0, z0, 0, 0, 0, -1)]) hNm C rfl rfl rfl hi_X7_init_X7 tyX7 tyX7_ok nmX7 (by decide) (Nat.le_of_ble_eq_true rfl) lk_X7_init_33 rfl rfl (Or.inl ⟨_, rfl⟩) dX7_init_45 rfl rfl ?_
  refine i_aload_n (j := 0) (q := 49) C rfl rfl dX7_init_48 rfl ?_
  refine i_lconst (z := 0) (q := 50) C (by decide) dX7_init_49 rfl ?_
  refine i_putJ (i := 0) (j := 0) (f := 4) (q := 53) (cs' := [[(a, cO 4 [vP (q2 0), vP (q4 0), vP (q7 0), vP (q9 0), vJ 0, vI 0, vI 0, vI 0, vI 0])], bkW q2 (z0, z0, z0, z0, z0, z0, 0, 0, 0, 100), paW q4 k5 (0, 0), kbW k5 (fun _ => B0), liW q7 (z0, z0, 0), odW q9 (z0, z0, z0, z0, z0, 0, 0, 0, -1)]) C rfl rfl rfl hi_X7_init_X7 tyX7 tyX7_ok nmX7 (by decide) (Nat.le_of_ble_eq_true rfl) lk_X7_init_37 rfl rfl dX7_init_50 rfl rfl ?_
  refine i_aload_n (j := 0) (q := 54) C rfl rfl dX7_init_53 rfl ?_
  refine i_iconst (q := 55) C dX7_init_54 rfl ?_
  refine i_putI (i := 0) (j := 0) (f := 5) (q := 58) (cs' := [[(a, cO 4 [vP (q2 0), vP (q4 0), vP (q7 0), vP (q9 0), vJ 0, vI 0, vI 0, vI 0, vI 0])], bkW q2 (z0, z0, z0, z0, z0, z0, 0, 0, 0, 100), paW q4 k5 (0, 0), kbW k5 (fun _ => B0), liW q7 (z0, z0, 0), odW q9 (z0, z0, z0, z0, z0, 0, 0, 0, -1)]) C rfl rfl rfl hi_X7_init_X7 tyX7 tyX7_ok nmX7 (by decide) (Nat.le_of_ble_eq_true rfl) lk_X7_init_41 rfl rfl dX7_init_55 rfl rfl ?_
  refine i_aload_n (j := 0) (q := 59) C rfl rfl dX7_init_58 rfl ?_
  refine i_iconst (q := 60) C dX7_init_59 rfl ?_
  refine i_putI (i := 0) (j := 0) (f := 6) (q := 63) (cs' := [[(a, cO 4 [vP (q2 0), vP (q4 0), vP (q7 0), vP (q9 0), vJ 0, vI 0, vI 0, vI 0, vI 0])], bkW q2 (z0, z0, z0, z0, z0, z0, 0, 0, 0, 100), paW q4 k5 (0, 0), kbW k5 (fun _ => B0), liW q7 (z0, z0, 0), odW q9 (z0, z0, z0, z0, z0, 0, 0, 0, -1)]) C rfl rfl rfl hi_X7_init_X7 tyX7 tyX7_ok nmX7 (by decide) (Nat.le_of_ble_eq_true rfl) lk_X7_init_45 rfl rfl dX7_init_60 rfl rfl ?_
  refine i_aload_n (j := 0) (q := 64) C rfl rfl dX7_init_63 rfl ?_
  refine i_iconst (q := 65) C dX7_init_64 rfl ?_
  refine i_putI (i := 0) (j := 0) (f := 7) (q := 68) (cs' := [[(a, cO 4 [vP (q2 0), vP (q4 0), vP (q7 0), vP (q9 0), vJ 0, vI 0, vI 0, vI 0, vI 0])], bkW q2 (z0, z0, z0, z0, z0, z0, 0, 0, 0, 100), paW q4 k5 (0, 0), kbW k5 (fun _ => B0), liW q7 (z0, z0, 0), odW q9 (z0, z0, z0, z0, z0, 0, 0, 0, -1)]) C rfl rfl rfl hi_X7_init_X7 tyX7 tyX7_ok nmX7 (by decide) (Nat.le_of_ble_eq_true rfl) lk_X7_init_48 rfl rfl dX7_init_65 rfl rfl ?_
  refine i_aload_n (j := 0) (q := 69) C rfl rfl dX7_init_68 rfl ?_
  refine i_iconst (q := 70) C dX7_init_69 rfl ?_
  refine i_putI (i := 0) (j := 0) (f := 8) (q := 73) (cs' := [[(a, cO 4 [vP (q2 0), vP (q4 0), vP (q7 0), vP (q9 0), vJ 0, vI 0, vI 0, vI 0, vI 0])], bkW q2 (z0, z0, z0, z0, z0, z0, 0, 0, 0, 100), paW q4 k5 (0, 0), kbW k5 (fun _ => B0), liW q7 (z0, z0, 0), odW q9 (z0, z0, z0, z0, z0, 0, 0, 0, -1)]) C rfl rfl rfl hi_X7_init_X7 tyX7 tyX7_ok nmX7 (by decide) (Nat.le_of_ble_eq_true rfl) lk_X7_init_51 rfl rfl dX7_init_70 rfl rfl ?_
  refine V.permF (cs' := [boW (fun _ => a) q2 q4 q7 q9 (0, 0, 0, 0, 0), bkW q2 (z0, z0, z0, z0, z0, z0, 0, 0, 0, 100), paW q4 k5 (0, 0), kbW k5 (fun _ => B0), liW q7 (z0, z0, 0), odW q9 (z0, z0, z0, z0, z0, 0, 0, 0, -1)]) (List.Perm.of_eq rfl) ?_
  refine i_vret C hR dX7_init_73 ?_
  exact ⟨_, _, _, _, _, _, rfl, rfl, rfl⟩

theorem lk_X8_init_7 : Cond.fieldLink RX8 7 (TX8 0).1 (TX8 0).2.1 (TX8 0).2.2.1 ∈ wsX8_init := List.mem_of_getElem? (i := 5) rfl
theorem hi_X8_init_X8 : ∀ w ∈ u_ws RX8 TX8 18, w ∈ wsX8_init := by decide +kernel
theorem lk_X8_init_14 : Cond.fieldLink RX8 14 (TX8 1).1 (TX8 1).2.1 (TX8 1).2.2.1 ∈ wsX8_init := List.mem_of_getElem? (i := 7) rfl
theorem lk_X8_init_17 : Cond.fieldLink RX8 17 (TX8 4).1 (TX8 4).2.1 (TX8 4).2.2.1 ∈ wsX8_init := List.mem_of_getElem? (i := 8) rfl
theorem lk_X8_init_20 : Cond.fieldLink RX8 20 (TX8 6).1 (TX8 6).2.1 (TX8 6).2.2.1 ∈ wsX8_init := List.mem_of_getElem? (i := 9) rfl
theorem lk_X8_init_23 : Cond.fieldLink RX8 23 (TX8 8).1 (TX8 8).2.1 (TX8 8).2.2.1 ∈ wsX8_init := List.mem_of_getElem? (i := 10) rfl
theorem lk_X8_init_26 : Cond.fieldLink RX8 26 (TX8 10).1 (TX8 10).2.1 (TX8 10).2.2.1 ∈ wsX8_init := List.mem_of_getElem? (i := 11) rfl
theorem lk_X8_init_29 : Cond.fieldLink RX8 29 (TX8 11).1 (TX8 11).2.1 (TX8 11).2.2.1 ∈ wsX8_init := List.mem_of_getElem? (i := 12) rfl
theorem lk_X8_init_32 : Cond.fieldLink RX8 32 (TX8 14).1 (TX8 14).2.1 (TX8 14).2.2.1 ∈ wsX8_init := List.mem_of_getElem? (i := 13) rfl
theorem lk_X8_init_35 : Cond.fieldLink RX8 35 (TX8 16).1 (TX8 16).2.1 (TX8 16).2.2.1 ∈ wsX8_init := List.mem_of_getElem? (i := 14) rfl
theorem hd_X8_start : yX8_start.cls = RX8 ∧ yX8_start.cls ≠ "java/lang/invoke/MethodHandle" ∧ yX8_start.cls ≠ "java/lang/invoke/VarHandle" ∧ (parseMethodDescriptor yX8_start.desc).map (fun d => d.parameters.length) = some 0 := by decide +kernel
set_option maxHeartbeats 1000000 in
set_option maxRecDepth 100000 in
theorem c_X8_init (K : KT) (l : Launch) (a : Nat) : Mt K l yX8_init wsX8_init ({ frames := 1, cells := 9, slots := 37270, locals := 21 }) [vP a] [[(a, cO 5 [vN, vN, vI 0, vI 0, vN, vI 0, vN, vI 0, vN, vJ 0, vN, vN, vI 0, vI 0, vN, vI 0, vN, vI 0])]] 9 37270 (fun v w => ∃ am : Nat → Nat, ∃ st3 rf3 : Int → Int, v = none ∧ am 0 = a ∧ w = [mdW am (st3, z0, 0, 0, z0, 0, z0, 0, rf3, 0, z0, z0, 0, 0, z0, 0, z0, 0)] ∧ (∀ k, 0 ≤ k → k < 2803 → k ≠ 2802 → st3 k = 0) ∧ (st3 2802 = 100) ∧ (rf3 0 = 0 ∧ rf3 1 = 0 ∧ rf3 2 = 0)) := by
  refine Mt.of (own := RX8) (cc := cX8_init) (maxL := 1) (ret := none) (lv0 := [(0, vP a)]) (by decide) rfl rfl (Nat.le_of_ble_eq_true rfl) rfl (fun X C hR hNm => ?_)
  refine i_aload_n (j := 0) (q := 1) C rfl rfl dX8_init_0 rfl ?_
  refine i_objInit (q := 4) C (List.mem_of_getElem? (i := 1) rfl) (List.mem_of_getElem? (i := 2) rfl) (List.mem_of_getElem? (i := 3) rfl) rfl ⟨Nat.le_of_ble_eq_true rfl, Nat.le_of_ble_eq_true rfl⟩ dX8_init_1 rfl ?_
  refine i_aload_n (j := 0) (q := 5) C rfl rfl dX8_init_4 rfl ?_
  refine i_sipush (q := 8) C (by decide) dX8_init_5 rfl ?_
  refine i_newI (N := 2803) (q := 10) C (List.mem_of_getElem? (i := 4) rfl) (by decide) (by decide) ⟨Nat.le_of_ble_eq_true rfl, Nat.le_of_ble_eq_true rfl⟩ dX8_init_8 rfl (fun b1 => ?_)
  show V X 1 2803 10 [(0, vP a)] [vP b1, vP a] [[(a, cO 5 [vN, vN, vI 0, vI 0, vN, vI 0, vN, vI 0, vN, vJ 0, vN, vN, vI 0, vI 0, vN, vI 0, vN, vI 0])], [(b1, cA 2803 z0)]]
  refine i_putFP (i := 0) (j := 0) (f := 0) (q := 13) (cs' := [[(a, cO 5 [vP b1, vN, vI 0, vI 0, vN, vI 0, vN, vI 0, vN, vJ 0, vN, vN, vI 0, vI 0, vN, vI 0, vN, vI 0])], [(b1, cA 2803 z0)]]) hNm C rfl rfl rfl hi_X8_init_X8 tyX8 tyX8_ok nmX8 (by decide) (Nat.le_of_ble_eq_true rfl) lk_X8_init_7 rfl rfl (Or.inr ⟨_, rfl⟩) dX8_init_10 rfl rfl ?_
  refine i_aload_n (j := 0) (q := 14) C rfl rfl dX8_init_13 rfl ?_
  refine i_ldc (z := 33636) (q := 16) C (List.mem_of_getElem? (i := 6) rfl) dX8_init_14 rfl ?_
  refine i_newI (N := 33636) (q := 18) C (List.mem_of_getElem? (i := 4) rfl) (by decide) (by decide) ⟨Nat.le_of_ble_eq_true rfl, Nat.le_of_ble_eq_true rfl⟩ dX8_init_16 rfl (fun b2 => ?_)
  show V X 2 36439 18 [(0, vP a)] [vP b2, vP a] [[(a, cO 5 [vP b1, vN, vI 0, vI 0, vN, vI 0, vN, vI 0, vN, vJ 0, vN, vN, vI 0, vI 0, vN, vI 0, vN, vI 0])], [(b1, cA 2803 z0)], [(b2, cA 33636 z0)]]
  refine i_putFP (i := 0) (j := 0) (f := 1) (q := 21) (cs' := [[(a, cO 5 [vP b1, vP b2, vI 0, vI 0, vN, vI 0, vN, vI 0, vN, vJ 0, vN, vN, vI 0, vI 0, vN, vI 0, vN, vI 0])], [(b1, cA 2803 z0)], [(b2, cA 33636 z0)]]) hNm C rfl rfl rfl hi_X8_init_X8 tyX8 tyX8_ok nmX8 (by decide) (Nat.le_of_ble_eq_true rfl) lk_X8_init_14 rfl rfl (Or.inr ⟨_, rfl⟩) dX8_init_18 rfl rfl ?_
  refine i_aload_n (j := 0) (q := 22) C rfl rfl dX8_init_21 rfl ?_
  refine i_bipush (q := 24) C (by decide) dX8_init_22 rfl ?_
  refine i_newI (N := 12) (q := 26) C (List.mem_of_getElem? (i := 4) rfl) (by decide) (by decide) ⟨Nat.le_of_ble_eq_true rfl, Nat.le_of_ble_eq_true rfl⟩ dX8_init_24 rfl (fun b3 => ?_)
  show V X 3 36451 26 [(0, vP a)] [vP b3, vP a] [[(a, cO 5 [vP b1, vP b2, vI 0, vI 0, vN, vI 0, vN, vI 0, vN, vJ 0, vN, vN, vI 0, vI 0, vN, vI 0, vN, vI 0])], [(b1, cA 2803 z0)], [(b2, cA 33636 z0)], [(b3, cA 12 z0)]]
  refine i_putFP (i := 0) (j := 0) (f := 4) (q := 29) (cs' := [[(a, cO 5 [vP b1, vP b2, vI 0, vI 0, vP b3, vI 0, vN, vI 0, vN, vJ 0, vN, vN, vI 0, vI 0, vN, vI 0, vN, vI 0])], [(b1, cA 2803 z0)], [(b2, cA 33636 z0)], [(b3, cA 12 z0)]]) hNm C rfl rfl rfl hi_X8_init_X8 tyX8 tyX8_ok nmX8 (by decide) (Nat.le_of_ble_eq_true rfl) lk_X8_init_17 rfl rfl (Or.inr ⟨_, rfl⟩) dX8_init_26 rfl rfl ?_
  refine i_aload_n (j := 0) (q := 30) C rfl rfl dX8_init_29 rfl ?_
  refine i_bipush (q := 32) C (by decide) dX8_init_30 rfl ?_
  refine i_newI (N := 120) (q := 34) C (List.mem_of_getElem? (i := 4) rfl) (by decide) (by decide) ⟨Nat.le_of_ble_eq_true rfl, Nat.le_of_ble_eq_true rfl⟩ dX8_init_32 rfl (fun b4 => ?_)
  show V X 4 36571 34 [(0, vP a)] [vP b4, vP a] [[(a, cO 5 [vP b1, vP b2, vI 0, vI 0, vP b3, vI 0, vN, vI 0, vN, vJ 0, vN, vN, vI 0, vI 0, vN, vI 0, vN, vI 0])], [(b1, cA 2803 z0)], [(b2, cA 33636 z0)], [(b3, cA 12 z0)], [(b4, cA 120 z0)]]
  refine i_putFP (i := 0) (j := 0) (f := 6) (q := 37) (cs' := [[(a, cO 5 [vP b1, vP b2, vI 0, vI 0, vP b3, vI 0, vP b4, vI 0, vN, vJ 0, vN, vN, vI 0, vI 0, vN, vI 0, vN, vI 0])], [(b1, cA 2803 z0)], [(b2, cA 33636 z0)], [(b3, cA 12 z0)], [(b4, cA 120 z0)]]) hNm C rfl rfl rfl hi_X8_init_X8 tyX8 tyX8_ok nmX8 (by decide) (Nat.le_of_ble_eq_true rfl) lk_X8_init_20 rfl rfl (Or.inr ⟨_, rfl⟩) dX8_init_34 rfl rfl ?_
  refine i_aload_n (j := 0) (q := 38) C rfl rfl dX8_init_37 rfl ?_
  refine i_iconst (q := 39) C dX8_init_38 rfl ?_
  refine i_newI (N := 3) (q := 41) C (List.mem_of_getElem? (i := 4) rfl) (by decide) (by decide) ⟨Nat.le_of_ble_eq_true rfl, Nat.le_of_ble_eq_true rfl⟩ dX8_init_39 rfl (fun b5 => ?_)
  show V X 5 36574 41 [(0, vP a)] [vP b5, vP a] [[(a, cO 5 [vP b1, vP b2, vI 0, vI 0, vP b3, vI 0, vP b4, vI 0, vN, vJ 0, vN, vN, vI 0, vI 0, vN, vI 0, vN, vI 0])], [(b1, cA 2803 z0)], [(b2, cA 33636 z0)], [(b3, cA 12 z0)], [(b4, cA 120 z0)], [(b5, cA 3 z0)]]
  refine i_putFP (i := 0) (j := 0) (f := 8) (q := 44) (cs' := [[(a, cO 5 [vP b1, vP b2, vI 0, vI 0, vP b3, vI 0, vP b4, vI 0, vP b5, vJ 0, vN, vN, vI 0, vI 0, vN, vI 0, vN, vI 0])], [(b1, cA 2803 z0)], [(b2, cA 33636 z0)], [(b3, cA 12 z0)], [(b4, cA 120 z0)], [(b5, cA 3 z0)]]) hNm C rfl rfl rfl hi_X8_init_X8 tyX8 tyX8_ok nmX8 (by decide) (Nat.le_of_ble_eq_true rfl) lk_X8_init_23 rfl rfl (Or.inr ⟨_, rfl⟩) dX8_init_41 rfl rfl ?_
  refine i_aload_n (j := 0) (q := 45) C rfl rfl dX8_init_44 rfl ?_
  refine i_bipush (q := 47) C (by decide) dX8_init_45 rfl ?_
  refine i_newI (N := 8) (q := 49) C (List.mem_of_getElem? (i := 4) rfl) (by decide) (by decide) ⟨Nat.le_of_ble_eq_true rfl, Nat.le_of_ble_eq_true rfl⟩ dX8_init_47 rfl (fun b6 => ?_)
  show V X 6 36582 49 [(0, vP a)] [vP b6, vP a] [[(a, cO 5 [vP b1, vP b2, vI 0, vI 0, vP b3, vI 0, vP b4, vI 0, vP b5, vJ 0, vN, vN, vI 0, vI 0, vN, vI 0, vN, vI 0])], [(b1, cA 2803 z0)], [(b2, cA 33636 z0)], [(b3, cA 12 z0)], [(b4, cA 120 z0)], [(b5, cA 3 z0)], [(b6, cA 8 z0)]]
  refine i_putFP (i := 0) (j := 0) (f := 10) (q := 52) (cs' := [[(a, cO 5 [vP b1, vP b2, vI 0, vI 0, vP b3, vI 0, vP b4, vI 0, vP b5, vJ 0, vP b6, vN, vI 0, vI 0, vN, vI 0, vN, vI 0])], [(b1, cA 2803 z0)], [(b2, cA 33636 z0)], [(b3, cA 12 z0)], [(b4, cA 120 z0)], [(b5, cA 3 z0)], [(b6, cA 8 z0)]]) hNm C rfl rfl rfl hi_X8_init_X8 tyX8 tyX8_ok nmX8 (by decide) (Nat.le_of_ble_eq_true rfl) lk_X8_init_26 rfl rfl (Or.inr ⟨_, rfl⟩) dX8_init_49 rfl rfl ?_
  refine i_aload_n (j := 0) (q := 53) C rfl rfl dX8_init_52 rfl ?_
  refine i_sipush (q := 56) C (by decide) dX8_init_53 rfl ?_
  refine i_newI (N := 200) (q := 58) C (List.mem_of_getElem? (i := 4) rfl) (by decide) (by decide) ⟨Nat.le_of_ble_eq_true rfl, Nat.le_of_ble_eq_true rfl⟩ dX8_init_56 rfl (fun b7 => ?_)
  show V X 7 36782 58 [(0, vP a)] [vP b7, vP a] [[(a, cO 5 [vP b1, vP b2, vI 0, vI 0, vP b3, vI 0, vP b4, vI 0, vP b5, vJ 0, vP b6, vN, vI 0, vI 0, vN, vI 0, vN, vI 0])], [(b1, cA 2803 z0)], [(b2, cA 33636 z0)], [(b3, cA 12 z0)], [(b4, cA 120 z0)], [(b5, cA 3 z0)], [(b6, cA 8 z0)], [(b7, cA 200 z0)]]
  refine i_putFP (i := 0) (j := 0) (f := 11) (q := 61) (cs' := [[(a, cO 5 [vP b1, vP b2, vI 0, vI 0, vP b3, vI 0, vP b4, vI 0, vP b5, vJ 0, vP b6, vP b7, vI 0, vI 0, vN, vI 0, vN, vI 0])], [(b1, cA 2803 z0)], [(b2, cA 33636 z0)], [(b3, cA 12 z0)], [(b4, cA 120 z0)], [(b5, cA 3 z0)], [(b6, cA 8 z0)], [(b7, cA 200 z0)]]) hNm C rfl rfl rfl hi_X8_init_X8 tyX8 tyX8_ok nmX8 (by decide) (Nat.le_of_ble_eq_true rfl) lk_X8_init_29 rfl rfl (Or.inr ⟨_, rfl⟩) dX8_init_58 rfl rfl ?_
  refine i_aload_n (j := 0) (q := 62) C rfl rfl dX8_init_61 rfl ?_
  refine i_bipush (q := 64) C (by decide) dX8_init_62 rfl ?_
  refine i_newI (N := 8) (q := 66) C (List.mem_of_getElem? (i := 4) rfl) (by decide) (by decide) ⟨Nat.le_of_ble_eq_true rfl, Nat.le_of_ble_eq_true rfl⟩ dX8_init_64 rfl (fun b8 => ?_)
  show V X 8 36790 66 [(0, vP a)] [vP b8, vP a] [[(a, cO 5 [vP b1, vP b2, vI 0, vI 0, vP b3, vI 0, vP b4, vI 0, vP b5, vJ 0, vP b6, vP b7, vI 0, vI 0, vN, vI 0, vN, vI 0])], [(b1, cA 2803 z0)], [(b2, cA 33636 z0)], [(b3, cA 12 z0)], [(b4, cA 120 z0)], [(b5, cA 3 z0)], [(b6, cA 8 z0)], [(b7, cA 200 z0)], [(b8, cA 8 z0)]]
  refine i_putFP (i := 0) (j := 0) (f := 14) (q := 69) (cs' := [[(a, cO 5 [vP b1, vP b2, vI 0, vI 0, vP b3, vI 0, vP b4, vI 0, vP b5, vJ 0, vP b6, vP b7, vI 0, vI 0, vP b8, vI 0, vN, vI 0])], [(b1, cA 2803 z0)], [(b2, cA 33636 z0)], [(b3, cA 12 z0)], [(b4, cA 120 z0)], [(b5, cA 3 z0)], [(b6, cA 8 z0)], [(b7, cA 200 z0)], [(b8, cA 8 z0)]]) hNm C rfl rfl rfl hi_X8_init_X8 tyX8 tyX8_ok nmX8 (by decide) (Nat.le_of_ble_eq_true rfl) lk_X8_init_32 rfl rfl (Or.inr ⟨_, rfl⟩) dX8_init_66 rfl rfl ?_
  refine i_aload_n (j := 0) (q := 70) C rfl rfl dX8_init_69 rfl ?_
  refine i_sipush (q := 73) C (by decide) dX8_init_70 rfl ?_
  refine i_newI (N := 480) (q := 75) C (List.mem_of_getElem? (i := 4) rfl) (by decide) (by decide) ⟨Nat.le_of_ble_eq_true rfl, Nat.le_of_ble_eq_true rfl⟩ dX8_init_73 rfl (fun b9 => ?_)
  show V X 9 37270 75 [(0, vP a)] [vP b9, vP a] [[(a, cO 5 [vP b1, vP b2, vI 0, vI 0, vP b3, vI 0, vP b4, vI 0, vP b5, vJ 0, vP b6, vP b7, vI 0, vI 0, vP b8, vI 0, vN, vI 0])], [(b1, cA 2803 z0)], [(b2, cA 33636 z0)], [(b3, cA 12 z0)], [(b4, cA 120 z0)], [(b5, cA 3 z0)], [(b6, cA 8 z0)], [(b7, cA 200 z0)], [(b8, cA 8 z0)], [(b9, cA 480 z0)]]
  refine i_putFP (i := 0) (j := 0) (f := 16) (q := 78) (cs' := [[(a, cO 5 [vP b1, vP b2, vI 0, vI 0, vP b3, vI 0, vP b4, vI 0, vP b5, vJ 0, vP b6, vP b7, vI 0, vI 0, vP b8, vI 0, vP b9, vI 0])], [(b1, cA 2803 z0)], [(b2, cA 33636 z0)], [(b3, cA 12 z0)], [(b4, cA 120 z0)], [(b5, cA 3 z0)], [(b6, cA 8 z0)], [(b7, cA 200 z0)], [(b8, cA 8 z0)], [(b9, cA 480 z0)]]) hNm C rfl rfl rfl hi_X8_init_X8 tyX8 tyX8_ok nmX8 (by decide) (Nat.le_of_ble_eq_true rfl) lk_X8_init_35 rfl rfl (Or.inr ⟨_, rfl⟩) dX8_init_75 rfl rfl ?_
  refine V.permF (cs' := [mdW (fun k => ([a, b1, b2, b3, b4, b5, b6, b7, b8, b9] : List Nat).getD k 0) (z0, z0, 0, 0, z0, 0, z0, 0, z0, 0, z0, z0, 0, 0, z0, 0, z0, 0)]) (List.Perm.of_eq rfl) ?_
  refine i_aload_n (j := 0) (q := 79) C rfl rfl dX8_init_78 rfl ?_
  refine i_callV (wr := []) (As := []) (st := []) (i := 0) (j := 0) (q := 82) C (c_X8_start K l (fun k => ([a, b1, b2, b3, b4, b5, b6, b7, b8, b9] : List Nat).getD k 0) z0 z0 0 0 z0 0 z0 0 z0 0 z0 z0 0 0 z0 0 z0 0) gX8_init_X8_start rfl hd_X8_start ⟨Nat.le_of_ble_eq_true rfl, Nat.le_of_ble_eq_true rfl⟩ ⟨rfl, rfl⟩ ⟨Nat.le_of_ble_eq_true rfl, Nat.le_of_ble_eq_true rfl⟩ (permBy [0] (by decide) rfl rfl) rfl rfl rfl rfl (Nat.le_of_ble_eq_true rfl) dX8_init_79 rfl (fun v w hq => ?_)
  obtain ⟨st3, rf3, rfl, rfl, h1, h2, h3⟩ := hq
  show V X 9 37270 82 [(0, vP a)] [vI 1] [mdW (fun k => ([a, b1, b2, b3, b4, b5, b6, b7, b8, b9] : List Nat).getD k 0) (st3, z0, 0, 0, z0, 0, z0, 0, rf3, 0, z0, z0, 0, 0, z0, 0, z0, 0)]
  refine i_pop (q := 83) C rfl dX8_init_82 rfl ?_
  refine i_vret C hR dX8_init_83 ?_
  exact ⟨_, st3, rf3, rfl, rfl, rfl, h1, h2, h3⟩
