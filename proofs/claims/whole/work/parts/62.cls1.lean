set_option maxHeartbeats 400000 in
set_option maxRecDepth 100000 in
theorem c_X1_next (K : KT) (l : Launch) (x : Int) (hx : 0 ≤ x ∧ x < 2147483648) : Mt K l yX1_next wsX1_next ({ frames := 0, cells := 0, slots := 0, locals := 0 }) [vJ x] [] 0 0 (fun v w => v = some (vJ (nxt x)) ∧ w = []) := by
  refine Mt.of (own := RX1) (cc := cX1_next) (maxL := 2) (ret := (some .long)) (lv0 := [(0, vJ x)]) (by decide) rfl rfl (Nat.le_of_ble_eq_true rfl) rfl (fun X C hR hNm => ?_)
  refine i_lload_n (j := 0) (q := 1) C rfl rfl dX1_next_0 rfl ?_
  refine i_ldc2 (z := 1103515245) (q := 4) C (List.mem_of_getElem? (i := 1) rfl) dX1_next_1 rfl ?_
  refine i_lmul (q := 5) C dX1_next_4 rfl ?_
  refine i_ldc2 (z := 12345) (q := 8) C (List.mem_of_getElem? (i := 2) rfl) dX1_next_5 rfl ?_
  refine i_ladd (q := 9) C dX1_next_8 rfl ?_
  refine i_ldc2 (z := 2147483648) (q := 12) C (List.mem_of_getElem? (i := 3) rfl) dX1_next_9 rfl ?_
  refine i_lrem (q := 13) C (by omega) dX1_next_12 rfl ?_
  refine i_lret C hR dX1_next_13 ?_
  exact ⟨rfl, rfl⟩

set_option maxHeartbeats 400000 in
set_option maxRecDepth 100000 in
theorem c_X1_upper (K : KT) (l : Launch) (x : Int) (y : Int) (hx : 0 ≤ x ∧ x < 2147483648) (hy : 0 < y ∧ y ≤ 10000) : Mt K l yX1_upper wsX1_upper ({ frames := 0, cells := 0, slots := 0, locals := 0 }) [vJ x, vI y] [] 0 0 (fun v w => v = some (vI (x / 65536 % y)) ∧ w = []) := by
  refine Mt.of (own := RX1) (cc := cX1_upper) (maxL := 3) (ret := (some .int)) (lv0 := [(0, vJ x), (2, vI y)]) (by decide) rfl rfl (Nat.le_of_ble_eq_true rfl) rfl (fun X C hR hNm => ?_)
  refine i_iload_n (j := 1) (q := 1) C rfl rfl dX1_upper_0 rfl ?_
  refine i_if_le (tgt := 16) (q := 4) C (by omega) dX1_upper_1 (by decide) rfl (fun c_1 => ?_) (fun c_1 => ?_)
  · skip
    exact absurd c_1 (by omega)
  · skip
    refine i_lload_n (j := 0) (q := 5) C rfl rfl dX1_upper_4 rfl ?_
    refine i_ldc2 (z := 65536) (q := 8) C (List.mem_of_getElem? (i := 1) rfl) dX1_upper_5 rfl ?_
    refine i_ldiv (q := 9) C (by omega) dX1_upper_8 rfl ?_
    refine i_iload_n (j := 1) (q := 10) C rfl rfl dX1_upper_9 rfl ?_
    refine i_i2l (q := 11) C (by omega) dX1_upper_10 rfl ?_
    refine i_lrem (q := 12) C (by omega) dX1_upper_11 rfl ?_
    refine i_l2i (q := 13) C dX1_upper_12 rfl ?_
    refine i_goto (q := 17) C dX1_upper_13 (by decide) ?_
    refine i_iret C hR dX1_upper_17 ?_
    exact ⟨rfl, rfl⟩

set_option maxHeartbeats 400000 in
set_option maxRecDepth 100000 in
theorem c_X1_middle (K : KT) (l : Launch) (x : Int) (y : Int) (hx : 0 ≤ x ∧ x < 2147483648) (hy : 0 < y ∧ y ≤ 10000) : Mt K l yX1_middle wsX1_middle ({ frames := 0, cells := 0, slots := 0, locals := 0 }) [vJ x, vI y] [] 0 0 (fun v w => v = some (vI (x / 1024 % y)) ∧ w = []) := by
  refine Mt.of (own := RX1) (cc := cX1_middle) (maxL := 3) (ret := (some .int)) (lv0 := [(0, vJ x), (2, vI y)]) (by decide) rfl rfl (Nat.le_of_ble_eq_true rfl) rfl (fun X C hR hNm => ?_)
  refine i_iload_n (j := 1) (q := 1) C rfl rfl dX1_middle_0 rfl ?_
  refine i_if_le (tgt := 16) (q := 4) C (by omega) dX1_middle_1 (by decide) rfl (fun c_1 => ?_) (fun c_1 => ?_)
  · skip
    exact absurd c_1 (by omega)
  · skip
    refine i_lload_n (j := 0) (q := 5) C rfl rfl dX1_middle_4 rfl ?_
    refine i_ldc2 (z := 1024) (q := 8) C (List.mem_of_getElem? (i := 1) rfl) dX1_middle_5 rfl ?_
    refine i_ldiv (q := 9) C (by omega) dX1_middle_8 rfl ?_
    refine i_iload_n (j := 1) (q := 10) C rfl rfl dX1_middle_9 rfl ?_
    refine i_i2l (q := 11) C (by omega) dX1_middle_10 rfl ?_
    refine i_lrem (q := 12) C (by omega) dX1_middle_11 rfl ?_
    refine i_l2i (q := 13) C dX1_middle_12 rfl ?_
    refine i_goto (q := 17) C dX1_middle_13 (by decide) ?_
    refine i_iret C hR dX1_middle_17 ?_
    exact ⟨rfl, rfl⟩

theorem hd_X5_held : yX5_held.cls ≠ "java/lang/invoke/MethodHandle" ∧ yX5_held.cls ≠ "java/lang/invoke/VarHandle" ∧ (parseMethodDescriptor yX5_held.desc).map (fun d => d.parameters.length) = some 1 := by decide +kernel
set_option maxHeartbeats 400000 in
set_option maxRecDepth 100000 in
theorem c_X5_newScore (K : KT) (l : Launch) (x : Int) (s : Int) (us : Int) (la : Int) (c : Int) (hx : 0 ≤ x ∧ x ≤ 4) (hs : 0 ≤ s ∧ s ≤ 1000) (hu : 0 ≤ us ∧ us ≤ 1000000) (hl : -1 ≤ la ∧ la ≤ 9999) (hc : 0 ≤ c ∧ c ≤ 9999) : Mt K l yX5_newScore wsX5_newScore ({ frames := 2, cells := 0, slots := 0, locals := 35 }) [vI x, vI s, vI us, vI la, vI c] [] 0 0 (fun v w => v = some (vI (nsc x s us la c)) ∧ w = []) := by
  refine Mt.of (own := RX5) (cc := cX5_newScore) (maxL := 11) (ret := (some .int)) (lv0 := [(0, vI x), (1, vI s), (2, vI us), (3, vI la), (4, vI c)]) (by decide) rfl rfl (Nat.le_of_ble_eq_true rfl) rfl (fun X C hR hNm => ?_)
  refine i_iload_n (j := 1) (q := 1) C rfl rfl dX5_newScore_0 rfl ?_
  refine i_callS (wr := []) (As := [vI s]) (st := []) (q := 4) C (c_X5_held K l (s) (by first | assumption | omega)) gX5_newScore_X5_held rfl hd_X5_held ⟨Nat.le_of_ble_eq_true rfl, Nat.le_of_ble_eq_true rfl⟩ ⟨rfl, rfl⟩ ⟨Nat.le_of_ble_eq_true rfl, Nat.le_of_ble_eq_true rfl⟩ (permBy [] (by decide) rfl rfl) rfl (Nat.le_of_ble_eq_true rfl) dX5_newScore_1 rfl (fun v w hq => ?_)
  obtain ⟨rfl, rfl, hh_1⟩ := hq
  show V X 0 0 4 [(0, vI x), (1, vI s), (2, vI us), (3, vI la), (4, vI c)] [vI (hld s)] []
  refine V.top (b := s) (hld_id hs) ?_
  refine i_istore (q := 6) (lv' := [(5, vI s), (0, vI x), (1, vI s), (2, vI us), (3, vI la), (4, vI c)]) C (by decide) rfl dX5_newScore_4 rfl ?_
  refine i_iload (j := 0) (q := 8) C rfl dX5_newScore_6 rfl ?_
  refine i_bipush (q := 10) C (by decide) dX5_newScore_8 rfl ?_
  refine i_iadd (q := 11) C dX5_newScore_10 rfl ?_
  refine i_callS (wr := []) (As := [vI (s + 10)]) (st := []) (q := 14) C (c_X5_held K l (s + 10) (by first | assumption | omega)) gX5_newScore_X5_held rfl hd_X5_held ⟨Nat.le_of_ble_eq_true rfl, Nat.le_of_ble_eq_true rfl⟩ ⟨rfl, rfl⟩ ⟨Nat.le_of_ble_eq_true rfl, Nat.le_of_ble_eq_true rfl⟩ (permBy [] (by decide) rfl rfl) rfl (Nat.le_of_ble_eq_true rfl) dX5_newScore_11 rfl (fun v w hq => ?_)
  obtain ⟨rfl, rfl, hh_11⟩ := hq
  show V X 0 0 14 [(5, vI s), (0, vI x), (1, vI s), (2, vI us), (3, vI la), (4, vI c)] [vI (hld (s + 10))] []
  refine i_istore (q := 16) (lv' := [(6, vI (hld (s + 10))), (5, vI s), (0, vI x), (1, vI s), (2, vI us), (3, vI la), (4, vI c)]) C (by decide) rfl dX5_newScore_14 rfl ?_
  refine i_iload_n (j := 5) (q := 17) C rfl rfl dX5_newScore_16 rfl ?_
  refine i_iconst (q := 18) C dX5_newScore_17 rfl ?_
  have join_34 : ∀ (b : Int), ((b = 1 ∧ 0 ≤ la ∧ c - 3 ≤ la) ∨ (b = 0 ∧ ¬ (0 ≤ la ∧ c - 3 ≤ la))) → V X 0 0 34 [(0, vI x), (1, vI s), (2, vI us), (3, vI la), (4, vI c), (5, vI s), (6, vI (hld (s + 10)))] [vI b] [] := by
    intro b hb
    refine i_istore (q := 36) (lv' := [(7, vI b), (0, vI x), (1, vI s), (2, vI us), (3, vI la), (4, vI c), (5, vI s), (6, vI (hld (s + 10)))]) C (by decide) rfl dX5_newScore_34 rfl ?_
    refine i_iload (j := 0) (q := 38) C rfl dX5_newScore_36 rfl ?_
    have join_54 : ∀ (fr : Int), (fr = if 0 ≤ la ∧ c - 3 ≤ la then hld (hld (s + 10) + 20) else hld (s + 10)) → (0 ≤ fr ∧ fr ≤ 1000) → V X 0 0 54 [(0, vI x), (1, vI s), (2, vI us), (3, vI la), (4, vI c), (5, vI s), (6, vI (hld (s + 10))), (7, vI b)] [vI fr] [] := by
      intro fr hfr hfb
      refine i_istore (q := 56) (lv' := [(8, vI fr), (0, vI x), (1, vI s), (2, vI us), (3, vI la), (4, vI c), (5, vI s), (6, vI (hld (s + 10))), (7, vI b)]) C (by decide) rfl dX5_newScore_54 rfl ?_
      refine i_iload (j := 7) (q := 58) C rfl dX5_newScore_56 rfl ?_
      refine i_iload_n (j := 3) (q := 59) C rfl rfl dX5_newScore_58 rfl ?_
      refine i_bipush (q := 61) C (by decide) dX5_newScore_59 rfl ?_
      refine i_mmin (q := 64) C (by omega) (by omega) (List.mem_of_getElem? (i := 1) rfl) (List.mem_of_getElem? (i := 2) rfl) (List.mem_of_getElem? (i := 3) rfl) (List.mem_of_getElem? (i := 4) rfl) ⟨Nat.le_of_ble_eq_true rfl, Nat.le_of_ble_eq_true rfl⟩ ⟨Nat.le_of_ble_eq_true rfl, Nat.le_of_ble_eq_true rfl⟩ dX5_newScore_61 rfl ?_
      refine i_iadd (q := 65) C dX5_newScore_64 rfl ?_
      refine i_callS (wr := []) (As := [vI ((hld (s + 10)) + (min us 30))]) (st := []) (q := 68) C (c_X5_held K l ((hld (s + 10)) + (min us 30)) (by first | assumption | omega)) gX5_newScore_X5_held rfl hd_X5_held ⟨Nat.le_of_ble_eq_true rfl, Nat.le_of_ble_eq_true rfl⟩ ⟨rfl, rfl⟩ ⟨Nat.le_of_ble_eq_true rfl, Nat.le_of_ble_eq_true rfl⟩ (permBy [] (by decide) rfl rfl) rfl (Nat.le_of_ble_eq_true rfl) dX5_newScore_65 rfl (fun v w hq => ?_)
      obtain ⟨rfl, rfl, hh_65⟩ := hq
      show V X 0 0 68 [(8, vI fr), (0, vI x), (1, vI s), (2, vI us), (3, vI la), (4, vI c), (5, vI s), (6, vI (hld (s + 10))), (7, vI b)] [vI (hld ((hld (s + 10)) + (min us 30)))] []
      refine i_istore (q := 70) (lv' := [(9, vI (hld ((hld (s + 10)) + (min us 30)))), (8, vI fr), (0, vI x), (1, vI s), (2, vI us), (3, vI la), (4, vI c), (5, vI s), (6, vI (hld (s + 10))), (7, vI b)]) C (by decide) rfl dX5_newScore_68 rfl ?_
      refine i_iload_n (j := 3) (q := 71) C rfl rfl dX5_newScore_70 rfl ?_
      refine i_iconst (q := 72) C dX5_newScore_71 rfl ?_
      refine i_iload (j := 1) (q := 74) C rfl dX5_newScore_72 rfl ?_
      refine i_iload_n (j := 3) (q := 75) C rfl rfl dX5_newScore_74 rfl ?_
      refine i_isub (q := 76) C dX5_newScore_75 rfl ?_
      refine i_imul (q := 77) C dX5_newScore_76 rfl ?_
      refine i_iadd (q := 78) C dX5_newScore_77 rfl ?_
      refine i_callS (wr := []) (As := [vI (s + (2 * (fr - s)))]) (st := []) (q := 81) C (c_X5_held K l (s + (2 * (fr - s))) (by first | assumption | omega)) gX5_newScore_X5_held rfl hd_X5_held ⟨Nat.le_of_ble_eq_true rfl, Nat.le_of_ble_eq_true rfl⟩ ⟨rfl, rfl⟩ ⟨Nat.le_of_ble_eq_true rfl, Nat.le_of_ble_eq_true rfl⟩ (permBy [] (by decide) rfl rfl) rfl (Nat.le_of_ble_eq_true rfl) dX5_newScore_78 rfl (fun v w hq => ?_)
      obtain ⟨rfl, rfl, hh_78⟩ := hq
      show V X 0 0 81 [(9, vI (hld ((hld (s + 10)) + (min us 30)))), (8, vI fr), (0, vI x), (1, vI s), (2, vI us), (3, vI la), (4, vI c), (5, vI s), (6, vI (hld (s + 10))), (7, vI b)] [vI (hld (s + (2 * (fr - s))))] []
      refine i_istore (q := 83) (lv' := [(10, vI (hld (s + (2 * (fr - s))))), (9, vI (hld ((hld (s + 10)) + (min us 30)))), (8, vI fr), (0, vI x), (1, vI s), (2, vI us), (3, vI la), (4, vI c), (5, vI s), (6, vI (hld (s + 10))), (7, vI b)]) C (by decide) rfl dX5_newScore_81 rfl ?_
      refine i_iload_n (j := 3) (q := 84) C rfl rfl dX5_newScore_83 rfl ?_
      by_cases e_84_1 : x = 1
      · skip
        refine i_tsIn (q := 116) 1 C e_84_1 dX5_newScore_84 (by decide) rfl (by decide) ?_
        refine i_iload (j := 9) (q := 118) C rfl dX5_newScore_116 rfl ?_
        refine i_iret C hR dX5_newScore_118 ?_
        exact ⟨by rw [e_84_1]; rfl, rfl⟩
      by_cases e_84_2 : x = 2
      · skip
        refine i_tsIn (q := 119) 2 C e_84_2 dX5_newScore_84 (by decide) rfl (by decide) ?_
        refine i_iload (j := 2) (q := 121) C rfl dX5_newScore_119 rfl ?_
        refine i_iret C hR dX5_newScore_121 ?_
        exact ⟨by rw [e_84_2, hfr]; rfl, rfl⟩
      by_cases e_84_3 : x = 3
      · skip
        refine i_tsIn (q := 122) 3 C e_84_3 dX5_newScore_84 (by decide) rfl (by decide) ?_
        refine i_iload (j := 1) (q := 124) C rfl dX5_newScore_122 rfl ?_
        refine i_iret C hR dX5_newScore_124 ?_
        exact ⟨by rw [e_84_3]; rfl, rfl⟩
      by_cases e_84_4 : x = 4
      · skip
        refine i_tsIn (q := 125) 4 C e_84_4 dX5_newScore_84 (by decide) rfl (by decide) ?_
        refine i_iload (j := 0) (q := 127) C rfl dX5_newScore_125 rfl ?_
        refine i_iret C hR dX5_newScore_127 ?_
        exact ⟨by rw [e_84_4, hfr]; rfl, rfl⟩
      refine i_tsOut (q := 128) C (by omega) (by omega) dX5_newScore_84 (by decide) ?_
      refine i_iload (j := 8) (q := 130) C rfl dX5_newScore_128 rfl ?_
      refine i_iret C hR dX5_newScore_130 ?_
      exact ⟨by rw [show x = 0 by omega]; rfl, rfl⟩
    refine i_if_eq (tgt := 52) (q := 41) C (by omega) dX5_newScore_38 (by decide) rfl (fun c_38 => ?_) (fun c_38 => ?_)
    · skip
      refine i_iload (j := 7) (q := 54) C rfl dX5_newScore_52 rfl ?_
      refine V.lv [1, 2, 3, 4, 5, 6, 7, 0] rfl ?_
      exact join_54 (hld (s + 10)) (by
        rcases hb with ⟨h1, h2⟩ | ⟨h1, h2⟩
        · first | exact (if_pos h2).symm | omega
        · first | exact (if_neg h2).symm | omega) (by omega)
    · skip
      refine i_iload (j := 7) (q := 43) C rfl dX5_newScore_41 rfl ?_
      refine i_bipush (q := 45) C (by decide) dX5_newScore_43 rfl ?_
      refine i_iadd (q := 46) C dX5_newScore_45 rfl ?_
      refine i_callS (wr := []) (As := [vI ((hld (s + 10)) + 20)]) (st := []) (q := 49) C (c_X5_held K l ((hld (s + 10)) + 20) (by first | assumption | omega)) gX5_newScore_X5_held rfl hd_X5_held ⟨Nat.le_of_ble_eq_true rfl, Nat.le_of_ble_eq_true rfl⟩ ⟨rfl, rfl⟩ ⟨Nat.le_of_ble_eq_true rfl, Nat.le_of_ble_eq_true rfl⟩ (permBy [] (by decide) rfl rfl) rfl (Nat.le_of_ble_eq_true rfl) dX5_newScore_46 rfl (fun v w hq => ?_)
      obtain ⟨rfl, rfl, hh_46⟩ := hq
      show V X 0 0 49 [(7, vI b), (0, vI x), (1, vI s), (2, vI us), (3, vI la), (4, vI c), (5, vI s), (6, vI (hld (s + 10)))] [vI (hld ((hld (s + 10)) + 20))] []
      refine i_goto (q := 54) C dX5_newScore_49 (by decide) ?_
      refine V.lv [1, 2, 3, 4, 5, 6, 7, 0] rfl ?_
      exact join_54 (hld ((hld (s + 10)) + 20)) (by
        rcases hb with ⟨h1, h2⟩ | ⟨h1, h2⟩
        · first | exact (if_pos h2).symm | omega
        · first | exact (if_neg h2).symm | omega) (by omega)
  refine i_icmp_eq (tgt := 33) (q := 21) C (by omega) (by omega) dX5_newScore_18 (by decide) rfl (fun c_18 => ?_) (fun c_18 => ?_)
  · skip
    refine i_iconst (q := 34) C dX5_newScore_33 rfl ?_
    refine V.lv [2, 3, 4, 5, 6, 1, 0] rfl ?_
    exact join_34 (0) (by omega)
  · skip
    refine i_iload_n (j := 5) (q := 22) C rfl rfl dX5_newScore_21 rfl ?_
    refine i_iload (j := 6) (q := 24) C rfl dX5_newScore_22 rfl ?_
    refine i_iconst (q := 25) C dX5_newScore_24 rfl ?_
    refine i_isub (q := 26) C dX5_newScore_25 rfl ?_
    refine i_icmp_lt (tgt := 33) (q := 29) C (by omega) (by omega) dX5_newScore_26 (by decide) rfl (fun c_26 => ?_) (fun c_26 => ?_)
    · skip
      refine i_iconst (q := 34) C dX5_newScore_33 rfl ?_
      refine V.lv [2, 3, 4, 5, 6, 1, 0] rfl ?_
      exact join_34 (0) (by omega)
    · skip
      refine i_iconst (q := 30) C dX5_newScore_29 rfl ?_
      refine i_goto (q := 34) C dX5_newScore_30 (by decide) ?_
      refine V.lv [2, 3, 4, 5, 6, 1, 0] rfl ?_
      exact join_34 (1) (by omega)

theorem lk_X0_detail_19 : Cond.fieldLink RX0 19 (TX0 2).1 (TX0 2).2.1 (TX0 2).2.2.1 ∈ wsX0_detail := List.mem_of_getElem? (i := 1) rfl
theorem hi_X0_detail_X0 : ∀ w ∈ u_ws RX0 TX0 10, w ∈ wsX0_detail := by decide +kernel
theorem lk_X0_detail_22 : Cond.fieldLink RX0 22 (TX0 3).1 (TX0 3).2.1 (TX0 3).2.2.1 ∈ wsX0_detail := List.mem_of_getElem? (i := 2) rfl
theorem lk_X0_detail_15 : Cond.fieldLink RX0 15 (TX0 1).1 (TX0 1).2.1 (TX0 1).2.2.1 ∈ wsX0_detail := List.mem_of_getElem? (i := 3) rfl
theorem lk_X0_detail_25 : Cond.fieldLink RX0 25 (TX0 4).1 (TX0 4).2.1 (TX0 4).2.2.1 ∈ wsX0_detail := List.mem_of_getElem? (i := 4) rfl
theorem lk_X0_detail_28 : Cond.fieldLink RX0 28 (TX0 5).1 (TX0 5).2.1 (TX0 5).2.2.1 ∈ wsX0_detail := List.mem_of_getElem? (i := 5) rfl
set_option maxHeartbeats 400000 in
set_option maxRecDepth 100000 in
theorem c_X0_detail (K : KT) (l : Launch) (ab : Nat → Nat) (nu : Int → Int) (wo : Int → Int) (sc : Int → Int) (me : Int → Int) (us : Int → Int) (la : Int → Int) (ct : Int) (gv : Int) (kd : Int) (sl : Int) (U : Int) (o : Bo) (x : Int) (y : Int) (hb : rpB U nu wo sc me us la ct gv kd sl o) (hx : 0 ≤ x ∧ x < ct) (hy : 0 ≤ y ∧ y ≤ 4) : Mt K l yX0_detail wsX0_detail ({ frames := 3, cells := 0, slots := 0, locals := 64 }) [vP (ab 0), vI x, vI y] [bkW ab (nu, wo, sc, me, us, la, ct, gv, kd, sl)] 0 0 (fun v w => v = some (vI (ofP (atP o.1 x) y)) ∧ w = [bkW ab (nu, wo, sc, me, us, la, ct, gv, kd, sl)]) := by
  refine Mt.of (own := RX0) (cc := cX0_detail) (maxL := 3) (ret := (some .int)) (lv0 := [(0, vP (ab 0)), (1, vI x), (2, vI y)]) (by decide) rfl rfl (Nat.le_of_ble_eq_true rfl) rfl (fun X C hR hNm => ?_)
  have hct := hb.xct
  have hgv := hb.xgv
  refine i_iload_n (j := 2) (q := 1) C rfl rfl dX0_detail_0 rfl ?_
  by_cases e_1_0 : y = 0
  · skip
    refine i_tsIn (q := 32) 0 C e_1_0 dX0_detail_1 (by decide) rfl (by decide) ?_
    refine i_aload_n (j := 0) (q := 33) C rfl rfl dX0_detail_32 rfl ?_
    refine i_get (i := 0) (j := 0) (f := 2) (q := 36) C rfl rfl rfl hi_X0_detail_X0 (by decide) lk_X0_detail_19 rfl dX0_detail_33 rfl ?_
    refine i_iload_n (j := 1) (q := 37) C rfl rfl dX0_detail_36 rfl ?_
    refine i_iald (i := 0) (j := 3) (q := 38) C rfl rfl (by omega) dX0_detail_37 rfl ?_
    have ld_37 := hb.xsc x (by omega) (by omega)
    refine i_iret C hR dX0_detail_38 ?_
    exact ⟨by rw [e_1_0, ld_37.2]; rfl, rfl⟩
  by_cases e_1_1 : y = 1
  · skip
    refine i_tsIn (q := 39) 1 C e_1_1 dX0_detail_1 (by decide) rfl (by decide) ?_
    refine i_aload_n (j := 0) (q := 40) C rfl rfl dX0_detail_39 rfl ?_
    refine i_get (i := 0) (j := 0) (f := 3) (q := 43) C rfl rfl rfl hi_X0_detail_X0 (by decide) lk_X0_detail_22 rfl dX0_detail_40 rfl ?_
    refine i_iload_n (j := 1) (q := 44) C rfl rfl dX0_detail_43 rfl ?_
    refine i_iald (i := 0) (j := 4) (q := 45) C rfl rfl (by omega) dX0_detail_44 rfl ?_
    have ld_44 := hb.xme x (by omega) (by omega)
    refine i_iret C hR dX0_detail_45 ?_
    exact ⟨by rw [e_1_1, ld_44.2]; rfl, rfl⟩
  by_cases e_1_2 : y = 2
  · skip
    refine i_tsIn (q := 46) 2 C e_1_2 dX0_detail_1 (by decide) rfl (by decide) ?_
    refine i_aload_n (j := 0) (q := 47) C rfl rfl dX0_detail_46 rfl ?_
    refine i_get (i := 0) (j := 0) (f := 1) (q := 50) C rfl rfl rfl hi_X0_detail_X0 (by decide) lk_X0_detail_15 rfl dX0_detail_47 rfl ?_
    refine i_iload_n (j := 1) (q := 51) C rfl rfl dX0_detail_50 rfl ?_
    refine i_lald (i := 0) (j := 2) (q := 52) C rfl rfl (by omega) dX0_detail_51 rfl ?_
    refine V.topJ (b := ((pck ((atP o.1 x).2.1) : Nat) : Int)) ((hb.xwo x (by omega) (by omega)).1) ?_
    refine i_callS (wr := [bkW ab (nu, wo, sc, me, us, la, ct, gv, kd, sl)]) (As := [vJ (((pck ((atP o.1 x).2.1) : Nat) : Int))]) (st := []) (q := 55) C (c_X6_lengthOf K l ((atP o.1 x).2.1) ((hb.xwo x (by omega) (by omega)).2.1) (by have := hb.xwo x (by omega) (by omega); omega)) gX0_detail_X6_lengthOf rfl hd_X6_lengthOf ⟨Nat.le_of_ble_eq_true rfl, Nat.le_of_ble_eq_true rfl⟩ ⟨rfl, rfl⟩ ⟨Nat.le_of_ble_eq_true rfl, Nat.le_of_ble_eq_true rfl⟩ (permBy [0] (by decide) rfl rfl) rfl (Nat.le_of_ble_eq_true rfl) dX0_detail_52 rfl (fun v w hq => ?_)
    obtain ⟨rfl, rfl⟩ := hq
    show V X 0 0 55 [(0, vP (ab 0)), (1, vI x), (2, vI y)] [vI ((((atP o.1 x).2.1).length : Nat) : Int)] [bkW ab (nu, wo, sc, me, us, la, ct, gv, kd, sl)]
    refine i_iret C hR dX0_detail_55 ?_
    exact ⟨by rw [e_1_2]; rfl, rfl⟩
  by_cases e_1_3 : y = 3
  · skip
    refine i_tsIn (q := 56) 3 C e_1_3 dX0_detail_1 (by decide) rfl (by decide) ?_
    refine i_aload_n (j := 0) (q := 57) C rfl rfl dX0_detail_56 rfl ?_
    refine i_get (i := 0) (j := 0) (f := 4) (q := 60) C rfl rfl rfl hi_X0_detail_X0 (by decide) lk_X0_detail_25 rfl dX0_detail_57 rfl ?_
    refine i_iload_n (j := 1) (q := 61) C rfl rfl dX0_detail_60 rfl ?_
    refine i_iald (i := 0) (j := 5) (q := 62) C rfl rfl (by omega) dX0_detail_61 rfl ?_
    have ld_61 := hb.xus x (by omega) (by omega)
    refine i_iret C hR dX0_detail_62 ?_
    exact ⟨by rw [e_1_3, ld_61.2]; rfl, rfl⟩
  refine i_tsOut (q := 63) C (by omega) (by omega) dX0_detail_1 (by decide) ?_
  refine i_aload_n (j := 0) (q := 64) C rfl rfl dX0_detail_63 rfl ?_
  refine i_get (i := 0) (j := 0) (f := 5) (q := 67) C rfl rfl rfl hi_X0_detail_X0 (by decide) lk_X0_detail_28 rfl dX0_detail_64 rfl ?_
  refine i_iload_n (j := 1) (q := 68) C rfl rfl dX0_detail_67 rfl ?_
  refine i_iald (i := 0) (j := 6) (q := 69) C rfl rfl (by omega) dX0_detail_68 rfl ?_
  have ld_68 := hb.xla x (by omega) (by omega)
  refine i_iret C hR dX0_detail_69 ?_
  exact ⟨by rw [show y = 4 by omega, ld_68.2]; rfl, rfl⟩

theorem lk_X7_refuseBad_45 : Cond.fieldLink RX7 45 (TX7 6).1 (TX7 6).2.1 (TX7 6).2.2.1 ∈ wsX7_refuseBad := List.mem_of_getElem? (i := 1) rfl
theorem hi_X7_refuseBad_X7 : ∀ w ∈ u_ws RX7 TX7 9, w ∈ wsX7_refuseBad := by decide +kernel
set_option maxHeartbeats 400000 in
set_option maxRecDepth 100000 in
theorem c_X7_refuseBad (K : KT) (l : Launch) (ab : Nat → Nat) (ax : Nat → Nat) (ap : Nat → Nat) (al : Nat → Nat) (ao : Nat → Nat) (td : Int) (ck : Int) (ba : Int) (no : Int) (fu : Int)  : Mt K l yX7_refuseBad wsX7_refuseBad ({ frames := 0, cells := 0, slots := 0, locals := 0 }) [vP (ax 0)] [boW ax ab ap al ao (td, ck, ba, no, fu)] 0 0 (fun v w => v = some (vI ((-2))) ∧ w = [boW ax ab ap al ao (td, ck, ba + 1, no, fu)]) := by
  refine Mt.of (own := RX7) (cc := cX7_refuseBad) (maxL := 1) (ret := (some .int)) (lv0 := [(0, vP (ax 0))]) (by decide) rfl rfl (Nat.le_of_ble_eq_true rfl) rfl (fun X C hR hNm => ?_)
  refine i_aload_n (j := 0) (q := 1) C rfl rfl dX7_refuseBad_0 rfl ?_
  refine i_dup (q := 2) C rfl dX7_refuseBad_1 rfl ?_
  refine i_get (i := 0) (j := 0) (f := 6) (q := 5) C rfl rfl rfl hi_X7_refuseBad_X7 (by decide) lk_X7_refuseBad_45 rfl dX7_refuseBad_2 rfl ?_
  refine i_iconst (q := 6) C dX7_refuseBad_5 rfl ?_
  refine i_iadd (q := 7) C dX7_refuseBad_6 rfl ?_
  refine i_putI (i := 0) (j := 0) (f := 6) (q := 10) (cs' := [boW ax ab ap al ao (td, ck, ba + 1, no, fu)]) C rfl rfl rfl hi_X7_refuseBad_X7 tyX7 tyX7_ok nmX7 (by decide) (Nat.le_of_ble_eq_true rfl) lk_X7_refuseBad_45 rfl rfl dX7_refuseBad_7 rfl rfl ?_
  refine i_bipush (q := 12) C (by decide) dX7_refuseBad_10 rfl ?_
  refine i_iret C hR dX7_refuseBad_12 ?_
  exact ⟨rfl, rfl⟩

theorem lk_X7_refusePlace_45 : Cond.fieldLink RX7 45 (TX7 6).1 (TX7 6).2.1 (TX7 6).2.2.1 ∈ wsX7_refusePlace := List.mem_of_getElem? (i := 1) rfl
theorem hi_X7_refusePlace_X7 : ∀ w ∈ u_ws RX7 TX7 9, w ∈ wsX7_refusePlace := by decide +kernel
set_option maxHeartbeats 400000 in
set_option maxRecDepth 100000 in
theorem c_X7_refusePlace (K : KT) (l : Launch) (ab : Nat → Nat) (ax : Nat → Nat) (ap : Nat → Nat) (al : Nat → Nat) (ao : Nat → Nat) (td : Int) (ck : Int) (ba : Int) (no : Int) (fu : Int)  : Mt K l yX7_refusePlace wsX7_refusePlace ({ frames := 0, cells := 0, slots := 0, locals := 0 }) [vP (ax 0)] [boW ax ab ap al ao (td, ck, ba, no, fu)] 0 0 (fun v w => v = some (vI ((-10))) ∧ w = [boW ax ab ap al ao (td, ck, ba + 1, no, fu)]) := by
  refine Mt.of (own := RX7) (cc := cX7_refusePlace) (maxL := 1) (ret := (some .int)) (lv0 := [(0, vP (ax 0))]) (by decide) rfl rfl (Nat.le_of_ble_eq_true rfl) rfl (fun X C hR hNm => ?_)
  refine i_aload_n (j := 0) (q := 1) C rfl rfl dX7_refusePlace_0 rfl ?_
  refine i_dup (q := 2) C rfl dX7_refusePlace_1 rfl ?_
  refine i_get (i := 0) (j := 0) (f := 6) (q := 5) C rfl rfl rfl hi_X7_refusePlace_X7 (by decide) lk_X7_refusePlace_45 rfl dX7_refusePlace_2 rfl ?_
  refine i_iconst (q := 6) C dX7_refusePlace_5 rfl ?_
  refine i_iadd (q := 7) C dX7_refusePlace_6 rfl ?_
  refine i_putI (i := 0) (j := 0) (f := 6) (q := 10) (cs' := [boW ax ab ap al ao (td, ck, ba + 1, no, fu)]) C rfl rfl rfl hi_X7_refusePlace_X7 tyX7 tyX7_ok nmX7 (by decide) (Nat.le_of_ble_eq_true rfl) lk_X7_refusePlace_45 rfl rfl dX7_refusePlace_7 rfl rfl ?_
  refine i_bipush (q := 12) C (by decide) dX7_refusePlace_10 rfl ?_
  refine i_iret C hR dX7_refusePlace_12 ?_
  exact ⟨rfl, rfl⟩

theorem lk_X7_refuseNo_48 : Cond.fieldLink RX7 48 (TX7 7).1 (TX7 7).2.1 (TX7 7).2.2.1 ∈ wsX7_refuseNo := List.mem_of_getElem? (i := 1) rfl
theorem hi_X7_refuseNo_X7 : ∀ w ∈ u_ws RX7 TX7 9, w ∈ wsX7_refuseNo := by decide +kernel
set_option maxHeartbeats 400000 in
set_option maxRecDepth 100000 in
theorem c_X7_refuseNo (K : KT) (l : Launch) (ab : Nat → Nat) (ax : Nat → Nat) (ap : Nat → Nat) (al : Nat → Nat) (ao : Nat → Nat) (td : Int) (ck : Int) (ba : Int) (no : Int) (fu : Int)  : Mt K l yX7_refuseNo wsX7_refuseNo ({ frames := 0, cells := 0, slots := 0, locals := 0 }) [vP (ax 0)] [boW ax ab ap al ao (td, ck, ba, no, fu)] 0 0 (fun v w => v = some (vI ((-3))) ∧ w = [boW ax ab ap al ao (td, ck, ba, no + 1, fu)]) := by
  refine Mt.of (own := RX7) (cc := cX7_refuseNo) (maxL := 1) (ret := (some .int)) (lv0 := [(0, vP (ax 0))]) (by decide) rfl rfl (Nat.le_of_ble_eq_true rfl) rfl (fun X C hR hNm => ?_)
  refine i_aload_n (j := 0) (q := 1) C rfl rfl dX7_refuseNo_0 rfl ?_
  refine i_dup (q := 2) C rfl dX7_refuseNo_1 rfl ?_
  refine i_get (i := 0) (j := 0) (f := 7) (q := 5) C rfl rfl rfl hi_X7_refuseNo_X7 (by decide) lk_X7_refuseNo_48 rfl dX7_refuseNo_2 rfl ?_
  refine i_iconst (q := 6) C dX7_refuseNo_5 rfl ?_
  refine i_iadd (q := 7) C dX7_refuseNo_6 rfl ?_
  refine i_putI (i := 0) (j := 0) (f := 7) (q := 10) (cs' := [boW ax ab ap al ao (td, ck, ba, no + 1, fu)]) C rfl rfl rfl hi_X7_refuseNo_X7 tyX7 tyX7_ok nmX7 (by decide) (Nat.le_of_ble_eq_true rfl) lk_X7_refuseNo_48 rfl rfl dX7_refuseNo_7 rfl rfl ?_
  refine i_bipush (q := 12) C (by decide) dX7_refuseNo_10 rfl ?_
  refine i_iret C hR dX7_refuseNo_12 ?_
  exact ⟨rfl, rfl⟩

theorem lk_X7_refuseFull_51 : Cond.fieldLink RX7 51 (TX7 8).1 (TX7 8).2.1 (TX7 8).2.2.1 ∈ wsX7_refuseFull := List.mem_of_getElem? (i := 1) rfl
theorem hi_X7_refuseFull_X7 : ∀ w ∈ u_ws RX7 TX7 9, w ∈ wsX7_refuseFull := by decide +kernel
set_option maxHeartbeats 400000 in
set_option maxRecDepth 100000 in
theorem c_X7_refuseFull (K : KT) (l : Launch) (ab : Nat → Nat) (ax : Nat → Nat) (ap : Nat → Nat) (al : Nat → Nat) (ao : Nat → Nat) (td : Int) (ck : Int) (ba : Int) (no : Int) (fu : Int)  : Mt K l yX7_refuseFull wsX7_refuseFull ({ frames := 0, cells := 0, slots := 0, locals := 0 }) [vP (ax 0)] [boW ax ab ap al ao (td, ck, ba, no, fu)] 0 0 (fun v w => v = some (vI ((-4))) ∧ w = [boW ax ab ap al ao (td, ck, ba, no, fu + 1)]) := by
  refine Mt.of (own := RX7) (cc := cX7_refuseFull) (maxL := 1) (ret := (some .int)) (lv0 := [(0, vP (ax 0))]) (by decide) rfl rfl (Nat.le_of_ble_eq_true rfl) rfl (fun X C hR hNm => ?_)
  refine i_aload_n (j := 0) (q := 1) C rfl rfl dX7_refuseFull_0 rfl ?_
  refine i_dup (q := 2) C rfl dX7_refuseFull_1 rfl ?_
  refine i_get (i := 0) (j := 0) (f := 8) (q := 5) C rfl rfl rfl hi_X7_refuseFull_X7 (by decide) lk_X7_refuseFull_51 rfl dX7_refuseFull_2 rfl ?_
  refine i_iconst (q := 6) C dX7_refuseFull_5 rfl ?_
  refine i_iadd (q := 7) C dX7_refuseFull_6 rfl ?_
  refine i_putI (i := 0) (j := 0) (f := 8) (q := 10) (cs' := [boW ax ab ap al ao (td, ck, ba, no, fu + 1)]) C rfl rfl rfl hi_X7_refuseFull_X7 tyX7 tyX7_ok nmX7 (by decide) (Nat.le_of_ble_eq_true rfl) lk_X7_refuseFull_51 rfl rfl dX7_refuseFull_7 rfl rfl ?_
  refine i_bipush (q := 12) C (by decide) dX7_refuseFull_10 rfl ?_
  refine i_iret C hR dX7_refuseFull_12 ?_
  exact ⟨rfl, rfl⟩

theorem lk_X7_beginsSo_10 : Cond.fieldLink RX7 10 (TX7 0).1 (TX7 0).2.1 (TX7 0).2.2.1 ∈ wsX7_beginsSo := List.mem_of_getElem? (i := 1) rfl
theorem hi_X7_beginsSo_X7 : ∀ w ∈ u_ws RX7 TX7 9, w ∈ wsX7_beginsSo := by decide +kernel
theorem lk_X7_beginsSo_92 : Cond.fieldLink RX7 92 (TX0 1).1 (TX0 1).2.1 (TX0 1).2.2.1 ∈ wsX7_beginsSo := List.mem_of_getElem? (i := 2) rfl
theorem hi_X7_beginsSo_X0 : ∀ w ∈ u_ws RX0 TX0 10, w ∈ wsX7_beginsSo := by decide +kernel
theorem lk_X7_beginsSo_37 : Cond.fieldLink RX7 37 (TX7 4).1 (TX7 4).2.1 (TX7 4).2.2.1 ∈ wsX7_beginsSo := List.mem_of_getElem? (i := 3) rfl
set_option maxHeartbeats 400000 in
set_option maxRecDepth 100000 in
theorem c_X7_beginsSo (K : KT) (l : Launch) (ax : Nat → Nat) (ap : Nat → Nat) (al : Nat → Nat) (ao : Nat → Nat) (ck : Int) (ba : Int) (no : Int) (fu : Int) (t : List Int) (ab : Nat → Nat) (nu : Int → Int) (wo : Int → Int) (sc : Int → Int) (me : Int → Int) (us : Int → Int) (la : Int → Int) (ct : Int) (gv : Int) (kd : Int) (sl : Int) (U : Int) (o : Bo) (x : Int) (hb : rpB U nu wo sc me us la ct gv kd sl o) (ht : okL t) (lt_ : t.length ≤ 12) (hx : 0 ≤ x ∧ x < ct) : Mt K l yX7_beginsSo wsX7_beginsSo ({ frames := 4, cells := 0, slots := 0, locals := 87 }) [vP (ax 0), vI x] [boW ax ab ap al ao (((pck t : Nat) : Int), ck, ba, no, fu), bkW ab (nu, wo, sc, me, us, la, ct, gv, kd, sl)] 0 0 (fun v w => v = some (vI (if bgs t (atP o.1 x).2.1 = true then 1 else 0)) ∧ w = [boW ax ab ap al ao (((pck t : Nat) : Int), ck, ba, no, fu), bkW ab (nu, wo, sc, me, us, la, ct, gv, kd, sl)]) := by
  refine Mt.of (own := RX7) (cc := cX7_beginsSo) (maxL := 2) (ret := (some .boolean)) (lv0 := [(0, vP (ax 0)), (1, vI x)]) (by decide) rfl rfl (Nat.le_of_ble_eq_true rfl) rfl (fun X C hR hNm => ?_)
  have hct := hb.xct
  have hgv := hb.xgv
  refine i_aload_n (j := 0) (q := 1) C rfl rfl dX7_beginsSo_0 rfl ?_
  refine i_get (i := 0) (j := 0) (f := 0) (q := 4) C rfl rfl rfl hi_X7_beginsSo_X7 (by decide) lk_X7_beginsSo_10 rfl dX7_beginsSo_1 rfl ?_
  refine i_get (i := 1) (j := 0) (f := 1) (q := 7) C rfl rfl rfl hi_X7_beginsSo_X0 (by decide) lk_X7_beginsSo_92 rfl dX7_beginsSo_4 rfl ?_
  refine i_iload_n (j := 1) (q := 8) C rfl rfl dX7_beginsSo_7 rfl ?_
  refine i_lald (i := 1) (j := 2) (q := 9) C rfl rfl (by omega) dX7_beginsSo_8 rfl ?_
  refine V.topJ (b := ((pck ((atP o.1 x).2.1) : Nat) : Int)) ((hb.xwo x (by omega) (by omega)).1) ?_
  refine i_aload_n (j := 0) (q := 10) C rfl rfl dX7_beginsSo_9 rfl ?_
  refine i_get (i := 0) (j := 0) (f := 4) (q := 13) C rfl rfl rfl hi_X7_beginsSo_X7 (by decide) lk_X7_beginsSo_37 rfl dX7_beginsSo_10 rfl ?_
  refine i_callS (wr := [boW ax ab ap al ao (((pck t : Nat) : Int), ck, ba, no, fu), bkW ab (nu, wo, sc, me, us, la, ct, gv, kd, sl)]) (As := [vJ (((pck ((atP o.1 x).2.1) : Nat) : Int)), vJ (((pck t : Nat) : Int))]) (st := []) (q := 16) C (c_X6_begins K l ((atP o.1 x).2.1) (t) ((hb.xwo x (by omega) (by omega)).2.1) (by have := hb.xwo x (by omega) (by omega); omega) (ht) (by omega)) gX7_beginsSo_X6_begins rfl hd_X6_begins ⟨Nat.le_of_ble_eq_true rfl, Nat.le_of_ble_eq_true rfl⟩ ⟨rfl, rfl⟩ ⟨Nat.le_of_ble_eq_true rfl, Nat.le_of_ble_eq_true rfl⟩ (permBy [0, 1] (by decide) rfl rfl) rfl (Nat.le_of_ble_eq_true rfl) dX7_beginsSo_13 rfl (fun v w hq => ?_)
  obtain ⟨rfl, rfl⟩ := hq
  show V X 0 0 16 [(0, vP (ax 0)), (1, vI x)] [vI (if bgs t ((atP o.1 x).2.1) = true then 1 else 0)] [boW ax ab ap al ao (((pck t : Nat) : Int), ck, ba, no, fu), bkW ab (nu, wo, sc, me, us, la, ct, gv, kd, sl)]
  refine i_zret C hR (if01z) dX7_beginsSo_16 ?_
  exact ⟨rfl, rfl⟩

theorem lk_X7_isClose_10 : Cond.fieldLink RX7 10 (TX7 0).1 (TX7 0).2.1 (TX7 0).2.2.1 ∈ wsX7_isClose := List.mem_of_getElem? (i := 1) rfl
theorem hi_X7_isClose_X7 : ∀ w ∈ u_ws RX7 TX7 9, w ∈ wsX7_isClose := by decide +kernel
theorem lk_X7_isClose_92 : Cond.fieldLink RX7 92 (TX0 1).1 (TX0 1).2.1 (TX0 1).2.2.1 ∈ wsX7_isClose := List.mem_of_getElem? (i := 2) rfl
theorem hi_X7_isClose_X0 : ∀ w ∈ u_ws RX0 TX0 10, w ∈ wsX7_isClose := by decide +kernel
theorem lk_X7_isClose_37 : Cond.fieldLink RX7 37 (TX7 4).1 (TX7 4).2.1 (TX7 4).2.2.1 ∈ wsX7_isClose := List.mem_of_getElem? (i := 3) rfl
theorem hd_X6_isOneSlipFrom : yX6_isOneSlipFrom.cls ≠ "java/lang/invoke/MethodHandle" ∧ yX6_isOneSlipFrom.cls ≠ "java/lang/invoke/VarHandle" ∧ (parseMethodDescriptor yX6_isOneSlipFrom.desc).map (fun d => d.parameters.length) = some 2 := by decide +kernel
set_option maxHeartbeats 400000 in
set_option maxRecDepth 100000 in
theorem c_X7_isClose (K : KT) (l : Launch) (ax : Nat → Nat) (ap : Nat → Nat) (al : Nat → Nat) (ao : Nat → Nat) (ck : Int) (ba : Int) (no : Int) (fu : Int) (t : List Int) (ab : Nat → Nat) (nu : Int → Int) (wo : Int → Int) (sc : Int → Int) (me : Int → Int) (us : Int → Int) (la : Int → Int) (ct : Int) (gv : Int) (kd : Int) (sl : Int) (U : Int) (o : Bo) (x : Int) (hb : rpB U nu wo sc me us la ct gv kd sl o) (ht : okL t) (lt_ : t.length ≤ 12) (hx : 0 ≤ x ∧ x < ct) : Mt K l yX7_isClose wsX7_isClose ({ frames := 5, cells := 0, slots := 0, locals := 114 }) [vP (ax 0), vI x] [boW ax ab ap al ao (((pck t : Nat) : Int), ck, ba, no, fu), bkW ab (nu, wo, sc, me, us, la, ct, gv, kd, sl)] 0 0 (fun v w => v = some (vI (if clo t (atP o.1 x).2.1 = true then 1 else 0)) ∧ w = [boW ax ab ap al ao (((pck t : Nat) : Int), ck, ba, no, fu), bkW ab (nu, wo, sc, me, us, la, ct, gv, kd, sl)]) := by
  refine Mt.of (own := RX7) (cc := cX7_isClose) (maxL := 2) (ret := (some .boolean)) (lv0 := [(0, vP (ax 0)), (1, vI x)]) (by decide) rfl rfl (Nat.le_of_ble_eq_true rfl) rfl (fun X C hR hNm => ?_)
  have hct := hb.xct
  have hgv := hb.xgv
  refine i_aload_n (j := 0) (q := 1) C rfl rfl dX7_isClose_0 rfl ?_
  refine i_get (i := 0) (j := 0) (f := 0) (q := 4) C rfl rfl rfl hi_X7_isClose_X7 (by decide) lk_X7_isClose_10 rfl dX7_isClose_1 rfl ?_
  refine i_get (i := 1) (j := 0) (f := 1) (q := 7) C rfl rfl rfl hi_X7_isClose_X0 (by decide) lk_X7_isClose_92 rfl dX7_isClose_4 rfl ?_
  refine i_iload_n (j := 1) (q := 8) C rfl rfl dX7_isClose_7 rfl ?_
  refine i_lald (i := 1) (j := 2) (q := 9) C rfl rfl (by omega) dX7_isClose_8 rfl ?_
  refine V.topJ (b := ((pck ((atP o.1 x).2.1) : Nat) : Int)) ((hb.xwo x (by omega) (by omega)).1) ?_
  refine i_aload_n (j := 0) (q := 10) C rfl rfl dX7_isClose_9 rfl ?_
  refine i_get (i := 0) (j := 0) (f := 4) (q := 13) C rfl rfl rfl hi_X7_isClose_X7 (by decide) lk_X7_isClose_37 rfl dX7_isClose_10 rfl ?_
  refine i_callS (wr := [boW ax ab ap al ao (((pck t : Nat) : Int), ck, ba, no, fu), bkW ab (nu, wo, sc, me, us, la, ct, gv, kd, sl)]) (As := [vJ (((pck ((atP o.1 x).2.1) : Nat) : Int)), vJ (((pck t : Nat) : Int))]) (st := []) (q := 16) C (c_X6_isOneSlipFrom K l ((atP o.1 x).2.1) (t) ((hb.xwo x (by omega) (by omega)).2.1) (by have := hb.xwo x (by omega) (by omega); omega) (ht) (by omega)) gX7_isClose_X6_isOneSlipFrom rfl hd_X6_isOneSlipFrom ⟨Nat.le_of_ble_eq_true rfl, Nat.le_of_ble_eq_true rfl⟩ ⟨rfl, rfl⟩ ⟨Nat.le_of_ble_eq_true rfl, Nat.le_of_ble_eq_true rfl⟩ (permBy [0, 1] (by decide) rfl rfl) rfl (Nat.le_of_ble_eq_true rfl) dX7_isClose_13 rfl (fun v w hq => ?_)
  obtain ⟨rfl, rfl⟩ := hq
  show V X 0 0 16 [(0, vP (ax 0)), (1, vI x)] [vI (if clo t ((atP o.1 x).2.1) = true then 1 else 0)] [boW ax ab ap al ao (((pck t : Nat) : Int), ck, ba, no, fu), bkW ab (nu, wo, sc, me, us, la, ct, gv, kd, sl)]
  refine i_zret C hR (if01z) dX7_isClose_16 ?_
  exact ⟨rfl, rfl⟩

theorem lk_X7_lettersTillFirst_10 : Cond.fieldLink RX7 10 (TX7 0).1 (TX7 0).2.1 (TX7 0).2.2.1 ∈ wsX7_lettersTillFirst := List.mem_of_getElem? (i := 1) rfl
theorem hi_X7_lettersTillFirst_X7 : ∀ w ∈ u_ws RX7 TX7 9, w ∈ wsX7_lettersTillFirst := by decide +kernel
theorem lk_X7_lettersTillFirst_139 : Cond.fieldLink RX7 139 (TX0 6).1 (TX0 6).2.1 (TX0 6).2.2.1 ∈ wsX7_lettersTillFirst := List.mem_of_getElem? (i := 2) rfl
theorem hi_X7_lettersTillFirst_X0 : ∀ w ∈ u_ws RX0 TX0 10, w ∈ wsX7_lettersTillFirst := by decide +kernel
theorem lk_X7_lettersTillFirst_92 : Cond.fieldLink RX7 92 (TX0 1).1 (TX0 1).2.1 (TX0 1).2.2.1 ∈ wsX7_lettersTillFirst := List.mem_of_getElem? (i := 3) rfl
theorem hd_X0_isBefore : yX0_isBefore.cls = RX0 ∧ yX0_isBefore.cls ≠ "java/lang/invoke/MethodHandle" ∧ yX0_isBefore.cls ≠ "java/lang/invoke/VarHandle" ∧ (parseMethodDescriptor yX0_isBefore.desc).map (fun d => d.parameters.length) = some 2 := by decide +kernel
set_option maxHeartbeats 400000 in
set_option maxRecDepth 100000 in
theorem c_X7_lettersTillFirst (K : KT) (l : Launch) (ax : Nat → Nat) (ap : Nat → Nat) (al : Nat → Nat) (ao : Nat → Nat) (ck : Int) (ba : Int) (no : Int) (fu : Int) (t : List Int) (ab : Nat → Nat) (nu : Int → Int) (wo : Int → Int) (sc : Int → Int) (me : Int → Int) (us : Int → Int) (la : Int → Int) (ct : Int) (gv : Int) (kd : Int) (sl : Int) (U : Int) (o : Bo) (x : Int) (hb : rpB U nu wo sc me us la ct gv kd sl o) (hx : 0 ≤ x ∧ x < ct) : Mt K l yX7_lettersTillFirst wsX7_lettersTillFirst ({ frames := 4, cells := 0, slots := 0, locals := 87 }) [vP (ax 0), vI x] [boW ax ab ap al ao (((pck t : Nat) : Int), ck, ba, no, fu), bkW ab (nu, wo, sc, me, us, la, ct, gv, kd, sl)] 0 0 (fun v w => v = some (vI (kys o.1 (atP o.1 x))) ∧ w = [boW ax ab ap al ao (((pck t : Nat) : Int), ck, ba, no, fu), bkW ab (nu, wo, sc, me, us, la, ct, gv, kd, sl)]) := by
  refine Mt.of (own := RX7) (cc := cX7_lettersTillFirst) (maxL := 4) (ret := (some .int)) (lv0 := [(0, vP (ax 0)), (1, vI x)]) (by decide) rfl rfl (Nat.le_of_ble_eq_true rfl) rfl (fun X C hR hNm => ?_)
  have hct := hb.xct
  have hgv := hb.xgv
  have hxl := hb.xwo x (by omega) (by omega)
  have hsx := hb.xsc x (by omega) (by omega)
  have hnx := hb.xnu x (by omega) (by omega)
  refine i_iconst (q := 1) C dX7_lettersTillFirst_0 rfl ?_
  refine i_istore_n (q := 2) (lv' := [(2, vI 0), (0, vP (ax 0)), (1, vI x)]) C rfl (by decide) rfl dX7_lettersTillFirst_1 rfl ?_
  refine i_iconst (q := 3) C dX7_lettersTillFirst_2 rfl ?_
  refine i_istore_n (q := 4) (lv' := [(3, vI 0), (2, vI 0), (0, vP (ax 0)), (1, vI x)]) C rfl (by decide) rfl dX7_lettersTillFirst_3 rfl ?_
  have loop_4 : ∀ (fuel : Nat) (i : Int) (n : Int), ((ct - i).toNat) < fuel → (0 ≤ i ∧ i ≤ ct) → (n = (o.1.take i.toNat).foldl (kys1 (atP o.1 x)) 0) → (0 ≤ n ∧ n ≤ 9) → V X 0 0 4 [(0, vP (ax 0)), (1, vI x), (2, vI n), (3, vI i)] [] [boW ax ab ap al ao (((pck t : Nat) : Int), ck, ba, no, fu), bkW ab (nu, wo, sc, me, us, la, ct, gv, kd, sl)] := by
    intro fuel
    induction fuel with
    | zero => intro i n hz; exact absurd hz (Nat.not_lt_zero _)
    | succ fuel ih_4 =>
      intro i n hfu_4 hi hv hn
      refine i_iload_n (j := 3) (q := 5) C rfl rfl dX7_lettersTillFirst_4 rfl ?_
      refine i_aload_n (j := 0) (q := 6) C rfl rfl dX7_lettersTillFirst_5 rfl ?_
      refine i_get (i := 0) (j := 0) (f := 0) (q := 9) C rfl rfl rfl hi_X7_lettersTillFirst_X7 (by decide) lk_X7_lettersTillFirst_10 rfl dX7_lettersTillFirst_6 rfl ?_
      refine i_get (i := 1) (j := 0) (f := 6) (q := 12) C rfl rfl rfl hi_X7_lettersTillFirst_X0 (by decide) lk_X7_lettersTillFirst_139 rfl dX7_lettersTillFirst_9 rfl ?_
      refine i_icmp_ge (tgt := 66) (q := 15) C (by omega) (by omega) dX7_lettersTillFirst_12 (by decide) rfl (fun c_12 => ?_) (fun c_12 => ?_)
      · skip
        refine i_iload_n (j := 2) (q := 67) C rfl rfl dX7_lettersTillFirst_66 rfl ?_
        refine i_aload_n (j := 0) (q := 68) C rfl rfl dX7_lettersTillFirst_67 rfl ?_
        refine i_get (i := 0) (j := 0) (f := 0) (q := 71) C rfl rfl rfl hi_X7_lettersTillFirst_X7 (by decide) lk_X7_lettersTillFirst_10 rfl dX7_lettersTillFirst_68 rfl ?_
        refine i_get (i := 1) (j := 0) (f := 1) (q := 74) C rfl rfl rfl hi_X7_lettersTillFirst_X0 (by decide) lk_X7_lettersTillFirst_92 rfl dX7_lettersTillFirst_71 rfl ?_
        refine i_iload_n (j := 1) (q := 75) C rfl rfl dX7_lettersTillFirst_74 rfl ?_
        refine i_lald (i := 1) (j := 2) (q := 76) C rfl rfl (by omega) dX7_lettersTillFirst_75 rfl ?_
        refine V.topJ (b := ((pck ((atP o.1 x).2.1) : Nat) : Int)) ((hb.xwo x (by omega) (by omega)).1) ?_
        refine i_callS (wr := [boW ax ab ap al ao (((pck t : Nat) : Int), ck, ba, no, fu), bkW ab (nu, wo, sc, me, us, la, ct, gv, kd, sl)]) (As := [vJ (((pck ((atP o.1 x).2.1) : Nat) : Int))]) (st := [vI n]) (q := 79) C (c_X6_lengthOf K l ((atP o.1 x).2.1) ((hb.xwo x (by omega) (by omega)).2.1) (by have := hb.xwo x (by omega) (by omega); omega)) gX7_lettersTillFirst_X6_lengthOf rfl hd_X6_lengthOf ⟨Nat.le_of_ble_eq_true rfl, Nat.le_of_ble_eq_true rfl⟩ ⟨rfl, rfl⟩ ⟨Nat.le_of_ble_eq_true rfl, Nat.le_of_ble_eq_true rfl⟩ (permBy [0, 1] (by decide) rfl rfl) rfl (Nat.le_of_ble_eq_true rfl) dX7_lettersTillFirst_76 rfl (fun v w hq => ?_)
        obtain ⟨rfl, rfl⟩ := hq
        show V X 0 0 79 [(0, vP (ax 0)), (1, vI x), (2, vI n), (3, vI i)] [vI ((((atP o.1 x).2.1).length : Nat) : Int), vI n] [boW ax ab ap al ao (((pck t : Nat) : Int), ck, ba, no, fu), bkW ab (nu, wo, sc, me, us, la, ct, gv, kd, sl)]
        refine i_icmp_gt (tgt := 86) (q := 82) C (by omega) (by omega) dX7_lettersTillFirst_79 (by decide) rfl (fun c_79 => ?_) (fun c_79 => ?_)
        · skip
          refine i_iconst (q := 87) C dX7_lettersTillFirst_86 rfl ?_
          refine i_iret C hR dX7_lettersTillFirst_87 ?_
          have hall : o.1.take i.toNat = o.1 := tk_all (by omega)
          rw [hall] at hv
          exact ⟨by
            unfold kys
            rw [← hv]
            simp only [Option.some.injEq, Sum.inl.injEq]
            split <;> omega, rfl⟩
        · skip
          refine i_iload_n (j := 2) (q := 83) C rfl rfl dX7_lettersTillFirst_82 rfl ?_
          refine i_goto (q := 87) C dX7_lettersTillFirst_83 (by decide) ?_
          refine i_iret C hR dX7_lettersTillFirst_87 ?_
          have hall : o.1.take i.toNat = o.1 := tk_all (by omega)
          rw [hall] at hv
          exact ⟨by
            unfold kys
            rw [← hv]
            simp only [Option.some.injEq, Sum.inl.injEq]
            split <;> omega, rfl⟩
      · skip
        have join_60 : ∀ (m : Int), ((m = max n (1 + ((cp (atP o.1 i).2.1 (atP o.1 x).2.1 : Nat) : Int)) ∧ (i ≠ x ∧ (sc x < sc i ∨ (sc i = sc x ∧ i < x)))) ∨ (m = n ∧ ¬ (i ≠ x ∧ (sc x < sc i ∨ (sc i = sc x ∧ i < x))))) → (0 ≤ m ∧ m ≤ 9) → V X 0 0 60 [(0, vP (ax 0)), (1, vI x), (2, vI m), (3, vI i)] [] [boW ax ab ap al ao (((pck t : Nat) : Int), ck, ba, no, fu), bkW ab (nu, wo, sc, me, us, la, ct, gv, kd, sl)] := by
          intro m hq hm0
          refine i_iinc (j := 3) (q := 63) (lv' := [(3, vI (i + 1)), (0, vP (ax 0)), (1, vI x), (2, vI m)]) C rfl (by decide) rfl dX7_lettersTillFirst_60 rfl ?_
          refine i_goto (q := 4) C dX7_lettersTillFirst_63 (by decide) ?_
          refine V.lv [1, 2, 3, 0] rfl ?_
          exact ih_4 (i + 1) (m) (by omega) (by omega) (by
            rw [fold_tk _ _ hi.1 (by omega), ← hv]
            have hsi := hb.xsc i (by omega) (by omega)
            have hni := hb.xnu i (by omega) (by omega)
            have hxlt : i < x → nu i < nu x := fun g => hb.lt i x (by omega) g (by omega)
            have hxgt : x < i → nu x < nu i := fun g => hb.lt x i (by omega) g (by omega)
            have hco : (nu i ≠ nu x ∧ (sc x < sc i ∨ (sc i = sc x ∧ nu i < nu x))) ↔ (i ≠ x ∧ (sc x < sc i ∨ (sc i = sc x ∧ i < x))) := by
              by_cases e1 : i = x
              · subst e1; constructor <;> intro z <;> exact absurd rfl z.1
              · by_cases e2 : i < x
                · have := hxlt e2; omega
                · have := hxgt (by omega); omega
            unfold kys1
            rw [← hni.2, ← hnx.2, ← hsi.2, ← hsx.2]
            rcases hq with ⟨h1, h2⟩ | ⟨h1, h2⟩
            · rw [if_pos (hco.mpr h2), h1, cp_comm (atP o.1 x).2.1 (atP o.1 i).2.1]; omega
            · rw [if_neg (fun z => h2 (hco.mp z))]; exact h1) (by omega)
        refine i_iload_n (j := 3) (q := 16) C rfl rfl dX7_lettersTillFirst_15 rfl ?_
        refine i_iload_n (j := 1) (q := 17) C rfl rfl dX7_lettersTillFirst_16 rfl ?_
        refine i_icmp_eq (tgt := 60) (q := 20) C (by omega) (by omega) dX7_lettersTillFirst_17 (by decide) rfl (fun c_17 => ?_) (fun c_17 => ?_)
        · skip
          exact join_60 (n) (by first | exact Or.inr ⟨rfl, fun z => z.1 c_17⟩ | exact Or.inr ⟨rfl, fun z => h_29 z.2⟩ | exact Or.inl ⟨rfl, c_17, h_29⟩) (by omega)
        · skip
          refine i_aload_n (j := 0) (q := 21) C rfl rfl dX7_lettersTillFirst_20 rfl ?_
          refine i_get (i := 0) (j := 0) (f := 0) (q := 24) C rfl rfl rfl hi_X7_lettersTillFirst_X7 (by decide) lk_X7_lettersTillFirst_10 rfl dX7_lettersTillFirst_21 rfl ?_
          refine i_iload_n (j := 3) (q := 25) C rfl rfl dX7_lettersTillFirst_24 rfl ?_
          refine i_iload_n (j := 1) (q := 26) C rfl rfl dX7_lettersTillFirst_25 rfl ?_
          refine i_callV (wr := [boW ax ab ap al ao (((pck t : Nat) : Int), ck, ba, no, fu)]) (As := [vI i, vI x]) (st := []) (i := 0) (j := 0) (q := 29) C (c_X0_isBefore K l (ab) (nu) (wo) (sc) (me) (us) (la) (ct) (gv) (kd) (sl) (i) (x) (by omega) (by omega) (by omega) (fun j g0 g1 => by have := hb.xsc j g0 g1; omega)) gX7_lettersTillFirst_X0_isBefore rfl hd_X0_isBefore ⟨Nat.le_of_ble_eq_true rfl, Nat.le_of_ble_eq_true rfl⟩ ⟨rfl, rfl⟩ ⟨Nat.le_of_ble_eq_true rfl, Nat.le_of_ble_eq_true rfl⟩ (permBy [1, 0] (by decide) rfl rfl) rfl rfl rfl rfl (Nat.le_of_ble_eq_true rfl) dX7_lettersTillFirst_26 rfl (fun v w hq => ?_)
          obtain ⟨rfl, rfl⟩ := hq
          show V X 0 0 29 [(0, vP (ax 0)), (1, vI x), (2, vI n), (3, vI i)] [vI (if sc x < sc i ∨ (sc i = sc x ∧ i < x) then 1 else 0)] [bkW ab (nu, wo, sc, me, us, la, ct, gv, kd, sl), boW ax ab ap al ao (((pck t : Nat) : Int), ck, ba, no, fu)]
          refine V.perm (cs' := [boW ax ab ap al ao (((pck t : Nat) : Int), ck, ba, no, fu), bkW ab (nu, wo, sc, me, us, la, ct, gv, kd, sl)]) (permBy [1, 0] (by decide) rfl rfl) ?_
          refine i_if_eq (tgt := 60) (q := 32) C (if01) dX7_lettersTillFirst_29 (by decide) rfl (fun c_29 => ?_) (fun c_29 => ?_)
          · skip
            have h_29 := if0 c_29
            exact join_60 (n) (by first | exact Or.inr ⟨rfl, fun z => z.1 c_17⟩ | exact Or.inr ⟨rfl, fun z => h_29 z.2⟩ | exact Or.inl ⟨rfl, c_17, h_29⟩) (by omega)
          · skip
            have h_29 := ifn0 c_29
            refine i_iload_n (j := 2) (q := 33) C rfl rfl dX7_lettersTillFirst_32 rfl ?_
            refine i_iconst (q := 34) C dX7_lettersTillFirst_33 rfl ?_
            refine i_aload_n (j := 0) (q := 35) C rfl rfl dX7_lettersTillFirst_34 rfl ?_
            refine i_get (i := 0) (j := 0) (f := 0) (q := 38) C rfl rfl rfl hi_X7_lettersTillFirst_X7 (by decide) lk_X7_lettersTillFirst_10 rfl dX7_lettersTillFirst_35 rfl ?_
            refine i_get (i := 1) (j := 0) (f := 1) (q := 41) C rfl rfl rfl hi_X7_lettersTillFirst_X0 (by decide) lk_X7_lettersTillFirst_92 rfl dX7_lettersTillFirst_38 rfl ?_
            refine i_iload_n (j := 3) (q := 42) C rfl rfl dX7_lettersTillFirst_41 rfl ?_
            refine i_lald (i := 1) (j := 2) (q := 43) C rfl rfl (by omega) dX7_lettersTillFirst_42 rfl ?_
            refine V.topJ (b := ((pck ((atP o.1 i).2.1) : Nat) : Int)) ((hb.xwo i (by omega) (by omega)).1) ?_
            refine i_aload_n (j := 0) (q := 44) C rfl rfl dX7_lettersTillFirst_43 rfl ?_
            refine i_get (i := 0) (j := 0) (f := 0) (q := 47) C rfl rfl rfl hi_X7_lettersTillFirst_X7 (by decide) lk_X7_lettersTillFirst_10 rfl dX7_lettersTillFirst_44 rfl ?_
            refine i_get (i := 1) (j := 0) (f := 1) (q := 50) C rfl rfl rfl hi_X7_lettersTillFirst_X0 (by decide) lk_X7_lettersTillFirst_92 rfl dX7_lettersTillFirst_47 rfl ?_
            refine i_iload_n (j := 1) (q := 51) C rfl rfl dX7_lettersTillFirst_50 rfl ?_
            refine i_lald (i := 1) (j := 2) (q := 52) C rfl rfl (by omega) dX7_lettersTillFirst_51 rfl ?_
            refine V.topJ (b := ((pck ((atP o.1 x).2.1) : Nat) : Int)) ((hb.xwo x (by omega) (by omega)).1) ?_
            refine i_callS (wr := [boW ax ab ap al ao (((pck t : Nat) : Int), ck, ba, no, fu), bkW ab (nu, wo, sc, me, us, la, ct, gv, kd, sl)]) (As := [vJ (((pck ((atP o.1 i).2.1) : Nat) : Int)), vJ (((pck ((atP o.1 x).2.1) : Nat) : Int))]) (st := [vI 1, vI n]) (q := 55) C (c_X6_sameAtFirst K l ((atP o.1 i).2.1) ((atP o.1 x).2.1) ((hb.xwo i (by omega) (by omega)).2.1) (by have := hb.xwo i (by omega) (by omega); omega) (hxl.2.1) (by omega)) gX7_lettersTillFirst_X6_sameAtFirst rfl hd_X6_sameAtFirst ⟨Nat.le_of_ble_eq_true rfl, Nat.le_of_ble_eq_true rfl⟩ ⟨rfl, rfl⟩ ⟨Nat.le_of_ble_eq_true rfl, Nat.le_of_ble_eq_true rfl⟩ (permBy [0, 1] (by decide) rfl rfl) rfl (Nat.le_of_ble_eq_true rfl) dX7_lettersTillFirst_52 rfl (fun v w hq => ?_)
            obtain ⟨rfl, rfl⟩ := hq
            show V X 0 0 55 [(0, vP (ax 0)), (1, vI x), (2, vI n), (3, vI i)] [vI ((cp ((atP o.1 i).2.1) ((atP o.1 x).2.1) : Nat) : Int), vI 1, vI n] [boW ax ab ap al ao (((pck t : Nat) : Int), ck, ba, no, fu), bkW ab (nu, wo, sc, me, us, la, ct, gv, kd, sl)]
            have hcp := cp_le (atP o.1 i).2.1 (atP o.1 x).2.1
            refine i_iadd (q := 56) C dX7_lettersTillFirst_55 rfl ?_
            refine i_mmax (q := 59) C (by omega) (by omega) (List.mem_of_getElem? (i := 4) rfl) (List.mem_of_getElem? (i := 5) rfl) (List.mem_of_getElem? (i := 6) rfl) (List.mem_of_getElem? (i := 7) rfl) ⟨Nat.le_of_ble_eq_true rfl, Nat.le_of_ble_eq_true rfl⟩ ⟨Nat.le_of_ble_eq_true rfl, Nat.le_of_ble_eq_true rfl⟩ dX7_lettersTillFirst_56 rfl ?_
            refine i_istore_n (q := 60) (lv' := [(2, vI (max n (1 + ((cp ((atP o.1 i).2.1) ((atP o.1 x).2.1) : Nat) : Int)))), (0, vP (ax 0)), (1, vI x), (3, vI i)]) C rfl (by decide) rfl dX7_lettersTillFirst_59 rfl ?_
            refine V.lv [1, 2, 0, 3] rfl ?_
            exact join_60 (max n (1 + ((cp ((atP o.1 i).2.1) ((atP o.1 x).2.1) : Nat) : Int))) (by first | exact Or.inr ⟨rfl, fun z => z.1 c_17⟩ | exact Or.inr ⟨rfl, fun z => h_29 z.2⟩ | exact Or.inl ⟨rfl, c_17, h_29⟩) (by omega)
  refine V.lv [2, 3, 1, 0] rfl ?_
  exact loop_4 _ (0) (0) (Nat.lt_succ_self _) (by omega) (rfl) (by omega)

theorem lk_X7_choose_41 : Cond.fieldLink RX7 41 (TX7 5).1 (TX7 5).2.1 (TX7 5).2.2.1 ∈ wsX7_choose := List.mem_of_getElem? (i := 1) rfl
theorem hi_X7_choose_X7 : ∀ w ∈ u_ws RX7 TX7 9, w ∈ wsX7_choose := by decide +kernel
theorem lk_X7_choose_10 : Cond.fieldLink RX7 10 (TX7 0).1 (TX7 0).2.1 (TX7 0).2.2.1 ∈ wsX7_choose := List.mem_of_getElem? (i := 6) rfl
theorem lk_X7_choose_130 : Cond.fieldLink RX7 130 (TX0 8).1 (TX0 8).2.1 (TX0 8).2.2.1 ∈ wsX7_choose := List.mem_of_getElem? (i := 7) rfl
theorem hi_X7_choose_X0 : ∀ w ∈ u_ws RX0 TX0 10, w ∈ wsX7_choose := by decide +kernel
theorem lk_X7_choose_122 : Cond.fieldLink RX7 122 (TX0 2).1 (TX0 2).2.1 (TX0 2).2.2.1 ∈ wsX7_choose := List.mem_of_getElem? (i := 8) rfl
theorem lk_X7_choose_254 : Cond.fieldLink RX7 254 (TX0 4).1 (TX0 4).2.1 (TX0 4).2.2.1 ∈ wsX7_choose := List.mem_of_getElem? (i := 9) rfl
theorem lk_X7_choose_257 : Cond.fieldLink RX7 257 (TX0 5).1 (TX0 5).2.1 (TX0 5).2.2.1 ∈ wsX7_choose := List.mem_of_getElem? (i := 10) rfl
theorem hd_X5_newScore : yX5_newScore.cls ≠ "java/lang/invoke/MethodHandle" ∧ yX5_newScore.cls ≠ "java/lang/invoke/VarHandle" ∧ (parseMethodDescriptor yX5_newScore.desc).map (fun d => d.parameters.length) = some 5 := by decide +kernel
set_option maxHeartbeats 400000 in
set_option maxRecDepth 100000 in
theorem c_X7_choose (K : KT) (l : Launch) (ax : Nat → Nat) (ap : Nat → Nat) (al : Nat → Nat) (ao : Nat → Nat) (ck : Int) (ba : Int) (no : Int) (fu : Int) (t : List Int) (ab : Nat → Nat) (nu : Int → Int) (wo : Int → Int) (sc : Int → Int) (me : Int → Int) (us : Int → Int) (la : Int → Int) (ct : Int) (gv : Int) (kd : Int) (sl : Int) (U : Int) (o : Bo) (x : Int) (hb : rpB U nu wo sc me us la ct gv kd sl o) (hx : 0 ≤ x ∧ x < ct) (hck : 0 ≤ ck ∧ ck ≤ 9999) : Mt K l yX7_choose wsX7_choose ({ frames := 3, cells := 0, slots := 0, locals := 65 }) [vP (ax 0), vI x] [boW ax ab ap al ao (((pck t : Nat) : Int), ck, ba, no, fu), bkW ab (nu, wo, sc, me, us, la, ct, gv, kd, sl)] 0 0 (fun v w => v = some (vI (nsc kd (sc x) (us x) (la x) (tick ck))) ∧ w = [boW ax ab ap al ao (((pck t : Nat) : Int), tick ck, ba, no, fu), bkW ab (nu, wo, up sc x (nsc kd (sc x) (us x) (la x) (tick ck)), me, up us x (us x + 1), up la x (tick ck), ct, gv, kd, sl)]) := by
  refine Mt.of (own := RX7) (cc := cX7_choose) (maxL := 3) (ret := (some .int)) (lv0 := [(0, vP (ax 0)), (1, vI x)]) (by decide) rfl rfl (Nat.le_of_ble_eq_true rfl) rfl (fun X C hR hNm => ?_)
  have hct := hb.xct
  have hgv := hb.xgv
  have hkd := hb.xkd
  have htk : 0 ≤ tick ck ∧ tick ck ≤ 9999 := by unfold tick; omega
  refine i_aload_n (j := 0) (q := 1) C rfl rfl dX7_choose_0 rfl ?_
  refine i_aload_n (j := 0) (q := 2) C rfl rfl dX7_choose_1 rfl ?_
  refine i_get (i := 0) (j := 0) (f := 5) (q := 5) C rfl rfl rfl hi_X7_choose_X7 (by decide) lk_X7_choose_41 rfl dX7_choose_2 rfl ?_
  refine i_iconst (q := 6) C dX7_choose_5 rfl ?_
  refine i_iadd (q := 7) C dX7_choose_6 rfl ?_
  refine i_sipush (q := 10) C (by decide) dX7_choose_7 rfl ?_
  refine i_mmin (q := 13) C (by omega) (by omega) (List.mem_of_getElem? (i := 2) rfl) (List.mem_of_getElem? (i := 3) rfl) (List.mem_of_getElem? (i := 4) rfl) (List.mem_of_getElem? (i := 5) rfl) ⟨Nat.le_of_ble_eq_true rfl, Nat.le_of_ble_eq_true rfl⟩ ⟨Nat.le_of_ble_eq_true rfl, Nat.le_of_ble_eq_true rfl⟩ dX7_choose_10 rfl ?_
  refine i_putI (i := 0) (j := 0) (f := 5) (q := 16) (cs' := [boW ax ab ap al ao (((pck t : Nat) : Int), min (ck + 1) 9999, ba, no, fu), bkW ab (nu, wo, sc, me, us, la, ct, gv, kd, sl)]) C rfl rfl rfl hi_X7_choose_X7 tyX7 tyX7_ok nmX7 (by decide) (Nat.le_of_ble_eq_true rfl) lk_X7_choose_41 rfl rfl dX7_choose_13 rfl rfl ?_
  refine V.cs (cs' := [boW ax ab ap al ao (((pck t : Nat) : Int), tick ck, ba, no, fu), bkW ab (nu, wo, sc, me, us, la, ct, gv, kd, sl)]) (by simp only [tick]) ?_
  refine i_aload_n (j := 0) (q := 17) C rfl rfl dX7_choose_16 rfl ?_
  refine i_get (i := 0) (j := 0) (f := 0) (q := 20) C rfl rfl rfl hi_X7_choose_X7 (by decide) lk_X7_choose_10 rfl dX7_choose_17 rfl ?_
  refine i_get (i := 1) (j := 0) (f := 8) (q := 23) C rfl rfl rfl hi_X7_choose_X0 (by decide) lk_X7_choose_130 rfl dX7_choose_20 rfl ?_
  refine i_aload_n (j := 0) (q := 24) C rfl rfl dX7_choose_23 rfl ?_
  refine i_get (i := 0) (j := 0) (f := 0) (q := 27) C rfl rfl rfl hi_X7_choose_X7 (by decide) lk_X7_choose_10 rfl dX7_choose_24 rfl ?_
  refine i_get (i := 1) (j := 0) (f := 2) (q := 30) C rfl rfl rfl hi_X7_choose_X0 (by decide) lk_X7_choose_122 rfl dX7_choose_27 rfl ?_
  refine i_iload_n (j := 1) (q := 31) C rfl rfl dX7_choose_30 rfl ?_
  refine i_iald (i := 1) (j := 3) (q := 32) C rfl rfl (by omega) dX7_choose_31 rfl ?_
  have ld_31 := hb.xsc x (by omega) (by omega)
  refine i_aload_n (j := 0) (q := 33) C rfl rfl dX7_choose_32 rfl ?_
  refine i_get (i := 0) (j := 0) (f := 0) (q := 36) C rfl rfl rfl hi_X7_choose_X7 (by decide) lk_X7_choose_10 rfl dX7_choose_33 rfl ?_
  refine i_get (i := 1) (j := 0) (f := 4) (q := 39) C rfl rfl rfl hi_X7_choose_X0 (by decide) lk_X7_choose_254 rfl dX7_choose_36 rfl ?_
  refine i_iload_n (j := 1) (q := 40) C rfl rfl dX7_choose_39 rfl ?_
  refine i_iald (i := 1) (j := 5) (q := 41) C rfl rfl (by omega) dX7_choose_40 rfl ?_
  have ld_40 := hb.xus x (by omega) (by omega)
  refine i_aload_n (j := 0) (q := 42) C rfl rfl dX7_choose_41 rfl ?_
  refine i_get (i := 0) (j := 0) (f := 0) (q := 45) C rfl rfl rfl hi_X7_choose_X7 (by decide) lk_X7_choose_10 rfl dX7_choose_42 rfl ?_
  refine i_get (i := 1) (j := 0) (f := 5) (q := 48) C rfl rfl rfl hi_X7_choose_X0 (by decide) lk_X7_choose_257 rfl dX7_choose_45 rfl ?_
  refine i_iload_n (j := 1) (q := 49) C rfl rfl dX7_choose_48 rfl ?_
  refine i_iald (i := 1) (j := 6) (q := 50) C rfl rfl (by omega) dX7_choose_49 rfl ?_
  have ld_49 := hb.xla x (by omega) (by omega)
  refine i_aload_n (j := 0) (q := 51) C rfl rfl dX7_choose_50 rfl ?_
  refine i_get (i := 0) (j := 0) (f := 5) (q := 54) C rfl rfl rfl hi_X7_choose_X7 (by decide) lk_X7_choose_41 rfl dX7_choose_51 rfl ?_
  refine i_callS (wr := [boW ax ab ap al ao (((pck t : Nat) : Int), tick ck, ba, no, fu), bkW ab (nu, wo, sc, me, us, la, ct, gv, kd, sl)]) (As := [vI kd, vI (sc x), vI (us x), vI (la x), vI (tick ck)]) (st := []) (q := 57) C (c_X5_newScore K l (kd) (sc x) (us x) (la x) (tick ck) (by omega) (by omega) (by omega) (by omega) (by omega)) gX7_choose_X5_newScore rfl hd_X5_newScore ⟨Nat.le_of_ble_eq_true rfl, Nat.le_of_ble_eq_true rfl⟩ ⟨rfl, rfl⟩ ⟨Nat.le_of_ble_eq_true rfl, Nat.le_of_ble_eq_true rfl⟩ (permBy [0, 1] (by decide) rfl rfl) rfl (Nat.le_of_ble_eq_true rfl) dX7_choose_54 rfl (fun v w hq => ?_)
  obtain ⟨rfl, rfl⟩ := hq
  show V X 0 0 57 [(0, vP (ax 0)), (1, vI x)] [vI (nsc kd (sc x) (us x) (la x) (tick ck))] [boW ax ab ap al ao (((pck t : Nat) : Int), tick ck, ba, no, fu), bkW ab (nu, wo, sc, me, us, la, ct, gv, kd, sl)]
  refine i_istore_n (q := 58) (lv' := [(2, vI (nsc kd (sc x) (us x) (la x) (tick ck))), (0, vP (ax 0)), (1, vI x)]) C rfl (by decide) rfl dX7_choose_57 rfl ?_
  refine i_aload_n (j := 1) (q := 59) C rfl rfl dX7_choose_58 rfl ?_
  refine i_get (i := 0) (j := 0) (f := 0) (q := 62) C rfl rfl rfl hi_X7_choose_X7 (by decide) lk_X7_choose_10 rfl dX7_choose_59 rfl ?_
  refine i_get (i := 1) (j := 0) (f := 2) (q := 65) C rfl rfl rfl hi_X7_choose_X0 (by decide) lk_X7_choose_122 rfl dX7_choose_62 rfl ?_
  refine i_iload_n (j := 2) (q := 66) C rfl rfl dX7_choose_65 rfl ?_
  refine i_iload_n (j := 0) (q := 67) C rfl rfl dX7_choose_66 rfl ?_
  refine i_iast (i := 1) (j := 3) (q := 68) (cs' := [boW ax ab ap al ao (((pck t : Nat) : Int), tick ck, ba, no, fu), bkW ab (nu, wo, up sc x (nsc kd (sc x) (us x) (la x) (tick ck)), me, us, la, ct, gv, kd, sl)]) C rfl rfl (by omega) dX7_choose_67 rfl rfl ?_
  refine i_aload_n (j := 1) (q := 69) C rfl rfl dX7_choose_68 rfl ?_
  refine i_get (i := 0) (j := 0) (f := 0) (q := 72) C rfl rfl rfl hi_X7_choose_X7 (by decide) lk_X7_choose_10 rfl dX7_choose_69 rfl ?_
  refine i_get (i := 1) (j := 0) (f := 4) (q := 75) C rfl rfl rfl hi_X7_choose_X0 (by decide) lk_X7_choose_254 rfl dX7_choose_72 rfl ?_
  refine i_iload_n (j := 2) (q := 76) C rfl rfl dX7_choose_75 rfl ?_
  refine i_dup2 (q := 77) C rfl rfl dX7_choose_76 rfl ?_
  refine i_iald (i := 1) (j := 5) (q := 78) C rfl rfl (by omega) dX7_choose_77 rfl ?_
  have ld_77 := hb.xus x (by omega) (by omega)
  refine i_iconst (q := 79) C dX7_choose_78 rfl ?_
  refine i_iadd (q := 80) C dX7_choose_79 rfl ?_
  refine i_iast (i := 1) (j := 5) (q := 81) (cs' := [boW ax ab ap al ao (((pck t : Nat) : Int), tick ck, ba, no, fu), bkW ab (nu, wo, up sc x (nsc kd (sc x) (us x) (la x) (tick ck)), me, up us x ((us x) + 1), la, ct, gv, kd, sl)]) C rfl rfl (by omega) dX7_choose_80 rfl rfl ?_
  refine i_aload_n (j := 1) (q := 82) C rfl rfl dX7_choose_81 rfl ?_
  refine i_get (i := 0) (j := 0) (f := 0) (q := 85) C rfl rfl rfl hi_X7_choose_X7 (by decide) lk_X7_choose_10 rfl dX7_choose_82 rfl ?_
  refine i_get (i := 1) (j := 0) (f := 5) (q := 88) C rfl rfl rfl hi_X7_choose_X0 (by decide) lk_X7_choose_257 rfl dX7_choose_85 rfl ?_
  refine i_iload_n (j := 2) (q := 89) C rfl rfl dX7_choose_88 rfl ?_
  refine i_aload_n (j := 1) (q := 90) C rfl rfl dX7_choose_89 rfl ?_
  refine i_get (i := 0) (j := 0) (f := 5) (q := 93) C rfl rfl rfl hi_X7_choose_X7 (by decide) lk_X7_choose_41 rfl dX7_choose_90 rfl ?_
  refine i_iast (i := 1) (j := 6) (q := 94) (cs' := [boW ax ab ap al ao (((pck t : Nat) : Int), tick ck, ba, no, fu), bkW ab (nu, wo, up sc x (nsc kd (sc x) (us x) (la x) (tick ck)), me, up us x ((us x) + 1), up la x (tick ck), ct, gv, kd, sl)]) C rfl rfl (by omega) dX7_choose_93 rfl rfl ?_
  refine i_iload_n (j := 0) (q := 95) C rfl rfl dX7_choose_94 rfl ?_
  refine i_iret C hR dX7_choose_95 ?_
  exact ⟨rfl, rfl⟩

theorem hd_X6_letterAt : yX6_letterAt.cls ≠ "java/lang/invoke/MethodHandle" ∧ yX6_letterAt.cls ≠ "java/lang/invoke/VarHandle" ∧ (parseMethodDescriptor yX6_letterAt.desc).map (fun d => d.parameters.length) = some 2 := by decide +kernel
set_option maxHeartbeats 400000 in
set_option maxRecDepth 100000 in
theorem c_X7_mixLetters (K : KT) (l : Launch) (h : Int) (wl : List Int) (hwl : okL wl) (lwl : wl.length ≤ 12) : Mt K l yX7_mixLetters wsX7_mixLetters ({ frames := 3, cells := 0, slots := 0, locals := 64 }) [vJ h, vJ (((pck wl : Nat) : Int))] [] 0 0 (fun v w => v = some (vJ (wl.foldl mx h)) ∧ w = []) := by
  refine Mt.of (own := RX7) (cc := cX7_mixLetters) (maxL := 8) (ret := (some .long)) (lv0 := [(0, vJ h), (2, vJ (((pck wl : Nat) : Int)))]) (by decide) rfl rfl (Nat.le_of_ble_eq_true rfl) rfl (fun X C hR hNm => ?_)
  refine i_lload_n (j := 0) (q := 1) C rfl rfl dX7_mixLetters_0 rfl ?_
  refine i_lstore (q := 3) (lv' := [(4, vJ h), (0, vJ h), (2, vJ (((pck wl : Nat) : Int)))]) C (by decide) rfl dX7_mixLetters_1 rfl ?_
  refine i_lload_n (j := 2) (q := 4) C rfl rfl dX7_mixLetters_3 rfl ?_
  refine i_callS (wr := []) (As := [vJ (((pck wl : Nat) : Int))]) (st := []) (q := 7) C (c_X6_lengthOf K l (wl) (by first | assumption | omega) (by omega)) gX7_mixLetters_X6_lengthOf rfl hd_X6_lengthOf ⟨Nat.le_of_ble_eq_true rfl, Nat.le_of_ble_eq_true rfl⟩ ⟨rfl, rfl⟩ ⟨Nat.le_of_ble_eq_true rfl, Nat.le_of_ble_eq_true rfl⟩ (permBy [] (by decide) rfl rfl) rfl (Nat.le_of_ble_eq_true rfl) dX7_mixLetters_4 rfl (fun v w hq => ?_)
  obtain ⟨rfl, rfl⟩ := hq
  show V X 0 0 7 [(4, vJ h), (0, vJ h), (2, vJ (((pck wl : Nat) : Int)))] [vI ((wl.length : Nat) : Int)] []
  refine i_istore (q := 9) (lv' := [(6, vI ((wl.length : Nat) : Int)), (4, vJ h), (0, vJ h), (2, vJ (((pck wl : Nat) : Int)))]) C (by decide) rfl dX7_mixLetters_7 rfl ?_
  refine i_iconst (q := 10) C dX7_mixLetters_9 rfl ?_
  refine i_istore (q := 12) (lv' := [(7, vI 0), (6, vI ((wl.length : Nat) : Int)), (4, vJ h), (0, vJ h), (2, vJ (((pck wl : Nat) : Int)))]) C (by decide) rfl dX7_mixLetters_10 rfl ?_
  have loop_12 : ∀ (fuel : Nat) (k : Int) (h4 : Int), ((((wl.length : Nat) : Int) - k).toNat) < fuel → (0 ≤ k ∧ k ≤ ((wl.length : Nat) : Int)) → (h4 = (wl.take k.toNat).foldl mx h) → V X 0 0 12 [(0, vJ h), (2, vJ (((pck wl : Nat) : Int))), (4, vJ h4), (6, vI ((wl.length : Nat) : Int)), (7, vI k)] [] [] := by
    intro fuel
    induction fuel with
    | zero => intro k h4 hz; exact absurd hz (Nat.not_lt_zero _)
    | succ fuel ih_12 =>
      intro k h4 hfu_12 hk hv
      refine i_iload (j := 4) (q := 14) C rfl dX7_mixLetters_12 rfl ?_
      refine i_iload (j := 3) (q := 16) C rfl dX7_mixLetters_14 rfl ?_
      refine i_icmp_ge (tgt := 41) (q := 19) C (by omega) (by omega) dX7_mixLetters_16 (by decide) rfl (fun c_16 => ?_) (fun c_16 => ?_)
      · skip
        refine i_lload (j := 2) (q := 43) C rfl dX7_mixLetters_41 rfl ?_
        refine i_lret C hR dX7_mixLetters_43 ?_
        exact ⟨by rw [hv, List.take_of_length_le (by omega)], rfl⟩
      · skip
        refine i_ldc2 (z := 31) (q := 22) C (List.mem_of_getElem? (i := 1) rfl) dX7_mixLetters_19 rfl ?_
        refine i_lload (j := 2) (q := 24) C rfl dX7_mixLetters_22 rfl ?_
        refine i_lmul (q := 25) C dX7_mixLetters_24 rfl ?_
        refine i_lload_n (j := 1) (q := 26) C rfl rfl dX7_mixLetters_25 rfl ?_
        refine i_iload (j := 4) (q := 28) C rfl dX7_mixLetters_26 rfl ?_
        refine i_callS (wr := []) (As := [vJ (((pck wl : Nat) : Int)), vI k]) (st := [vJ (31 * h4)]) (q := 31) C (c_X6_letterAt K l (wl) (k) (by first | assumption | omega) (by omega) (by first | assumption | omega)) gX7_mixLetters_X6_letterAt rfl hd_X6_letterAt ⟨Nat.le_of_ble_eq_true rfl, Nat.le_of_ble_eq_true rfl⟩ ⟨rfl, rfl⟩ ⟨Nat.le_of_ble_eq_true rfl, Nat.le_of_ble_eq_true rfl⟩ (permBy [] (by decide) rfl rfl) rfl (Nat.le_of_ble_eq_true rfl) dX7_mixLetters_28 rfl (fun v w hq => ?_)
        obtain ⟨rfl, rfl⟩ := hq
        show V X 0 0 31 [(0, vJ h), (2, vJ (((pck wl : Nat) : Int))), (4, vJ h4), (6, vI ((wl.length : Nat) : Int)), (7, vI k)] [vI (wl.getD k.toNat (-1)), vJ (31 * h4)] []
        refine i_i2l (q := 32) C (by have := okL_getD hwl k.toNat; omega) dX7_mixLetters_31 rfl ?_
        refine i_ladd (q := 33) C dX7_mixLetters_32 rfl ?_
        refine i_lstore (q := 35) (lv' := [(4, vJ ((31 * h4) + (wl.getD k.toNat (-1)))), (0, vJ h), (2, vJ (((pck wl : Nat) : Int))), (6, vI ((wl.length : Nat) : Int)), (7, vI k)]) C (by decide) rfl dX7_mixLetters_33 rfl ?_
        refine i_iinc (j := 4) (q := 38) (lv' := [(7, vI (k + 1)), (4, vJ ((31 * h4) + (wl.getD k.toNat (-1)))), (0, vJ h), (2, vJ (((pck wl : Nat) : Int))), (6, vI ((wl.length : Nat) : Int))]) C rfl (by decide) rfl dX7_mixLetters_35 rfl ?_
        refine i_goto (q := 12) C dX7_mixLetters_38 (by decide) ?_
        refine V.lv [2, 3, 1, 4, 0] rfl ?_
        exact ih_12 (k + 1) ((31 * h4) + (wl.getD k.toNat (-1))) (by omega) (by omega) (by rw [foldl_tk _ _ hk.1 (by omega), ← hv]; rfl)
  refine V.lv [3, 4, 2, 1, 0] rfl ?_
  exact loop_12 _ (0) (h) (Nat.lt_succ_self _) (by omega) (rfl)
