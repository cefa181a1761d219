set_option maxHeartbeats 400000 in
set_option maxRecDepth 100000 in
theorem c_J0_coder_7d493 (K : KT) (l : Launch) (i : Nat) (hi : i < 7) : Mt K l yJ0_coder_7d493 wsJ0_coder_7d493 ({ frames := 0, cells := 0, slots := 0, locals := 0 }) [vP (K.2.2.2.2.2.1 i)] [] 0 0 (fun v w => v = some (vI 0) ∧ w = []) := by
  refine Mt.of (own := RJ0) (cc := cJ0_coder_7d493) (maxL := 1) (ret := (some .byte)) (lv0 := [(0, vP (K.2.2.2.2.2.1 i))]) (by decide) rfl rfl (Nat.le_of_ble_eq_true rfl) rfl (fun X C hR hNm => ?_)
  refine i_getsC (q := 3) C (List.mem_of_getElem? (i := 1) rfl) dJ0_coder_7d493_0 rfl ?_
  refine i_if_eq (tgt := 13) (q := 6) C (by omega) dJ0_coder_7d493_3 (by decide) rfl (fun c_3 => ?_) (fun c_3 => ?_)
  · skip
    exact absurd c_3 (by decide)
  · skip
    refine i_aload_n (j := 0) (q := 7) C rfl rfl dJ0_coder_7d493_6 rfl ?_
    refine i_scod (i := i) (q := 10) C (hi) (List.mem_of_getElem? (i := 2) rfl) dJ0_coder_7d493_7 rfl ?_
    refine i_goto (q := 14) C dJ0_coder_7d493_10 (by decide) ?_
    refine i_bret C hR (by omega) dJ0_coder_7d493_14 ?_
    exact ⟨rfl, rfl⟩

set_option maxHeartbeats 400000 in
set_option maxRecDepth 100000 in
theorem c_J0_isLatin1_aae02 (K : KT) (l : Launch) (i : Nat) (hi : i < 7) : Mt K l yJ0_isLatin1_aae02 wsJ0_isLatin1_aae02 ({ frames := 0, cells := 0, slots := 0, locals := 0 }) [vP (K.2.2.2.2.2.1 i)] [] 0 0 (fun v w => v = some (vI 1) ∧ w = []) := by
  refine Mt.of (own := RJ0) (cc := cJ0_isLatin1_aae02) (maxL := 1) (ret := (some .boolean)) (lv0 := [(0, vP (K.2.2.2.2.2.1 i))]) (by decide) rfl rfl (Nat.le_of_ble_eq_true rfl) rfl (fun X C hR hNm => ?_)
  refine i_getsC (q := 3) C (List.mem_of_getElem? (i := 1) rfl) dJ0_isLatin1_aae02_0 rfl ?_
  refine i_if_eq (tgt := 17) (q := 6) C (by omega) dJ0_isLatin1_aae02_3 (by decide) rfl (fun c_3 => ?_) (fun c_3 => ?_)
  · skip
    exact absurd c_3 (by decide)
  · skip
    refine i_aload_n (j := 0) (q := 7) C rfl rfl dJ0_isLatin1_aae02_6 rfl ?_
    refine i_scod (i := i) (q := 10) C (hi) (List.mem_of_getElem? (i := 2) rfl) dJ0_isLatin1_aae02_7 rfl ?_
    refine i_if_ne (tgt := 17) (q := 13) C (by omega) dJ0_isLatin1_aae02_10 (by decide) rfl (fun c_10 => ?_) (fun c_10 => ?_)
    · skip
      exact absurd rfl c_10
    · skip
      refine i_iconst (q := 14) C dJ0_isLatin1_aae02_13 rfl ?_
      refine i_goto (q := 18) C dJ0_isLatin1_aae02_14 (by decide) ?_
      refine i_zret C hR (by omega) dJ0_isLatin1_aae02_18 ?_
      exact ⟨rfl, rfl⟩

theorem hd_J0_coder_7d493 : yJ0_coder_7d493.cls = RJ0 ∧ yJ0_coder_7d493.cls ≠ "java/lang/invoke/MethodHandle" ∧ yJ0_coder_7d493.cls ≠ "java/lang/invoke/VarHandle" ∧ (parseMethodDescriptor yJ0_coder_7d493.desc).map (fun d => d.parameters.length) = some 0 := by decide +kernel
set_option maxHeartbeats 400000 in
set_option maxRecDepth 100000 in
theorem c_J0_length_8abf5 (K : KT) (l : Launch) (i : Nat) (hi : i < 7) : Mt K l yJ0_length_8abf5 wsJ0_length_8abf5 ({ frames := 1, cells := 0, slots := 0, locals := 20 }) [vP (K.2.2.2.2.2.1 i)] [] 0 0 (fun v w => v = some (vI (((sN.getD i 0 : Nat) : Int))) ∧ w = []) := by
  refine Mt.of (own := RJ0) (cc := cJ0_length_8abf5) (maxL := 1) (ret := (some .int)) (lv0 := [(0, vP (K.2.2.2.2.2.1 i))]) (by decide) rfl rfl (Nat.le_of_ble_eq_true rfl) rfl (fun X C hR hNm => ?_)
  refine i_aload_n (j := 0) (q := 1) C rfl rfl dJ0_length_8abf5_0 rfl ?_
  refine i_sval (i := i) (q := 4) C (hi) (List.mem_of_getElem? (i := 1) rfl) dJ0_length_8abf5_1 rfl ?_
  refine i_slen (i := i) (q := 5) C (hi) dJ0_length_8abf5_4 rfl ?_
  refine i_aload_n (j := 0) (q := 6) C rfl rfl dJ0_length_8abf5_5 rfl ?_
  refine i_callVS (wr := []) (As := []) (st := [vI (((sN.getD i 0 : Nat) : Int))]) (i := (i)) (q := 9) (hi) C (c_J0_coder_7d493 K l (i) (hi)) gJ0_length_8abf5_J0_coder_7d493 rfl hd_J0_coder_7d493 ⟨Nat.le_of_ble_eq_true rfl, Nat.le_of_ble_eq_true rfl⟩ ⟨rfl, rfl⟩ ⟨Nat.le_of_ble_eq_true rfl, Nat.le_of_ble_eq_true rfl⟩ (permBy [] (by decide) rfl rfl) rfl (Nat.le_of_ble_eq_true rfl) dJ0_length_8abf5_6 rfl (fun v w hq => ?_)
  obtain ⟨rfl, rfl⟩ := hq
  show V X 0 0 9 [(0, vP (K.2.2.2.2.2.1 i))] [vI 0, vI (((sN.getD i 0 : Nat) : Int))] []
  refine i_ishr (z := ((sN.getD i 0 : Nat) : Int)) (q := 10) C (sh0 i hi) dJ0_length_8abf5_9 rfl ?_
  refine i_iret C hR dJ0_length_8abf5_10 ?_
  exact ⟨rfl, rfl⟩

set_option maxHeartbeats 400000 in
set_option maxRecDepth 100000 in
theorem c_J3_chkN (K : KT) (l : Launch) (x : Int) (y : Int) (hx : 0 ≤ x ∧ x < y) (hy : y < 1000) : Mt K l yJ3_checkIndex_8e157 wsJ3_checkIndex_8e157 ({ frames := 0, cells := 0, slots := 0, locals := 0 }) [vI x, vI y, vN] [] 0 0 (fun v w => v = some (vI x) ∧ w = []) := by
  refine Mt.of (own := RJ3) (cc := cJ3_checkIndex_8e157) (maxL := 3) (ret := (some .int)) (lv0 := [(0, vI x), (1, vI y), (2, vN)]) (by decide) rfl rfl (Nat.le_of_ble_eq_true rfl) rfl (fun X C hR hNm => ?_)
  refine i_iload_n (j := 0) (q := 1) C rfl rfl dJ3_checkIndex_8e157_0 rfl ?_
  refine i_if_lt (tgt := 9) (q := 4) C (by omega) dJ3_checkIndex_8e157_1 (by decide) rfl (fun c_1 => ?_) (fun c_1 => ?_)
  · skip
    exact absurd c_1 (by omega)
  · skip
    refine i_iload_n (j := 0) (q := 5) C rfl rfl dJ3_checkIndex_8e157_4 rfl ?_
    refine i_iload_n (j := 1) (q := 6) C rfl rfl dJ3_checkIndex_8e157_5 rfl ?_
    refine i_icmp_lt (tgt := 16) (q := 9) C (by omega) (by omega) dJ3_checkIndex_8e157_6 (by decide) rfl (fun c_6 => ?_) (fun c_6 => ?_)
    · skip
      refine i_iload_n (j := 0) (q := 17) C rfl rfl dJ3_checkIndex_8e157_16 rfl ?_
      refine i_iret C hR dJ3_checkIndex_8e157_17 ?_
      exact ⟨rfl, rfl⟩
    · skip
      exact absurd c_6 (by omega)

set_option maxHeartbeats 400000 in
set_option maxRecDepth 100000 in
theorem c_J3_chkP (K : KT) (l : Launch) (x : Int) (y : Int) (fm : Nat) (hx : 0 ≤ x ∧ x < y) (hy : y < 1000) : Mt K l yJ3_checkIndex_8e157 wsJ3_checkIndex_8e157 ({ frames := 0, cells := 0, slots := 0, locals := 0 }) [vI x, vI y, vP fm] [] 0 0 (fun v w => v = some (vI x) ∧ w = []) := by
  refine Mt.of (own := RJ3) (cc := cJ3_checkIndex_8e157) (maxL := 3) (ret := (some .int)) (lv0 := [(0, vI x), (1, vI y), (2, vP fm)]) (by decide) rfl rfl (Nat.le_of_ble_eq_true rfl) rfl (fun X C hR hNm => ?_)
  refine i_iload_n (j := 0) (q := 1) C rfl rfl dJ3_checkIndex_8e157_0 rfl ?_
  refine i_if_lt (tgt := 9) (q := 4) C (by omega) dJ3_checkIndex_8e157_1 (by decide) rfl (fun c_1 => ?_) (fun c_1 => ?_)
  · skip
    exact absurd c_1 (by omega)
  · skip
    refine i_iload_n (j := 0) (q := 5) C rfl rfl dJ3_checkIndex_8e157_4 rfl ?_
    refine i_iload_n (j := 1) (q := 6) C rfl rfl dJ3_checkIndex_8e157_5 rfl ?_
    refine i_icmp_lt (tgt := 16) (q := 9) C (by omega) (by omega) dJ3_checkIndex_8e157_6 (by decide) rfl (fun c_6 => ?_) (fun c_6 => ?_)
    · skip
      refine i_iload_n (j := 0) (q := 17) C rfl rfl dJ3_checkIndex_8e157_16 rfl ?_
      refine i_iret C hR dJ3_checkIndex_8e157_17 ?_
      exact ⟨rfl, rfl⟩
    · skip
      exact absurd c_6 (by omega)

theorem hd_J3_checkIndex_8e157 : yJ3_checkIndex_8e157.cls ≠ "java/lang/invoke/MethodHandle" ∧ yJ3_checkIndex_8e157.cls ≠ "java/lang/invoke/VarHandle" ∧ (parseMethodDescriptor yJ3_checkIndex_8e157.desc).map (fun d => d.parameters.length) = some 3 := by decide +kernel
set_option maxHeartbeats 400000 in
set_option maxRecDepth 100000 in
theorem c_J0_checkIndex_df160 (K : KT) (l : Launch) (x : Int) (y : Int) (hx : 0 ≤ x ∧ x < y) (hy : y < 1000) : Mt K l yJ0_checkIndex_df160 wsJ0_checkIndex_df160 ({ frames := 1, cells := 0, slots := 0, locals := 22 }) [vI x, vI y] [] 0 0 (fun v w => v = none ∧ w = []) := by
  refine Mt.of (own := RJ0) (cc := cJ0_checkIndex_df160) (maxL := 2) (ret := none) (lv0 := [(0, vI x), (1, vI y)]) (by decide) rfl rfl (Nat.le_of_ble_eq_true rfl) rfl (fun X C hR hNm => ?_)
  refine i_iload_n (j := 0) (q := 1) C rfl rfl dJ0_checkIndex_df160_0 rfl ?_
  refine i_iload_n (j := 1) (q := 2) C rfl rfl dJ0_checkIndex_df160_1 rfl ?_
  refine i_getsq (q := 5) C (List.mem_of_getElem? (i := 1) rfl) dJ0_checkIndex_df160_2 rfl ?_ (fun ft => ?_)
  · skip
    refine i_callS (wr := []) (As := [vI x, vI y, vN]) (st := []) (q := 8) C (c_J3_chkN K l (x) (y) (hx) (hy)) gJ0_checkIndex_df160_J3_checkIndex_8e157 rfl hd_J3_checkIndex_8e157 ⟨Nat.le_of_ble_eq_true rfl, Nat.le_of_ble_eq_true rfl⟩ ⟨rfl, rfl⟩ ⟨Nat.le_of_ble_eq_true rfl, Nat.le_of_ble_eq_true rfl⟩ (permBy [] (by decide) rfl rfl) rfl (Nat.le_of_ble_eq_true rfl) dJ0_checkIndex_df160_5 rfl (fun v w hq => ?_)
    obtain ⟨rfl, rfl⟩ := hq
    show V X 0 0 8 [(0, vI x), (1, vI y)] [vI x] []
    refine i_pop (q := 9) C rfl dJ0_checkIndex_df160_8 rfl ?_
    refine i_vret C hR dJ0_checkIndex_df160_9 ?_
    exact ⟨rfl, rfl⟩
  · skip
    refine i_callS (wr := []) (As := [vI x, vI y, vP ft]) (st := []) (q := 8) C (c_J3_chkP K l (x) (y) (ft) (hx) (hy)) gJ0_checkIndex_df160_J3_checkIndex_8e157 rfl hd_J3_checkIndex_8e157 ⟨Nat.le_of_ble_eq_true rfl, Nat.le_of_ble_eq_true rfl⟩ ⟨rfl, rfl⟩ ⟨Nat.le_of_ble_eq_true rfl, Nat.le_of_ble_eq_true rfl⟩ (permBy [] (by decide) rfl rfl) rfl (Nat.le_of_ble_eq_true rfl) dJ0_checkIndex_df160_5 rfl (fun v w hq => ?_)
    obtain ⟨rfl, rfl⟩ := hq
    show V X 0 0 8 [(0, vI x), (1, vI y)] [vI x] []
    refine i_pop (q := 9) C rfl dJ0_checkIndex_df160_8 rfl ?_
    refine i_vret C hR dJ0_checkIndex_df160_9 ?_
    exact ⟨rfl, rfl⟩

theorem hd_J0_checkIndex_df160 : yJ0_checkIndex_df160.cls ≠ "java/lang/invoke/MethodHandle" ∧ yJ0_checkIndex_df160.cls ≠ "java/lang/invoke/VarHandle" ∧ (parseMethodDescriptor yJ0_checkIndex_df160.desc).map (fun d => d.parameters.length) = some 2 := by decide +kernel
set_option maxHeartbeats 400000 in
set_option maxRecDepth 100000 in
theorem c_J1_charAt_3b067 (K : KT) (l : Launch) (i : Nat) (x : Int) (hi : i < 7) (hx : 0 ≤ x ∧ x < ((sN.getD i 0 : Nat) : Int)) : Mt K l yJ1_charAt_3b067 wsJ1_charAt_3b067 ({ frames := 2, cells := 0, slots := 0, locals := 43 }) [vP (K.2.2.2.2.2.2 i), vI x] [] 0 0 (fun v w => v = some (vI ((nmz i).getD x.toNat 0)) ∧ w = []) := by
  refine Mt.of (own := RJ1) (cc := cJ1_charAt_3b067) (maxL := 2) (ret := (some .char)) (lv0 := [(0, vP (K.2.2.2.2.2.2 i)), (1, vI x)]) (by decide) rfl rfl (Nat.le_of_ble_eq_true rfl) rfl (fun X C hR hNm => ?_)
  have hN5 := sN_le i hi
  have hby := nmz_by i hi x.toNat (by omega)
  refine i_iload_n (j := 1) (q := 1) C rfl rfl dJ1_charAt_3b067_0 rfl ?_
  refine i_aload_n (j := 0) (q := 2) C rfl rfl dJ1_charAt_3b067_1 rfl ?_
  refine i_slen (i := i) (q := 3) C (hi) dJ1_charAt_3b067_2 rfl ?_
  refine i_callS (wr := []) (As := [vI x, vI (((sN.getD i 0 : Nat) : Int))]) (st := []) (q := 6) C (c_J0_checkIndex_df160 K l (x) (((sN.getD i 0 : Nat) : Int)) (hx) (by omega)) gJ1_charAt_3b067_J0_checkIndex_df160 rfl hd_J0_checkIndex_df160 ⟨Nat.le_of_ble_eq_true rfl, Nat.le_of_ble_eq_true rfl⟩ ⟨rfl, rfl⟩ ⟨Nat.le_of_ble_eq_true rfl, Nat.le_of_ble_eq_true rfl⟩ (permBy [] (by decide) rfl rfl) rfl (Nat.le_of_ble_eq_true rfl) dJ1_charAt_3b067_3 rfl (fun v w hq => ?_)
  obtain ⟨rfl, rfl⟩ := hq
  show V X 0 0 6 [(0, vP (K.2.2.2.2.2.2 i)), (1, vI x)] [] []
  refine i_aload_n (j := 0) (q := 7) C rfl rfl dJ1_charAt_3b067_6 rfl ?_
  refine i_iload_n (j := 1) (q := 8) C rfl rfl dJ1_charAt_3b067_7 rfl ?_
  refine i_sbal (i := i) (q := 9) C (hi) (hx) dJ1_charAt_3b067_8 rfl ?_
  refine i_sipush (q := 12) C (by decide) dJ1_charAt_3b067_9 rfl ?_
  refine i_iand (z := (nmz i).getD x.toNat 0) (q := 13) C (hby.1) dJ1_charAt_3b067_12 rfl ?_
  refine i_i2c (z := (nmz i).getD x.toNat 0) (q := 14) C (hby.2.1) dJ1_charAt_3b067_13 rfl ?_
  refine i_cret C hR (hby.2.2) dJ1_charAt_3b067_14 ?_
  exact ⟨rfl, rfl⟩

theorem hd_J0_isLatin1_aae02 : yJ0_isLatin1_aae02.cls = RJ0 ∧ yJ0_isLatin1_aae02.cls ≠ "java/lang/invoke/MethodHandle" ∧ yJ0_isLatin1_aae02.cls ≠ "java/lang/invoke/VarHandle" ∧ (parseMethodDescriptor yJ0_isLatin1_aae02.desc).map (fun d => d.parameters.length) = some 0 := by decide +kernel
theorem hd_J1_charAt_3b067 : yJ1_charAt_3b067.cls ≠ "java/lang/invoke/MethodHandle" ∧ yJ1_charAt_3b067.cls ≠ "java/lang/invoke/VarHandle" ∧ (parseMethodDescriptor yJ1_charAt_3b067.desc).map (fun d => d.parameters.length) = some 2 := by decide +kernel
set_option maxHeartbeats 400000 in
set_option maxRecDepth 100000 in
theorem c_J0_charAt_5068e (K : KT) (l : Launch) (i : Nat) (x : Int) (hi : i < 7) (hx : 0 ≤ x ∧ x < ((sN.getD i 0 : Nat) : Int)) : Mt K l yJ0_charAt_5068e wsJ0_charAt_5068e ({ frames := 3, cells := 0, slots := 0, locals := 64 }) [vP (K.2.2.2.2.2.1 i), vI x] [] 0 0 (fun v w => v = some (vI ((nmz i).getD x.toNat 0)) ∧ w = []) := by
  refine Mt.of (own := RJ0) (cc := cJ0_charAt_5068e) (maxL := 2) (ret := (some .char)) (lv0 := [(0, vP (K.2.2.2.2.2.1 i)), (1, vI x)]) (by decide) rfl rfl (Nat.le_of_ble_eq_true rfl) rfl (fun X C hR hNm => ?_)
  have hN5 := sN_le i hi
  have hby := nmz_by i hi x.toNat (by omega)
  refine i_aload_n (j := 0) (q := 1) C rfl rfl dJ0_charAt_5068e_0 rfl ?_
  refine i_callVS (wr := []) (As := []) (st := []) (i := (i)) (q := 4) (hi) C (c_J0_isLatin1_aae02 K l (i) (hi)) gJ0_charAt_5068e_J0_isLatin1_aae02 rfl hd_J0_isLatin1_aae02 ⟨Nat.le_of_ble_eq_true rfl, Nat.le_of_ble_eq_true rfl⟩ ⟨rfl, rfl⟩ ⟨Nat.le_of_ble_eq_true rfl, Nat.le_of_ble_eq_true rfl⟩ (permBy [] (by decide) rfl rfl) rfl (Nat.le_of_ble_eq_true rfl) dJ0_charAt_5068e_1 rfl (fun v w hq => ?_)
  obtain ⟨rfl, rfl⟩ := hq
  show V X 0 0 4 [(0, vP (K.2.2.2.2.2.1 i)), (1, vI x)] [vI 1] []
  refine i_if_eq (tgt := 16) (q := 7) C (by omega) dJ0_charAt_5068e_4 (by decide) rfl (fun c_4 => ?_) (fun c_4 => ?_)
  · skip
    exact absurd c_4 (by decide)
  · skip
    refine i_aload_n (j := 0) (q := 8) C rfl rfl dJ0_charAt_5068e_7 rfl ?_
    refine i_sval (i := i) (q := 11) C (hi) (List.mem_of_getElem? (i := 1) rfl) dJ0_charAt_5068e_8 rfl ?_
    refine i_iload_n (j := 1) (q := 12) C rfl rfl dJ0_charAt_5068e_11 rfl ?_
    refine i_callS (wr := []) (As := [vP (K.2.2.2.2.2.2 i), vI x]) (st := []) (q := 15) C (c_J1_charAt_3b067 K l (i) (x) (hi) (hx)) gJ0_charAt_5068e_J1_charAt_3b067 rfl hd_J1_charAt_3b067 ⟨Nat.le_of_ble_eq_true rfl, Nat.le_of_ble_eq_true rfl⟩ ⟨rfl, rfl⟩ ⟨Nat.le_of_ble_eq_true rfl, Nat.le_of_ble_eq_true rfl⟩ (permBy [] (by decide) rfl rfl) rfl (Nat.le_of_ble_eq_true rfl) dJ0_charAt_5068e_12 rfl (fun v w hq => ?_)
    obtain ⟨rfl, rfl⟩ := hq
    show V X 0 0 15 [(0, vP (K.2.2.2.2.2.1 i)), (1, vI x)] [vI ((nmz i).getD x.toNat 0)] []
    refine i_cret C hR (hby.2.2) dJ0_charAt_5068e_15 ?_
    exact ⟨rfl, rfl⟩
