theorem lk_X7_howMany_10 : Cond.fieldLink RX7 10 (TX7 0).1 (TX7 0).2.1 (TX7 0).2.2.1 ∈ wsX7_howMany := List.mem_of_getElem? (i := 1) rfl
theorem hi_X7_howMany_X7 : ∀ w ∈ u_ws RX7 TX7 9, w ∈ wsX7_howMany := by decide +kernel
theorem lk_X7_howMany_139 : Cond.fieldLink RX7 139 (TX0 6).1 (TX0 6).2.1 (TX0 6).2.2.1 ∈ wsX7_howMany := List.mem_of_getElem? (i := 2) rfl
theorem hi_X7_howMany_X0 : ∀ w ∈ u_ws RX0 TX0 10, w ∈ wsX7_howMany := by decide +kernel
theorem lk_X7_howMany_269 : Cond.fieldLink RX7 269 (TX0 7).1 (TX0 7).2.1 (TX0 7).2.2.1 ∈ wsX7_howMany := List.mem_of_getElem? (i := 3) rfl
theorem lk_X7_howMany_41 : Cond.fieldLink RX7 41 (TX7 5).1 (TX7 5).2.1 (TX7 5).2.2.1 ∈ wsX7_howMany := List.mem_of_getElem? (i := 4) rfl
theorem lk_X7_howMany_130 : Cond.fieldLink RX7 130 (TX0 8).1 (TX0 8).2.1 (TX0 8).2.2.1 ∈ wsX7_howMany := List.mem_of_getElem? (i := 5) rfl
theorem lk_X7_howMany_133 : Cond.fieldLink RX7 133 (TX0 9).1 (TX0 9).2.1 (TX0 9).2.2.1 ∈ wsX7_howMany := List.mem_of_getElem? (i := 6) rfl
theorem lk_X7_howMany_37 : Cond.fieldLink RX7 37 (TX7 4).1 (TX7 4).2.1 (TX7 4).2.2.1 ∈ wsX7_howMany := List.mem_of_getElem? (i := 7) rfl
theorem lk_X7_howMany_19 : Cond.fieldLink RX7 19 (TX7 1).1 (TX7 1).2.1 (TX7 1).2.2.1 ∈ wsX7_howMany := List.mem_of_getElem? (i := 8) rfl
theorem lk_X7_howMany_159 : Cond.fieldLink RX7 159 (TX4 2).1 (TX4 2).2.1 (TX4 2).2.2.1 ∈ wsX7_howMany := List.mem_of_getElem? (i := 9) rfl
theorem hi_X7_howMany_X4 : ∀ w ∈ u_ws RX4 TX4 3, w ∈ wsX7_howMany := by decide +kernel
theorem lk_X7_howMany_33 : Cond.fieldLink RX7 33 (TX7 3).1 (TX7 3).2.1 (TX7 3).2.2.1 ∈ wsX7_howMany := List.mem_of_getElem? (i := 10) rfl
theorem lk_X7_howMany_208 : Cond.fieldLink RX7 208 (TX3 1).1 (TX3 1).2.1 (TX3 1).2.2.1 ∈ wsX7_howMany := List.mem_of_getElem? (i := 11) rfl
theorem hi_X7_howMany_X3 : ∀ w ∈ u_ws RX3 TX3 9, w ∈ wsX7_howMany := by decide +kernel
theorem lk_X7_howMany_45 : Cond.fieldLink RX7 45 (TX7 6).1 (TX7 6).2.1 (TX7 6).2.2.1 ∈ wsX7_howMany := List.mem_of_getElem? (i := 12) rfl
theorem lk_X7_howMany_48 : Cond.fieldLink RX7 48 (TX7 7).1 (TX7 7).2.1 (TX7 7).2.2.1 ∈ wsX7_howMany := List.mem_of_getElem? (i := 13) rfl
theorem lk_X7_howMany_51 : Cond.fieldLink RX7 51 (TX7 8).1 (TX7 8).2.1 (TX7 8).2.2.1 ∈ wsX7_howMany := List.mem_of_getElem? (i := 14) rfl
set_option maxHeartbeats 400000 in
set_option maxRecDepth 100000 in
theorem c_X7_howMany (K : KT) (l : Launch) (ax : Nat → Nat) (ap : Nat → Nat) (al : Nat → Nat) (ao : Nat → Nat) (ck : Int) (ba : Int) (no : Int) (fu : Int) (t : List Int) (ab : Nat → Nat) (nu : Int → Int) (wo : Int → Int) (sc : Int → Int) (me : Int → Int) (us : Int → Int) (la : Int → Int) (ct : Int) (gv : Int) (kd : Int) (sl : Int) (ak : Int → Nat → Nat) (nx : Int) (pc : Int) (Bs : Int → Bk) (by_ : Int → Int) (ve : Int → Int) (ow : Int → Int) (fi : Int → Int) (se : Int → Int) (le : Int) (oc : Int) (pl : Int) (fa : Int) (so : Int → Int) (ra : Int → Int) (lc : Int) (o : Bo) (h : List Bo) (tx : List Int) (N : Int) (x : Int) (hC : okC N nu wo sc me us la ct gv kd sl Bs nx pc ((pck t : Nat) : Int) ck ba no fu by_ le (o, h, t, ck, tx, ba, no, fu)) (hx : 0 ≤ x ∧ x ≤ 10) : Mt K l yX7_howMany wsX7_howMany ({ frames := 3, cells := 0, slots := 0, locals := 64 }) [vP (ax 0), vI x] [boW ax ab ap al ao (((pck t : Nat) : Int), ck, ba, no, fu), bkW ab (nu, wo, sc, me, us, la, ct, gv, kd, sl), paW ap ak (nx, pc), odW ao (by_, ve, ow, fi, se, le, oc, pl, fa)] 0 0 (fun v w => v = some (vI (tld x (o, h, t, ck, tx, ba, no, fu))) ∧ w = [boW ax ab ap al ao (((pck t : Nat) : Int), ck, ba, no, fu), bkW ab (nu, wo, sc, me, us, la, ct, gv, kd, sl), paW ap ak (nx, pc), odW ao (by_, ve, ow, fi, se, le, oc, pl, fa)]) := by
  refine Mt.of (own := RX7) (cc := cX7_howMany) (maxL := 2) (ret := (some .int)) (lv0 := [(0, vP (ax 0)), (1, vI x)]) (by decide) rfl rfl (Nat.le_of_ble_eq_true rfl) rfl (fun X C hR hNm => ?_)
  have hb := hC.hb
  have hct := hb.xct
  have hgv := hb.xgv
  have hkd := hb.xkd
  have hsl := hb.xsl
  obtain ⟨ht, hlt⟩ := hC.ht
  have hNN := hC.hN
  have hhx := hC.hh.1
  have hhp := hC.hh.2.1
  have hhl := hC.hh.2.2.1
  have hck := hC.hck
  have hTx := hC.hx
  have hxl : (tx.length : Int) = le := by have := hTx.1; rw [hTx.2.1, rg_len]; omega
  refine i_iload_n (j := 1) (q := 1) C rfl rfl dX7_howMany_0 rfl ?_
  by_cases e_1_0 : x = 0
  · skip
    refine i_tsIn (q := 56) 0 C e_1_0 dX7_howMany_1 (by decide) rfl (by decide) ?_
    refine i_aload_n (j := 0) (q := 57) C rfl rfl dX7_howMany_56 rfl ?_
    refine i_get (i := 0) (j := 0) (f := 0) (q := 60) C rfl rfl rfl hi_X7_howMany_X7 (by decide) lk_X7_howMany_10 rfl dX7_howMany_57 rfl ?_
    refine i_get (i := 1) (j := 0) (f := 6) (q := 63) C rfl rfl rfl hi_X7_howMany_X0 (by decide) lk_X7_howMany_139 rfl dX7_howMany_60 rfl ?_
    refine i_iret C hR dX7_howMany_63 ?_
    exact ⟨by
      unfold tld
      simp only
      rw [e_1_0]
      simp only [Option.some.injEq, Sum.inl.injEq]
      simp
      try omega, rfl⟩
  by_cases e_1_1 : x = 1
  · skip
    refine i_tsIn (q := 64) 1 C e_1_1 dX7_howMany_1 (by decide) rfl (by decide) ?_
    refine i_aload_n (j := 0) (q := 65) C rfl rfl dX7_howMany_64 rfl ?_
    refine i_get (i := 0) (j := 0) (f := 0) (q := 68) C rfl rfl rfl hi_X7_howMany_X7 (by decide) lk_X7_howMany_10 rfl dX7_howMany_65 rfl ?_
    refine i_get (i := 1) (j := 0) (f := 7) (q := 71) C rfl rfl rfl hi_X7_howMany_X0 (by decide) lk_X7_howMany_269 rfl dX7_howMany_68 rfl ?_
    refine i_iret C hR dX7_howMany_71 ?_
    exact ⟨by
      unfold tld
      simp only
      rw [e_1_1]
      simp only [Option.some.injEq, Sum.inl.injEq]
      simp
      try omega, rfl⟩
  by_cases e_1_2 : x = 2
  · skip
    refine i_tsIn (q := 72) 2 C e_1_2 dX7_howMany_1 (by decide) rfl (by decide) ?_
    refine i_aload_n (j := 0) (q := 73) C rfl rfl dX7_howMany_72 rfl ?_
    refine i_get (i := 0) (j := 0) (f := 5) (q := 76) C rfl rfl rfl hi_X7_howMany_X7 (by decide) lk_X7_howMany_41 rfl dX7_howMany_73 rfl ?_
    refine i_iret C hR dX7_howMany_76 ?_
    exact ⟨by
      unfold tld
      simp only
      rw [e_1_2]
      simp only [Option.some.injEq, Sum.inl.injEq]
      simp
      try omega, rfl⟩
  by_cases e_1_3 : x = 3
  · skip
    refine i_tsIn (q := 77) 3 C e_1_3 dX7_howMany_1 (by decide) rfl (by decide) ?_
    refine i_aload_n (j := 0) (q := 78) C rfl rfl dX7_howMany_77 rfl ?_
    refine i_get (i := 0) (j := 0) (f := 0) (q := 81) C rfl rfl rfl hi_X7_howMany_X7 (by decide) lk_X7_howMany_10 rfl dX7_howMany_78 rfl ?_
    refine i_get (i := 1) (j := 0) (f := 8) (q := 84) C rfl rfl rfl hi_X7_howMany_X0 (by decide) lk_X7_howMany_130 rfl dX7_howMany_81 rfl ?_
    refine i_iret C hR dX7_howMany_84 ?_
    exact ⟨by
      unfold tld
      simp only
      rw [e_1_3]
      simp only [Option.some.injEq, Sum.inl.injEq]
      simp
      try omega, rfl⟩
  by_cases e_1_4 : x = 4
  · skip
    refine i_tsIn (q := 85) 4 C e_1_4 dX7_howMany_1 (by decide) rfl (by decide) ?_
    refine i_aload_n (j := 0) (q := 86) C rfl rfl dX7_howMany_85 rfl ?_
    refine i_get (i := 0) (j := 0) (f := 0) (q := 89) C rfl rfl rfl hi_X7_howMany_X7 (by decide) lk_X7_howMany_10 rfl dX7_howMany_86 rfl ?_
    refine i_get (i := 1) (j := 0) (f := 9) (q := 92) C rfl rfl rfl hi_X7_howMany_X0 (by decide) lk_X7_howMany_133 rfl dX7_howMany_89 rfl ?_
    refine i_iret C hR dX7_howMany_92 ?_
    exact ⟨by
      unfold tld
      simp only
      rw [e_1_4]
      simp only [Option.some.injEq, Sum.inl.injEq]
      simp
      try omega, rfl⟩
  by_cases e_1_5 : x = 5
  · skip
    refine i_tsIn (q := 93) 5 C e_1_5 dX7_howMany_1 (by decide) rfl (by decide) ?_
    refine i_aload_n (j := 0) (q := 94) C rfl rfl dX7_howMany_93 rfl ?_
    refine i_get (i := 0) (j := 0) (f := 4) (q := 97) C rfl rfl rfl hi_X7_howMany_X7 (by decide) lk_X7_howMany_37 rfl dX7_howMany_94 rfl ?_
    refine i_callS (wr := [boW ax ab ap al ao (((pck t : Nat) : Int), ck, ba, no, fu), bkW ab (nu, wo, sc, me, us, la, ct, gv, kd, sl), paW ap ak (nx, pc), odW ao (by_, ve, ow, fi, se, le, oc, pl, fa)]) (As := [vJ (((pck t : Nat) : Int))]) (st := []) (q := 100) C (c_X6_lengthOf K l (t) (by first | assumption | omega) (by first | assumption | omega)) gX7_howMany_X6_lengthOf rfl hd_X6_lengthOf ⟨Nat.le_of_ble_eq_true rfl, Nat.le_of_ble_eq_true rfl⟩ ⟨rfl, rfl⟩ ⟨Nat.le_of_ble_eq_true rfl, Nat.le_of_ble_eq_true rfl⟩ (permBy [0, 1, 2, 3] (by decide) rfl rfl) rfl (Nat.le_of_ble_eq_true rfl) dX7_howMany_97 rfl (fun v w hq => ?_)
    obtain ⟨rfl, rfl⟩ := hq
    show V X 0 0 100 [(0, vP (ax 0)), (1, vI x)] [vI (((t.length : Nat) : Int))] [boW ax ab ap al ao (((pck t : Nat) : Int), ck, ba, no, fu), bkW ab (nu, wo, sc, me, us, la, ct, gv, kd, sl), paW ap ak (nx, pc), odW ao (by_, ve, ow, fi, se, le, oc, pl, fa)]
    refine i_iret C hR dX7_howMany_100 ?_
    exact ⟨by
      unfold tld
      simp only
      rw [e_1_5]
      simp only [Option.some.injEq, Sum.inl.injEq]
      simp
      try omega, rfl⟩
  by_cases e_1_6 : x = 6
  · skip
    refine i_tsIn (q := 101) 6 C e_1_6 dX7_howMany_1 (by decide) rfl (by decide) ?_
    refine i_aload_n (j := 0) (q := 102) C rfl rfl dX7_howMany_101 rfl ?_
    refine i_get (i := 0) (j := 0) (f := 1) (q := 105) C rfl rfl rfl hi_X7_howMany_X7 (by decide) lk_X7_howMany_19 rfl dX7_howMany_102 rfl ?_
    refine i_get (i := 2) (j := 0) (f := 2) (q := 108) C rfl rfl rfl hi_X7_howMany_X4 (by decide) lk_X7_howMany_159 rfl dX7_howMany_105 rfl ?_
    refine i_iret C hR dX7_howMany_108 ?_
    exact ⟨by
      unfold tld
      simp only
      rw [e_1_6]
      simp only [Option.some.injEq, Sum.inl.injEq]
      simp
      try omega, rfl⟩
  by_cases e_1_7 : x = 7
  · skip
    refine i_tsIn (q := 109) 7 C e_1_7 dX7_howMany_1 (by decide) rfl (by decide) ?_
    refine i_aload_n (j := 0) (q := 110) C rfl rfl dX7_howMany_109 rfl ?_
    refine i_get (i := 0) (j := 0) (f := 3) (q := 113) C rfl rfl rfl hi_X7_howMany_X7 (by decide) lk_X7_howMany_33 rfl dX7_howMany_110 rfl ?_
    refine i_get (i := 3) (j := 0) (f := 1) (q := 116) C rfl rfl rfl hi_X7_howMany_X3 (by decide) lk_X7_howMany_208 rfl dX7_howMany_113 rfl ?_
    refine i_iret C hR dX7_howMany_116 ?_
    exact ⟨by
      unfold tld
      simp only
      rw [e_1_7]
      simp only [Option.some.injEq, Sum.inl.injEq]
      simp
      try omega, rfl⟩
  by_cases e_1_8 : x = 8
  · skip
    refine i_tsIn (q := 117) 8 C e_1_8 dX7_howMany_1 (by decide) rfl (by decide) ?_
    refine i_aload_n (j := 0) (q := 118) C rfl rfl dX7_howMany_117 rfl ?_
    refine i_get (i := 0) (j := 0) (f := 6) (q := 121) C rfl rfl rfl hi_X7_howMany_X7 (by decide) lk_X7_howMany_45 rfl dX7_howMany_118 rfl ?_
    refine i_iret C hR dX7_howMany_121 ?_
    exact ⟨by
      unfold tld
      simp only
      rw [e_1_8]
      simp only [Option.some.injEq, Sum.inl.injEq]
      simp
      try omega, rfl⟩
  by_cases e_1_9 : x = 9
  · skip
    refine i_tsIn (q := 122) 9 C e_1_9 dX7_howMany_1 (by decide) rfl (by decide) ?_
    refine i_aload_n (j := 0) (q := 123) C rfl rfl dX7_howMany_122 rfl ?_
    refine i_get (i := 0) (j := 0) (f := 7) (q := 126) C rfl rfl rfl hi_X7_howMany_X7 (by decide) lk_X7_howMany_48 rfl dX7_howMany_123 rfl ?_
    refine i_iret C hR dX7_howMany_126 ?_
    exact ⟨by
      unfold tld
      simp only
      rw [e_1_9]
      simp only [Option.some.injEq, Sum.inl.injEq]
      simp
      try omega, rfl⟩
  refine i_tsOut (q := 127) C (by omega) (by omega) dX7_howMany_1 (by decide) ?_
  refine i_aload_n (j := 0) (q := 128) C rfl rfl dX7_howMany_127 rfl ?_
  refine i_get (i := 0) (j := 0) (f := 8) (q := 131) C rfl rfl rfl hi_X7_howMany_X7 (by decide) lk_X7_howMany_51 rfl dX7_howMany_128 rfl ?_
  refine i_iret C hR dX7_howMany_131 ?_
  exact ⟨by
    unfold tld
    simp only
    rw [show x = 10 by omega]
    simp only [Option.some.injEq, Sum.inl.injEq]
    simp
    try omega, rfl⟩

theorem lk_X7_start_10 : Cond.fieldLink RX7 10 (TX7 0).1 (TX7 0).2.1 (TX7 0).2.2.1 ∈ wsX7_start := List.mem_of_getElem? (i := 1) rfl
theorem hi_X7_start_X7 : ∀ w ∈ u_ws RX7 TX7 9, w ∈ wsX7_start := by decide +kernel
theorem hd_X0_makeEmpty : yX0_makeEmpty.cls = RX0 ∧ yX0_makeEmpty.cls ≠ "java/lang/invoke/MethodHandle" ∧ yX0_makeEmpty.cls ≠ "java/lang/invoke/VarHandle" ∧ (parseMethodDescriptor yX0_makeEmpty.desc).map (fun d => d.parameters.length) = some 0 := by decide +kernel
theorem lk_X7_start_19 : Cond.fieldLink RX7 19 (TX7 1).1 (TX7 1).2.1 (TX7 1).2.2.1 ∈ wsX7_start := List.mem_of_getElem? (i := 2) rfl
theorem hd_X4_forget : yX4_forget.cls = RX4 ∧ yX4_forget.cls ≠ "java/lang/invoke/MethodHandle" ∧ yX4_forget.cls ≠ "java/lang/invoke/VarHandle" ∧ (parseMethodDescriptor yX4_forget.desc).map (fun d => d.parameters.length) = some 0 := by decide +kernel
theorem lk_X7_start_33 : Cond.fieldLink RX7 33 (TX7 3).1 (TX7 3).2.1 (TX7 3).2.2.1 ∈ wsX7_start := List.mem_of_getElem? (i := 3) rfl
theorem hd_X3_makeEmpty : yX3_makeEmpty.cls = RX3 ∧ yX3_makeEmpty.cls ≠ "java/lang/invoke/MethodHandle" ∧ yX3_makeEmpty.cls ≠ "java/lang/invoke/VarHandle" ∧ (parseMethodDescriptor yX3_makeEmpty.desc).map (fun d => d.parameters.length) = some 0 := by decide +kernel
theorem lk_X7_start_37 : Cond.fieldLink RX7 37 (TX7 4).1 (TX7 4).2.1 (TX7 4).2.2.1 ∈ wsX7_start := List.mem_of_getElem? (i := 4) rfl
theorem lk_X7_start_41 : Cond.fieldLink RX7 41 (TX7 5).1 (TX7 5).2.1 (TX7 5).2.2.1 ∈ wsX7_start := List.mem_of_getElem? (i := 5) rfl
theorem lk_X7_start_45 : Cond.fieldLink RX7 45 (TX7 6).1 (TX7 6).2.1 (TX7 6).2.2.1 ∈ wsX7_start := List.mem_of_getElem? (i := 6) rfl
theorem lk_X7_start_48 : Cond.fieldLink RX7 48 (TX7 7).1 (TX7 7).2.1 (TX7 7).2.2.1 ∈ wsX7_start := List.mem_of_getElem? (i := 7) rfl
theorem lk_X7_start_51 : Cond.fieldLink RX7 51 (TX7 8).1 (TX7 8).2.1 (TX7 8).2.2.1 ∈ wsX7_start := List.mem_of_getElem? (i := 8) rfl
set_option maxHeartbeats 400000 in
set_option maxRecDepth 100000 in
theorem c_X7_start (K : KT) (l : Launch) (ax : Nat → Nat) (ap : Nat → Nat) (al : Nat → Nat) (ao : Nat → Nat) (ck : Int) (ba : Int) (no : Int) (fu : Int) (t : List Int) (ab : Nat → Nat) (nu : Int → Int) (wo : Int → Int) (sc : Int → Int) (me : Int → Int) (us : Int → Int) (la : Int → Int) (ct : Int) (gv : Int) (kd : Int) (sl : Int) (ak : Int → Nat → Nat) (nx : Int) (pc : Int) (Bs : Int → Bk) (by_ : Int → Int) (ve : Int → Int) (ow : Int → Int) (fi : Int → Int) (se : Int → Int) (le : Int) (oc : Int) (pl : Int) (fa : Int) (so : Int → Int) (ra : Int → Int) (lc : Int) (o : Bo) (h : List Bo) (tx : List Int) (N : Int)  : Mt K l yX7_start wsX7_start ({ frames := 1, cells := 0, slots := 0, locals := 20 }) [vP (ax 0)] [boW ax ab ap al ao (((pck t : Nat) : Int), ck, ba, no, fu), bkW ab (nu, wo, sc, me, us, la, ct, gv, kd, sl), paW ap ak (nx, pc), odW ao (by_, ve, ow, fi, se, le, oc, pl, fa)] 0 0 (fun v w => v = some (vI (sp_start.1)) ∧ w = [boW ax ab ap al ao (0, 0, 0, 0, 0), bkW ab (nu, wo, sc, me, us, la, 0, 0, 0, 100), paW ap ak (0, 0), odW ao (by_, ve, ow, fi, se, 0, oc, pl, fa)]) := by
  refine Mt.of (own := RX7) (cc := cX7_start) (maxL := 1) (ret := (some .int)) (lv0 := [(0, vP (ax 0))]) (by decide) rfl rfl (Nat.le_of_ble_eq_true rfl) rfl (fun X C hR hNm => ?_)
  refine i_aload_n (j := 0) (q := 1) C rfl rfl dX7_start_0 rfl ?_
  refine i_get (i := 0) (j := 0) (f := 0) (q := 4) C rfl rfl rfl hi_X7_start_X7 (by decide) lk_X7_start_10 rfl dX7_start_1 rfl ?_
  refine i_callV (wr := [boW ax ab ap al ao (((pck t : Nat) : Int), ck, ba, no, fu), paW ap ak (nx, pc), odW ao (by_, ve, ow, fi, se, le, oc, pl, fa)]) (As := []) (st := []) (i := 0) (j := 0) (q := 7) C (c_X0_makeEmpty K l (ab) (nu) (wo) (sc) (me) (us) (la) (ct) (gv) (kd) (sl) ) gX7_start_X0_makeEmpty rfl hd_X0_makeEmpty ⟨Nat.le_of_ble_eq_true rfl, Nat.le_of_ble_eq_true rfl⟩ ⟨rfl, rfl⟩ ⟨Nat.le_of_ble_eq_true rfl, Nat.le_of_ble_eq_true rfl⟩ (permBy [1, 0, 2, 3] (by decide) rfl rfl) rfl rfl rfl rfl (Nat.le_of_ble_eq_true rfl) dX7_start_4 rfl (fun v w hq => ?_)
  obtain ⟨rfl, rfl⟩ := hq
  show V X 0 0 7 [(0, vP (ax 0))] [] [bkW ab (nu, wo, sc, me, us, la, 0, 0, 0, 100), boW ax ab ap al ao (((pck t : Nat) : Int), ck, ba, no, fu), paW ap ak (nx, pc), odW ao (by_, ve, ow, fi, se, le, oc, pl, fa)]
  refine V.perm (cs' := [boW ax ab ap al ao (((pck t : Nat) : Int), ck, ba, no, fu), bkW ab (nu, wo, sc, me, us, la, 0, 0, 0, 100), paW ap ak (nx, pc), odW ao (by_, ve, ow, fi, se, le, oc, pl, fa)]) (permBy [1, 0, 2, 3] (by decide) rfl rfl) ?_
  refine i_aload_n (j := 0) (q := 8) C rfl rfl dX7_start_7 rfl ?_
  refine i_get (i := 0) (j := 0) (f := 1) (q := 11) C rfl rfl rfl hi_X7_start_X7 (by decide) lk_X7_start_19 rfl dX7_start_8 rfl ?_
  refine i_callV (wr := [boW ax ab ap al ao (((pck t : Nat) : Int), ck, ba, no, fu), bkW ab (nu, wo, sc, me, us, la, 0, 0, 0, 100), odW ao (by_, ve, ow, fi, se, le, oc, pl, fa)]) (As := []) (st := []) (i := 0) (j := 0) (q := 14) C (c_X4_forget K l (ap) (ak) (nx) (pc) ) gX7_start_X4_forget rfl hd_X4_forget ⟨Nat.le_of_ble_eq_true rfl, Nat.le_of_ble_eq_true rfl⟩ ⟨rfl, rfl⟩ ⟨Nat.le_of_ble_eq_true rfl, Nat.le_of_ble_eq_true rfl⟩ (permBy [2, 0, 1, 3] (by decide) rfl rfl) rfl rfl rfl rfl (Nat.le_of_ble_eq_true rfl) dX7_start_11 rfl (fun v w hq => ?_)
  obtain ⟨rfl, rfl⟩ := hq
  show V X 0 0 14 [(0, vP (ax 0))] [] [paW ap ak (0, 0), boW ax ab ap al ao (((pck t : Nat) : Int), ck, ba, no, fu), bkW ab (nu, wo, sc, me, us, la, 0, 0, 0, 100), odW ao (by_, ve, ow, fi, se, le, oc, pl, fa)]
  refine V.perm (cs' := [boW ax ab ap al ao (((pck t : Nat) : Int), ck, ba, no, fu), bkW ab (nu, wo, sc, me, us, la, 0, 0, 0, 100), paW ap ak (0, 0), odW ao (by_, ve, ow, fi, se, le, oc, pl, fa)]) (permBy [1, 2, 0, 3] (by decide) rfl rfl) ?_
  refine i_aload_n (j := 0) (q := 15) C rfl rfl dX7_start_14 rfl ?_
  refine i_get (i := 0) (j := 0) (f := 3) (q := 18) C rfl rfl rfl hi_X7_start_X7 (by decide) lk_X7_start_33 rfl dX7_start_15 rfl ?_
  refine i_callV (wr := [boW ax ab ap al ao (((pck t : Nat) : Int), ck, ba, no, fu), bkW ab (nu, wo, sc, me, us, la, 0, 0, 0, 100), paW ap ak (0, 0)]) (As := []) (st := []) (i := 0) (j := 0) (q := 21) C (c_X3_makeEmpty K l (ao) (by_) (ve) (ow) (fi) (se) (le) (oc) (pl) (fa) ) gX7_start_X3_makeEmpty rfl hd_X3_makeEmpty ⟨Nat.le_of_ble_eq_true rfl, Nat.le_of_ble_eq_true rfl⟩ ⟨rfl, rfl⟩ ⟨Nat.le_of_ble_eq_true rfl, Nat.le_of_ble_eq_true rfl⟩ (permBy [3, 0, 1, 2] (by decide) rfl rfl) rfl rfl rfl rfl (Nat.le_of_ble_eq_true rfl) dX7_start_18 rfl (fun v w hq => ?_)
  obtain ⟨rfl, rfl⟩ := hq
  show V X 0 0 21 [(0, vP (ax 0))] [] [odW ao (by_, ve, ow, fi, se, 0, oc, pl, fa), boW ax ab ap al ao (((pck t : Nat) : Int), ck, ba, no, fu), bkW ab (nu, wo, sc, me, us, la, 0, 0, 0, 100), paW ap ak (0, 0)]
  refine V.perm (cs' := [boW ax ab ap al ao (((pck t : Nat) : Int), ck, ba, no, fu), bkW ab (nu, wo, sc, me, us, la, 0, 0, 0, 100), paW ap ak (0, 0), odW ao (by_, ve, ow, fi, se, 0, oc, pl, fa)]) (permBy [1, 2, 3, 0] (by decide) rfl rfl) ?_
  refine i_aload_n (j := 0) (q := 22) C rfl rfl dX7_start_21 rfl ?_
  refine i_lconst (z := 0) (q := 23) C (by decide) dX7_start_22 rfl ?_
  refine i_putJ (i := 0) (j := 0) (f := 4) (q := 26) (cs' := [boW ax ab ap al ao (0, ck, ba, no, fu), bkW ab (nu, wo, sc, me, us, la, 0, 0, 0, 100), paW ap ak (0, 0), odW ao (by_, ve, ow, fi, se, 0, oc, pl, fa)]) C rfl rfl rfl hi_X7_start_X7 tyX7 tyX7_ok nmX7 (by decide) (Nat.le_of_ble_eq_true rfl) lk_X7_start_37 rfl rfl dX7_start_23 rfl rfl ?_
  refine i_aload_n (j := 0) (q := 27) C rfl rfl dX7_start_26 rfl ?_
  refine i_iconst (q := 28) C dX7_start_27 rfl ?_
  refine i_putI (i := 0) (j := 0) (f := 5) (q := 31) (cs' := [boW ax ab ap al ao (0, 0, ba, no, fu), bkW ab (nu, wo, sc, me, us, la, 0, 0, 0, 100), paW ap ak (0, 0), odW ao (by_, ve, ow, fi, se, 0, oc, pl, fa)]) C rfl rfl rfl hi_X7_start_X7 tyX7 tyX7_ok nmX7 (by decide) (Nat.le_of_ble_eq_true rfl) lk_X7_start_41 rfl rfl dX7_start_28 rfl rfl ?_
  refine i_aload_n (j := 0) (q := 32) C rfl rfl dX7_start_31 rfl ?_
  refine i_iconst (q := 33) C dX7_start_32 rfl ?_
  refine i_putI (i := 0) (j := 0) (f := 6) (q := 36) (cs' := [boW ax ab ap al ao (0, 0, 0, no, fu), bkW ab (nu, wo, sc, me, us, la, 0, 0, 0, 100), paW ap ak (0, 0), odW ao (by_, ve, ow, fi, se, 0, oc, pl, fa)]) C rfl rfl rfl hi_X7_start_X7 tyX7 tyX7_ok nmX7 (by decide) (Nat.le_of_ble_eq_true rfl) lk_X7_start_45 rfl rfl dX7_start_33 rfl rfl ?_
  refine i_aload_n (j := 0) (q := 37) C rfl rfl dX7_start_36 rfl ?_
  refine i_iconst (q := 38) C dX7_start_37 rfl ?_
  refine i_putI (i := 0) (j := 0) (f := 7) (q := 41) (cs' := [boW ax ab ap al ao (0, 0, 0, 0, fu), bkW ab (nu, wo, sc, me, us, la, 0, 0, 0, 100), paW ap ak (0, 0), odW ao (by_, ve, ow, fi, se, 0, oc, pl, fa)]) C rfl rfl rfl hi_X7_start_X7 tyX7 tyX7_ok nmX7 (by decide) (Nat.le_of_ble_eq_true rfl) lk_X7_start_48 rfl rfl dX7_start_38 rfl rfl ?_
  refine i_aload_n (j := 0) (q := 42) C rfl rfl dX7_start_41 rfl ?_
  refine i_iconst (q := 43) C dX7_start_42 rfl ?_
  refine i_putI (i := 0) (j := 0) (f := 8) (q := 46) (cs' := [boW ax ab ap al ao (0, 0, 0, 0, 0), bkW ab (nu, wo, sc, me, us, la, 0, 0, 0, 100), paW ap ak (0, 0), odW ao (by_, ve, ow, fi, se, 0, oc, pl, fa)]) C rfl rfl rfl hi_X7_start_X7 tyX7 tyX7_ok nmX7 (by decide) (Nat.le_of_ble_eq_true rfl) lk_X7_start_51 rfl rfl dX7_start_43 rfl rfl ?_
  refine i_iconst (q := 47) C dX7_start_46 rfl ?_
  refine i_iret C hR dX7_start_47 ?_
  exact ⟨rfl, rfl⟩

theorem hd_X7_isWithin : yX7_isWithin.cls ≠ "java/lang/invoke/MethodHandle" ∧ yX7_isWithin.cls ≠ "java/lang/invoke/VarHandle" ∧ (parseMethodDescriptor yX7_isWithin.desc).map (fun d => d.parameters.length) = some 3 := by decide +kernel
theorem lk_X7_type_37 : Cond.fieldLink RX7 37 (TX7 4).1 (TX7 4).2.1 (TX7 4).2.2.1 ∈ wsX7_type := List.mem_of_getElem? (i := 1) rfl
theorem hi_X7_type_X7 : ∀ w ∈ u_ws RX7 TX7 9, w ∈ wsX7_type := by decide +kernel
theorem hd_X6_longer : yX6_longer.cls ≠ "java/lang/invoke/MethodHandle" ∧ yX6_longer.cls ≠ "java/lang/invoke/VarHandle" ∧ (parseMethodDescriptor yX6_longer.desc).map (fun d => d.parameters.length) = some 2 := by decide +kernel
theorem hd_X7_refuseFull : yX7_refuseFull.cls = RX7 ∧ yX7_refuseFull.cls ≠ "java/lang/invoke/MethodHandle" ∧ yX7_refuseFull.cls ≠ "java/lang/invoke/VarHandle" ∧ (parseMethodDescriptor yX7_refuseFull.desc).map (fun d => d.parameters.length) = some 0 := by decide +kernel
theorem hd_X7_refuseBad : yX7_refuseBad.cls = RX7 ∧ yX7_refuseBad.cls ≠ "java/lang/invoke/MethodHandle" ∧ yX7_refuseBad.cls ≠ "java/lang/invoke/VarHandle" ∧ (parseMethodDescriptor yX7_refuseBad.desc).map (fun d => d.parameters.length) = some 0 := by decide +kernel
set_option maxHeartbeats 400000 in
set_option maxRecDepth 100000 in
theorem c_X7_type (K : KT) (l : Launch) (ax : Nat → Nat) (ap : Nat → Nat) (al : Nat → Nat) (ao : Nat → Nat) (ck : Int) (ba : Int) (no : Int) (fu : Int) (t : List Int) (ab : Nat → Nat) (nu : Int → Int) (wo : Int → Int) (sc : Int → Int) (me : Int → Int) (us : Int → Int) (la : Int → Int) (ct : Int) (gv : Int) (kd : Int) (sl : Int) (ak : Int → Nat → Nat) (nx : Int) (pc : Int) (Bs : Int → Bk) (by_ : Int → Int) (ve : Int → Int) (ow : Int → Int) (fi : Int → Int) (se : Int → Int) (le : Int) (oc : Int) (pl : Int) (fa : Int) (so : Int → Int) (ra : Int → Int) (lc : Int) (o : Bo) (h : List Bo) (tx : List Int) (N : Int) (x : Int) (hC : okC N nu wo sc me us la ct gv kd sl Bs nx pc ((pck t : Nat) : Int) ck ba no fu by_ le (o, h, t, ck, tx, ba, no, fu)) (hN : N < 512) (hx : rI x) : Mt K l yX7_type wsX7_type ({ frames := 4, cells := 0, slots := 0, locals := 86 }) [vP (ax 0), vI x] [boW ax ab ap al ao (((pck t : Nat) : Int), ck, ba, no, fu)] 0 0 (fun v w => ∃ td3 : Int, ∃ ba3 : Int, ∃ fu3 : Int, v = some (vI ((sp_type x (o, h, t, ck, tx, ba, no, fu)).1)) ∧ w = [boW ax ab ap al ao (td3, ck, ba3, no, fu3)] ∧ (okC (N + 1) nu wo sc me us la ct gv kd sl Bs nx pc td3 ck ba3 no fu3 by_ le (sp_type x (o, h, t, ck, tx, ba, no, fu)).2)) := by
  refine Mt.of (own := RX7) (cc := cX7_type) (maxL := 2) (ret := (some .int)) (lv0 := [(0, vP (ax 0)), (1, vI x)]) (by decide) rfl rfl (Nat.le_of_ble_eq_true rfl) rfl (fun X C hR hNm => ?_)
  have hb := hC.hb
  have hct := hb.xct
  have hgv := hb.xgv
  have hkd := hb.xkd
  have hsl := hb.xsl
  obtain ⟨ht, hlt⟩ := hC.ht
  have hNN := hC.hN
  have hhx := hC.hh.1
  have hhp := hC.hh.2.1
  have hhl := hC.hh.2.2.1
  have hck := hC.hck
  have hTx := hC.hx
  refine i_iload_n (j := 1) (q := 1) C rfl rfl dX7_type_0 rfl ?_
  refine i_iconst (q := 2) C dX7_type_1 rfl ?_
  refine i_bipush (q := 4) C (by decide) dX7_type_2 rfl ?_
  refine i_callS (wr := [boW ax ab ap al ao (((pck t : Nat) : Int), ck, ba, no, fu)]) (As := [vI x, vI 0, vI 7]) (st := []) (q := 7) C (c_X7_isWithin K l (x) (0) (7) (by first | assumption | omega) (by first | assumption | omega) (by first | assumption | omega)) gX7_type_X7_isWithin rfl hd_X7_isWithin ⟨Nat.le_of_ble_eq_true rfl, Nat.le_of_ble_eq_true rfl⟩ ⟨rfl, rfl⟩ ⟨Nat.le_of_ble_eq_true rfl, Nat.le_of_ble_eq_true rfl⟩ (permBy [0] (by decide) rfl rfl) rfl (Nat.le_of_ble_eq_true rfl) dX7_type_4 rfl (fun v w hq => ?_)
  obtain ⟨rfl, rfl⟩ := hq
  show V X 0 0 7 [(0, vP (ax 0)), (1, vI x)] [vI (if 0 ≤ x ∧ x ≤ 7 then 1 else 0)] [boW ax ab ap al ao (((pck t : Nat) : Int), ck, ba, no, fu)]
  refine i_if_ne (tgt := 15) (q := 10) C (if01) dX7_type_7 (by decide) rfl (fun c_7 => ?_) (fun c_7 => ?_)
  · skip
    have h_7 := ifn0 c_7
    refine i_aload_n (j := 0) (q := 16) C rfl rfl dX7_type_15 rfl ?_
    refine i_get (i := 0) (j := 0) (f := 4) (q := 19) C rfl rfl rfl hi_X7_type_X7 (by decide) lk_X7_type_37 rfl dX7_type_16 rfl ?_
    refine i_callS (wr := [boW ax ab ap al ao (((pck t : Nat) : Int), ck, ba, no, fu)]) (As := [vJ (((pck t : Nat) : Int))]) (st := []) (q := 22) C (c_X6_lengthOf K l (t) (by first | assumption | omega) (by first | assumption | omega)) gX7_type_X6_lengthOf rfl hd_X6_lengthOf ⟨Nat.le_of_ble_eq_true rfl, Nat.le_of_ble_eq_true rfl⟩ ⟨rfl, rfl⟩ ⟨Nat.le_of_ble_eq_true rfl, Nat.le_of_ble_eq_true rfl⟩ (permBy [0] (by decide) rfl rfl) rfl (Nat.le_of_ble_eq_true rfl) dX7_type_19 rfl (fun v w hq => ?_)
    obtain ⟨rfl, rfl⟩ := hq
    show V X 0 0 22 [(0, vP (ax 0)), (1, vI x)] [vI (((t.length : Nat) : Int))] [boW ax ab ap al ao (((pck t : Nat) : Int), ck, ba, no, fu)]
    refine i_bipush (q := 24) C (by decide) dX7_type_22 rfl ?_
    refine i_icmp_lt (tgt := 32) (q := 27) C (by omega) (by omega) dX7_type_24 (by decide) rfl (fun c_24 => ?_) (fun c_24 => ?_)
    · skip
      refine i_aload_n (j := 0) (q := 33) C rfl rfl dX7_type_32 rfl ?_
      refine i_aload_n (j := 0) (q := 34) C rfl rfl dX7_type_33 rfl ?_
      refine i_get (i := 0) (j := 0) (f := 4) (q := 37) C rfl rfl rfl hi_X7_type_X7 (by decide) lk_X7_type_37 rfl dX7_type_34 rfl ?_
      refine i_iload_n (j := 1) (q := 38) C rfl rfl dX7_type_37 rfl ?_
      refine i_callS (wr := [boW ax ab ap al ao (((pck t : Nat) : Int), ck, ba, no, fu)]) (As := [vJ (((pck t : Nat) : Int)), vI x]) (st := [vP (ax 0)]) (q := 41) C (c_X6_longer K l (t) (x) (by first | assumption | omega) (by first | assumption | omega) (by first | assumption | omega)) gX7_type_X6_longer rfl hd_X6_longer ⟨Nat.le_of_ble_eq_true rfl, Nat.le_of_ble_eq_true rfl⟩ ⟨rfl, rfl⟩ ⟨Nat.le_of_ble_eq_true rfl, Nat.le_of_ble_eq_true rfl⟩ (permBy [0] (by decide) rfl rfl) rfl (Nat.le_of_ble_eq_true rfl) dX7_type_38 rfl (fun v w hq => ?_)
      obtain ⟨rfl, rfl⟩ := hq
      show V X 0 0 41 [(0, vP (ax 0)), (1, vI x)] [vJ (((pck (t ++ [x]) : Nat) : Int)), vP (ax 0)] [boW ax ab ap al ao (((pck t : Nat) : Int), ck, ba, no, fu)]
      refine i_putJ (i := 0) (j := 0) (f := 4) (q := 44) (cs' := [boW ax ab ap al ao (((pck (t ++ [x]) : Nat) : Int), ck, ba, no, fu)]) C rfl rfl rfl hi_X7_type_X7 tyX7 tyX7_ok nmX7 (by decide) (Nat.le_of_ble_eq_true rfl) lk_X7_type_37 rfl rfl dX7_type_41 rfl rfl ?_
      refine i_aload_n (j := 0) (q := 45) C rfl rfl dX7_type_44 rfl ?_
      refine i_get (i := 0) (j := 0) (f := 4) (q := 48) C rfl rfl rfl hi_X7_type_X7 (by decide) lk_X7_type_37 rfl dX7_type_45 rfl ?_
      refine i_callS (wr := [boW ax ab ap al ao (((pck (t ++ [x]) : Nat) : Int), ck, ba, no, fu)]) (As := [vJ (((pck (t ++ [x]) : Nat) : Int))]) (st := []) (q := 51) C (c_X6_lengthOf K l (t ++ [x]) (ht.app (fun y hy => by rw [List.mem_singleton.mp hy]; exact h_7)) (by simp; omega)) gX7_type_X6_lengthOf rfl hd_X6_lengthOf ⟨Nat.le_of_ble_eq_true rfl, Nat.le_of_ble_eq_true rfl⟩ ⟨rfl, rfl⟩ ⟨Nat.le_of_ble_eq_true rfl, Nat.le_of_ble_eq_true rfl⟩ (permBy [0] (by decide) rfl rfl) rfl (Nat.le_of_ble_eq_true rfl) dX7_type_48 rfl (fun v w hq => ?_)
      obtain ⟨rfl, rfl⟩ := hq
      show V X 0 0 51 [(0, vP (ax 0)), (1, vI x)] [vI ((((t ++ [x]).length : Nat) : Int))] [boW ax ab ap al ao (((pck (t ++ [x]) : Nat) : Int), ck, ba, no, fu)]
      refine i_iret C hR dX7_type_51 ?_
      have hsp : (sp_type x (o, h, t, ck, tx, ba, no, fu)) = ((((t ++ [x]).length : Nat) : Int), (o, h, t ++ [x], ck, tx, ba, no, fu)) := by
        simp only [sp_type]
        rw [if_neg (fun z => z h_7), if_neg (by omega)]
        simp
      exact ⟨((pck (t ++ [x]) : Nat) : Int), ba, fu, by rw [hsp], rfl, by rw [hsp]; exact hC.upd hN (hC.hbG hN) (hC.hhG hN) ⟨ht.app (fun y hy => by rw [List.mem_singleton.mp hy]; exact h_7), by simp; omega⟩ hck hC.hx⟩
    · skip
      refine i_aload_n (j := 0) (q := 28) C rfl rfl dX7_type_27 rfl ?_
      refine i_callV (wr := []) (As := []) (st := []) (i := 0) (j := 0) (q := 31) C (c_X7_refuseFull K l (ab) (ax) (ap) (al) (ao) (((pck t : Nat) : Int)) (ck) (ba) (no) (fu) ) gX7_type_X7_refuseFull rfl hd_X7_refuseFull ⟨Nat.le_of_ble_eq_true rfl, Nat.le_of_ble_eq_true rfl⟩ ⟨rfl, rfl⟩ ⟨Nat.le_of_ble_eq_true rfl, Nat.le_of_ble_eq_true rfl⟩ (permBy [0] (by decide) rfl rfl) rfl rfl rfl rfl (Nat.le_of_ble_eq_true rfl) dX7_type_28 rfl (fun v w hq => ?_)
      obtain ⟨rfl, rfl⟩ := hq
      show V X 0 0 31 [(0, vP (ax 0)), (1, vI x)] [vI (-4)] [boW ax ab ap al ao (((pck t : Nat) : Int), ck, ba, no, fu + 1)]
      refine i_iret C hR dX7_type_31 ?_
      have hsp : (sp_type x (o, h, t, ck, tx, ba, no, fu)) = (-4, (o, h, t, ck, tx, ba, no, fu + 1)) := by
        simp only [sp_type]
        rw [if_neg (fun z => z h_7), if_pos (by omega)]
        rfl
      exact ⟨((pck t : Nat) : Int), ba, fu + 1, by rw [hsp], rfl, by rw [hsp]; exact hC.full hN⟩
  · skip
    have h_7 := if0 c_7
    refine i_aload_n (j := 0) (q := 11) C rfl rfl dX7_type_10 rfl ?_
    refine i_callV (wr := []) (As := []) (st := []) (i := 0) (j := 0) (q := 14) C (c_X7_refuseBad K l (ab) (ax) (ap) (al) (ao) (((pck t : Nat) : Int)) (ck) (ba) (no) (fu) ) gX7_type_X7_refuseBad rfl hd_X7_refuseBad ⟨Nat.le_of_ble_eq_true rfl, Nat.le_of_ble_eq_true rfl⟩ ⟨rfl, rfl⟩ ⟨Nat.le_of_ble_eq_true rfl, Nat.le_of_ble_eq_true rfl⟩ (permBy [0] (by decide) rfl rfl) rfl rfl rfl rfl (Nat.le_of_ble_eq_true rfl) dX7_type_11 rfl (fun v w hq => ?_)
    obtain ⟨rfl, rfl⟩ := hq
    show V X 0 0 14 [(0, vP (ax 0)), (1, vI x)] [vI (-2)] [boW ax ab ap al ao (((pck t : Nat) : Int), ck, ba + 1, no, fu)]
    refine i_iret C hR dX7_type_14 ?_
    have hsp : (sp_type x (o, h, t, ck, tx, ba, no, fu)) = (-2, (o, h, t, ck, tx, ba + 1, no, fu)) := by
      simp only [sp_type]
      rw [if_pos h_7]
      rfl
    exact ⟨((pck t : Nat) : Int), ba + 1, fu, by rw [hsp], rfl, by rw [hsp]; exact hC.bad hN⟩

theorem lk_X7_rub_37 : Cond.fieldLink RX7 37 (TX7 4).1 (TX7 4).2.1 (TX7 4).2.2.1 ∈ wsX7_rub := List.mem_of_getElem? (i := 1) rfl
theorem hi_X7_rub_X7 : ∀ w ∈ u_ws RX7 TX7 9, w ∈ wsX7_rub := by decide +kernel
theorem hd_X7_refuseNo : yX7_refuseNo.cls = RX7 ∧ yX7_refuseNo.cls ≠ "java/lang/invoke/MethodHandle" ∧ yX7_refuseNo.cls ≠ "java/lang/invoke/VarHandle" ∧ (parseMethodDescriptor yX7_refuseNo.desc).map (fun d => d.parameters.length) = some 0 := by decide +kernel
set_option maxHeartbeats 400000 in
set_option maxRecDepth 100000 in
theorem c_X7_rub (K : KT) (l : Launch) (ax : Nat → Nat) (ap : Nat → Nat) (al : Nat → Nat) (ao : Nat → Nat) (ck : Int) (ba : Int) (no : Int) (fu : Int) (t : List Int) (ab : Nat → Nat) (nu : Int → Int) (wo : Int → Int) (sc : Int → Int) (me : Int → Int) (us : Int → Int) (la : Int → Int) (ct : Int) (gv : Int) (kd : Int) (sl : Int) (ak : Int → Nat → Nat) (nx : Int) (pc : Int) (Bs : Int → Bk) (by_ : Int → Int) (ve : Int → Int) (ow : Int → Int) (fi : Int → Int) (se : Int → Int) (le : Int) (oc : Int) (pl : Int) (fa : Int) (so : Int → Int) (ra : Int → Int) (lc : Int) (o : Bo) (h : List Bo) (tx : List Int) (N : Int) (hC : okC N nu wo sc me us la ct gv kd sl Bs nx pc ((pck t : Nat) : Int) ck ba no fu by_ le (o, h, t, ck, tx, ba, no, fu)) (hN : N < 512) : Mt K l yX7_rub wsX7_rub ({ frames := 3, cells := 0, slots := 0, locals := 64 }) [vP (ax 0)] [boW ax ab ap al ao (((pck t : Nat) : Int), ck, ba, no, fu)] 0 0 (fun v w => ∃ td3 : Int, ∃ no3 : Int, v = some (vI ((sp_rub (o, h, t, ck, tx, ba, no, fu)).1)) ∧ w = [boW ax ab ap al ao (td3, ck, ba, no3, fu)] ∧ (okC (N + 1) nu wo sc me us la ct gv kd sl Bs nx pc td3 ck ba no3 fu by_ le (sp_rub (o, h, t, ck, tx, ba, no, fu)).2)) := by
  refine Mt.of (own := RX7) (cc := cX7_rub) (maxL := 2) (ret := (some .int)) (lv0 := [(0, vP (ax 0))]) (by decide) rfl rfl (Nat.le_of_ble_eq_true rfl) rfl (fun X C hR hNm => ?_)
  have hb := hC.hb
  have hct := hb.xct
  have hgv := hb.xgv
  have hkd := hb.xkd
  have hsl := hb.xsl
  obtain ⟨ht, hlt⟩ := hC.ht
  have hNN := hC.hN
  have hhx := hC.hh.1
  have hhp := hC.hh.2.1
  have hhl := hC.hh.2.2.1
  have hck := hC.hck
  have hTx := hC.hx
  refine i_aload_n (j := 0) (q := 1) C rfl rfl dX7_rub_0 rfl ?_
  refine i_get (i := 0) (j := 0) (f := 4) (q := 4) C rfl rfl rfl hi_X7_rub_X7 (by decide) lk_X7_rub_37 rfl dX7_rub_1 rfl ?_
  refine i_callS (wr := [boW ax ab ap al ao (((pck t : Nat) : Int), ck, ba, no, fu)]) (As := [vJ (((pck t : Nat) : Int))]) (st := []) (q := 7) C (c_X6_lengthOf K l (t) (by first | assumption | omega) (by first | assumption | omega)) gX7_rub_X6_lengthOf rfl hd_X6_lengthOf ⟨Nat.le_of_ble_eq_true rfl, Nat.le_of_ble_eq_true rfl⟩ ⟨rfl, rfl⟩ ⟨Nat.le_of_ble_eq_true rfl, Nat.le_of_ble_eq_true rfl⟩ (permBy [0] (by decide) rfl rfl) rfl (Nat.le_of_ble_eq_true rfl) dX7_rub_4 rfl (fun v w hq => ?_)
  obtain ⟨rfl, rfl⟩ := hq
  show V X 0 0 7 [(0, vP (ax 0))] [vI (((t.length : Nat) : Int))] [boW ax ab ap al ao (((pck t : Nat) : Int), ck, ba, no, fu)]
  refine i_istore_n (q := 8) (lv' := [(1, vI (((t.length : Nat) : Int))), (0, vP (ax 0))]) C rfl (by decide) rfl dX7_rub_7 rfl ?_
  refine i_iload_n (j := 0) (q := 9) C rfl rfl dX7_rub_8 rfl ?_
  refine i_if_ne (tgt := 17) (q := 12) C (by omega) dX7_rub_9 (by decide) rfl (fun c_9 => ?_) (fun c_9 => ?_)
  · skip
    refine i_aload_n (j := 1) (q := 18) C rfl rfl dX7_rub_17 rfl ?_
    refine i_aload_n (j := 1) (q := 19) C rfl rfl dX7_rub_18 rfl ?_
    refine i_get (i := 0) (j := 0) (f := 4) (q := 22) C rfl rfl rfl hi_X7_rub_X7 (by decide) lk_X7_rub_37 rfl dX7_rub_19 rfl ?_
    refine i_iload_n (j := 0) (q := 23) C rfl rfl dX7_rub_22 rfl ?_
    refine i_iconst (q := 24) C dX7_rub_23 rfl ?_
    refine i_isub (q := 25) C dX7_rub_24 rfl ?_
    refine i_callS (wr := [boW ax ab ap al ao (((pck t : Nat) : Int), ck, ba, no, fu)]) (As := [vJ (((pck t : Nat) : Int)), vI (((t.length : Nat) : Int) - 1)]) (st := [vP (ax 0)]) (q := 28) C (c_X6_beginning K l (t) (((t.length : Nat) : Int) - 1) (by first | assumption | omega) (by first | assumption | omega) (by first | assumption | omega)) gX7_rub_X6_beginning rfl hd_X6_beginning ⟨Nat.le_of_ble_eq_true rfl, Nat.le_of_ble_eq_true rfl⟩ ⟨rfl, rfl⟩ ⟨Nat.le_of_ble_eq_true rfl, Nat.le_of_ble_eq_true rfl⟩ (permBy [0] (by decide) rfl rfl) rfl (Nat.le_of_ble_eq_true rfl) dX7_rub_25 rfl (fun v w hq => ?_)
    obtain ⟨rfl, rfl⟩ := hq
    show V X 0 0 28 [(1, vI (((t.length : Nat) : Int))), (0, vP (ax 0))] [vJ (((pck (t.take (((t.length : Nat) : Int) - 1).toNat) : Nat) : Int)), vP (ax 0)] [boW ax ab ap al ao (((pck t : Nat) : Int), ck, ba, no, fu)]
    refine i_putJ (i := 0) (j := 0) (f := 4) (q := 31) (cs' := [boW ax ab ap al ao (((pck (t.take (((t.length : Nat) : Int) - 1).toNat) : Nat) : Int), ck, ba, no, fu)]) C rfl rfl rfl hi_X7_rub_X7 tyX7 tyX7_ok nmX7 (by decide) (Nat.le_of_ble_eq_true rfl) lk_X7_rub_37 rfl rfl dX7_rub_28 rfl rfl ?_
    refine i_iload_n (j := 0) (q := 32) C rfl rfl dX7_rub_31 rfl ?_
    refine i_iconst (q := 33) C dX7_rub_32 rfl ?_
    refine i_isub (q := 34) C dX7_rub_33 rfl ?_
    refine i_iret C hR dX7_rub_34 ?_
    have hsp : (sp_rub (o, h, t, ck, tx, ba, no, fu)) = (((t.length : Nat) : Int) - 1, (o, h, t.take (((t.length : Nat) : Int) - 1).toNat, ck, tx, ba, no, fu)) := by
      simp only [sp_rub]
      rw [if_neg (by omega), show (((t.length : Nat) : Int) - 1).toNat = t.length - 1 by omega]
    exact ⟨((pck (t.take (((t.length : Nat) : Int) - 1).toNat) : Nat) : Int), no, by rw [hsp], rfl, by rw [hsp]; exact hC.upd hN (hC.hbG hN) (hC.hhG hN) ⟨ht.take _, by rw [List.length_take]; omega⟩ hck hC.hx⟩
  · skip
    refine i_aload_n (j := 1) (q := 13) C rfl rfl dX7_rub_12 rfl ?_
    refine i_callV (wr := []) (As := []) (st := []) (i := 0) (j := 0) (q := 16) C (c_X7_refuseNo K l (ab) (ax) (ap) (al) (ao) (((pck t : Nat) : Int)) (ck) (ba) (no) (fu) ) gX7_rub_X7_refuseNo rfl hd_X7_refuseNo ⟨Nat.le_of_ble_eq_true rfl, Nat.le_of_ble_eq_true rfl⟩ ⟨rfl, rfl⟩ ⟨Nat.le_of_ble_eq_true rfl, Nat.le_of_ble_eq_true rfl⟩ (permBy [0] (by decide) rfl rfl) rfl rfl rfl rfl (Nat.le_of_ble_eq_true rfl) dX7_rub_13 rfl (fun v w hq => ?_)
    obtain ⟨rfl, rfl⟩ := hq
    show V X 0 0 16 [(1, vI (((t.length : Nat) : Int))), (0, vP (ax 0))] [vI (-3)] [boW ax ab ap al ao (((pck t : Nat) : Int), ck, ba, no + 1, fu)]
    refine i_iret C hR dX7_rub_16 ?_
    have hsp : (sp_rub (o, h, t, ck, tx, ba, no, fu)) = (-3, (o, h, t, ck, tx, ba, no + 1, fu)) := by
      simp only [sp_rub]
      rw [if_pos (by omega)]
      rfl
    exact ⟨((pck t : Nat) : Int), no + 1, by rw [hsp], rfl, by rw [hsp]; exact hC.noo hN⟩

theorem lk_X7_types_10 : Cond.fieldLink RX7 10 (TX7 0).1 (TX7 0).2.1 (TX7 0).2.2.1 ∈ wsX7_types := List.mem_of_getElem? (i := 1) rfl
theorem hi_X7_types_X7 : ∀ w ∈ u_ws RX7 TX7 9, w ∈ wsX7_types := by decide +kernel
theorem hd_X0_slotOf : yX0_slotOf.cls = RX0 ∧ yX0_slotOf.cls ≠ "java/lang/invoke/MethodHandle" ∧ yX0_slotOf.cls ≠ "java/lang/invoke/VarHandle" ∧ (parseMethodDescriptor yX0_slotOf.desc).map (fun d => d.parameters.length) = some 1 := by decide +kernel
theorem lk_X7_types_92 : Cond.fieldLink RX7 92 (TX0 1).1 (TX0 1).2.1 (TX0 1).2.2.1 ∈ wsX7_types := List.mem_of_getElem? (i := 2) rfl
theorem hi_X7_types_X0 : ∀ w ∈ u_ws RX0 TX0 10, w ∈ wsX7_types := by decide +kernel
theorem lk_X7_types_37 : Cond.fieldLink RX7 37 (TX7 4).1 (TX7 4).2.1 (TX7 4).2.2.1 ∈ wsX7_types := List.mem_of_getElem? (i := 3) rfl
set_option maxHeartbeats 400000 in
set_option maxRecDepth 100000 in
theorem c_X7_types (K : KT) (l : Launch) (ax : Nat → Nat) (ap : Nat → Nat) (al : Nat → Nat) (ao : Nat → Nat) (ck : Int) (ba : Int) (no : Int) (fu : Int) (t : List Int) (ab : Nat → Nat) (nu : Int → Int) (wo : Int → Int) (sc : Int → Int) (me : Int → Int) (us : Int → Int) (la : Int → Int) (ct : Int) (gv : Int) (kd : Int) (sl : Int) (ak : Int → Nat → Nat) (nx : Int) (pc : Int) (Bs : Int → Bk) (by_ : Int → Int) (ve : Int → Int) (ow : Int → Int) (fi : Int → Int) (se : Int → Int) (le : Int) (oc : Int) (pl : Int) (fa : Int) (so : Int → Int) (ra : Int → Int) (lc : Int) (o : Bo) (h : List Bo) (tx : List Int) (N : Int) (x : Int) (y : Int) (hC : okC N nu wo sc me us la ct gv kd sl Bs nx pc ((pck t : Nat) : Int) ck ba no fu by_ le (o, h, t, ck, tx, ba, no, fu)) (hN : N < 512) (hx : rI x) (hy : rI y) : Mt K l yX7_types wsX7_types ({ frames := 3, cells := 0, slots := 0, locals := 64 }) [vP (ax 0), vI x, vI y] [boW ax ab ap al ao (((pck t : Nat) : Int), ck, ba, no, fu), bkW ab (nu, wo, sc, me, us, la, ct, gv, kd, sl)] 0 0 (fun v w => ∃ td3 : Int, ∃ ba3 : Int, v = some (vI ((sp_types x y (o, h, t, ck, tx, ba, no, fu)).1)) ∧ w = [boW ax ab ap al ao (td3, ck, ba3, no, fu), bkW ab (nu, wo, sc, me, us, la, ct, gv, kd, sl)] ∧ (okC (N + 1) nu wo sc me us la ct gv kd sl Bs nx pc td3 ck ba3 no fu by_ le (sp_types x y (o, h, t, ck, tx, ba, no, fu)).2)) := by
  refine Mt.of (own := RX7) (cc := cX7_types) (maxL := 4) (ret := (some .int)) (lv0 := [(0, vP (ax 0)), (1, vI x), (2, vI y)]) (by decide) rfl rfl (Nat.le_of_ble_eq_true rfl) rfl (fun X C hR hNm => ?_)
  have hb := hC.hb
  have hct := hb.xct
  have hgv := hb.xgv
  have hkd := hb.xkd
  have hsl := hb.xsl
  obtain ⟨ht, hlt⟩ := hC.ht
  have hNN := hC.hN
  have hhx := hC.hh.1
  have hhp := hC.hh.2.1
  have hhl := hC.hh.2.2.1
  have hck := hC.hck
  have hTx := hC.hx
  refine i_aload_n (j := 0) (q := 1) C rfl rfl dX7_types_0 rfl ?_
  refine i_get (i := 0) (j := 0) (f := 0) (q := 4) C rfl rfl rfl hi_X7_types_X7 (by decide) lk_X7_types_10 rfl dX7_types_1 rfl ?_
  refine i_iload_n (j := 1) (q := 5) C rfl rfl dX7_types_4 rfl ?_
  refine i_callV (wr := [boW ax ab ap al ao (((pck t : Nat) : Int), ck, ba, no, fu)]) (As := [vI x]) (st := []) (i := 0) (j := 0) (q := 8) C (c_X0_slotOf K l (ab) (nu) (wo) (sc) (me) (us) (la) (ct) (gv) (kd) (sl) (x) (by omega) (fun j g0 g1 => by have := hb.xnu j g0 g1; omega) (by first | assumption | omega)) gX7_types_X0_slotOf rfl hd_X0_slotOf ⟨Nat.le_of_ble_eq_true rfl, Nat.le_of_ble_eq_true rfl⟩ ⟨rfl, rfl⟩ ⟨Nat.le_of_ble_eq_true rfl, Nat.le_of_ble_eq_true rfl⟩ (permBy [1, 0] (by decide) rfl rfl) rfl rfl rfl rfl (Nat.le_of_ble_eq_true rfl) dX7_types_5 rfl (fun v w hq => ?_)
  obtain ⟨r_5, rfl, rfl, hr_5⟩ := hq
  show V X 0 0 8 [(0, vP (ax 0)), (1, vI x), (2, vI y)] [vI r_5] [bkW ab (nu, wo, sc, me, us, la, ct, gv, kd, sl), boW ax ab ap al ao (((pck t : Nat) : Int), ck, ba, no, fu)]
  refine V.perm (cs' := [boW ax ab ap al ao (((pck t : Nat) : Int), ck, ba, no, fu), bkW ab (nu, wo, sc, me, us, la, ct, gv, kd, sl)]) (permBy [1, 0] (by decide) rfl rfl) ?_
  have hf := hb.find hr_5
  refine i_istore_n (q := 9) (lv' := [(3, vI r_5), (0, vP (ax 0)), (1, vI x), (2, vI y)]) C rfl (by decide) rfl dX7_types_8 rfl ?_
  refine i_iload_n (j := 0) (q := 10) C rfl rfl dX7_types_9 rfl ?_
  refine i_iconst (q := 11) C dX7_types_10 rfl ?_
  refine i_icmp_eq (tgt := 34) (q := 14) C (by rcases hr_5 with h | h <;> omega) (by omega) dX7_types_11 (by decide) rfl (fun c_11 => ?_) (fun c_11 => ?_)
  · skip
    have hfn : fnd o x = none := by
      rcases hf with h | h
      · exact h.2
      · omega
    refine i_aload_n (j := 1) (q := 35) C rfl rfl dX7_types_34 rfl ?_
    refine i_callV (wr := [bkW ab (nu, wo, sc, me, us, la, ct, gv, kd, sl)]) (As := []) (st := []) (i := 0) (j := 0) (q := 38) C (c_X7_refuseBad K l (ab) (ax) (ap) (al) (ao) (((pck t : Nat) : Int)) (ck) (ba) (no) (fu) ) gX7_types_X7_refuseBad rfl hd_X7_refuseBad ⟨Nat.le_of_ble_eq_true rfl, Nat.le_of_ble_eq_true rfl⟩ ⟨rfl, rfl⟩ ⟨Nat.le_of_ble_eq_true rfl, Nat.le_of_ble_eq_true rfl⟩ (permBy [0, 1] (by decide) rfl rfl) rfl rfl rfl rfl (Nat.le_of_ble_eq_true rfl) dX7_types_35 rfl (fun v w hq => ?_)
    obtain ⟨rfl, rfl⟩ := hq
    show V X 0 0 38 [(3, vI r_5), (0, vP (ax 0)), (1, vI x), (2, vI y)] [vI (-2)] [boW ax ab ap al ao (((pck t : Nat) : Int), ck, ba + 1, no, fu), bkW ab (nu, wo, sc, me, us, la, ct, gv, kd, sl)]
    refine i_iret C hR dX7_types_38 ?_
    have hsp : (sp_types x y (o, h, t, ck, tx, ba, no, fu)) = (-2, (o, h, t, ck, tx, ba + 1, no, fu)) := by
      simp only [sp_types]
      rw [hfn]
      rfl
    exact ⟨((pck t : Nat) : Int), ba + 1, by rw [hsp], rfl, by rw [hsp]; exact hC.bad hN⟩
  · skip
    obtain ⟨g1, g2, g3, hfs⟩ : 0 ≤ r_5 ∧ r_5 < ct ∧ nu r_5 = x ∧ fnd o x = some (atP o.1 r_5) := by
      rcases hf with h | h
      · omega
      · exact h
    refine i_iload_n (j := 3) (q := 15) C rfl rfl dX7_types_14 rfl ?_
    refine i_iconst (q := 16) C dX7_types_15 rfl ?_
    refine i_aload_n (j := 1) (q := 17) C rfl rfl dX7_types_16 rfl ?_
    refine i_get (i := 0) (j := 0) (f := 0) (q := 20) C rfl rfl rfl hi_X7_types_X7 (by decide) lk_X7_types_10 rfl dX7_types_17 rfl ?_
    refine i_get (i := 1) (j := 0) (f := 1) (q := 23) C rfl rfl rfl hi_X7_types_X0 (by decide) lk_X7_types_92 rfl dX7_types_20 rfl ?_
    refine i_iload_n (j := 0) (q := 24) C rfl rfl dX7_types_23 rfl ?_
    refine i_lald (i := 1) (j := 2) (q := 25) C rfl rfl (by omega) dX7_types_24 rfl ?_
    refine V.topJ (b := ((pck ((atP o.1 r_5).2.1) : Nat) : Int)) ((hb.xwo r_5 (by omega) (by omega)).1) ?_
    refine i_callS (wr := [boW ax ab ap al ao (((pck t : Nat) : Int), ck, ba, no, fu), bkW ab (nu, wo, sc, me, us, la, ct, gv, kd, sl)]) (As := [vJ (((pck ((atP o.1 r_5).2.1) : Nat) : Int))]) (st := [vI 0, vI y]) (q := 28) C (c_X6_lengthOf K l ((atP o.1 r_5).2.1) ((hb.xwo r_5 (by omega) (by omega)).2.1) (by have := hb.xwo r_5 (by omega) (by omega); omega)) gX7_types_X6_lengthOf rfl hd_X6_lengthOf ⟨Nat.le_of_ble_eq_true rfl, Nat.le_of_ble_eq_true rfl⟩ ⟨rfl, rfl⟩ ⟨Nat.le_of_ble_eq_true rfl, Nat.le_of_ble_eq_true rfl⟩ (permBy [0, 1] (by decide) rfl rfl) rfl (Nat.le_of_ble_eq_true rfl) dX7_types_25 rfl (fun v w hq => ?_)
    obtain ⟨rfl, rfl⟩ := hq
    show V X 0 0 28 [(3, vI r_5), (0, vP (ax 0)), (1, vI x), (2, vI y)] [vI (((((atP o.1 r_5).2.1).length : Nat) : Int)), vI 0, vI y] [boW ax ab ap al ao (((pck t : Nat) : Int), ck, ba, no, fu), bkW ab (nu, wo, sc, me, us, la, ct, gv, kd, sl)]
    refine i_callS (wr := [boW ax ab ap al ao (((pck t : Nat) : Int), ck, ba, no, fu), bkW ab (nu, wo, sc, me, us, la, ct, gv, kd, sl)]) (As := [vI y, vI 0, vI (((((atP o.1 r_5).2.1).length : Nat) : Int))]) (st := []) (q := 31) C (c_X7_isWithin K l (y) (0) (((((atP o.1 r_5).2.1).length : Nat) : Int)) (by have := hb.xwo r_5 g1 g2; omega) (by have := hb.xwo r_5 g1 g2; omega) (by have := hb.xwo r_5 g1 g2; omega)) gX7_types_X7_isWithin rfl hd_X7_isWithin ⟨Nat.le_of_ble_eq_true rfl, Nat.le_of_ble_eq_true rfl⟩ ⟨rfl, rfl⟩ ⟨Nat.le_of_ble_eq_true rfl, Nat.le_of_ble_eq_true rfl⟩ (permBy [0, 1] (by decide) rfl rfl) rfl (Nat.le_of_ble_eq_true rfl) dX7_types_28 rfl (fun v w hq => ?_)
    obtain ⟨rfl, rfl⟩ := hq
    show V X 0 0 31 [(3, vI r_5), (0, vP (ax 0)), (1, vI x), (2, vI y)] [vI (if 0 ≤ y ∧ y ≤ (((((atP o.1 r_5).2.1).length : Nat) : Int)) then 1 else 0)] [boW ax ab ap al ao (((pck t : Nat) : Int), ck, ba, no, fu), bkW ab (nu, wo, sc, me, us, la, ct, gv, kd, sl)]
    refine i_if_ne (tgt := 39) (q := 34) C (if01) dX7_types_31 (by decide) rfl (fun c_31 => ?_) (fun c_31 => ?_)
    · skip
      have h_31 := ifn0 c_31
      refine i_aload_n (j := 1) (q := 40) C rfl rfl dX7_types_39 rfl ?_
      refine i_aload_n (j := 1) (q := 41) C rfl rfl dX7_types_40 rfl ?_
      refine i_get (i := 0) (j := 0) (f := 0) (q := 44) C rfl rfl rfl hi_X7_types_X7 (by decide) lk_X7_types_10 rfl dX7_types_41 rfl ?_
      refine i_get (i := 1) (j := 0) (f := 1) (q := 47) C rfl rfl rfl hi_X7_types_X0 (by decide) lk_X7_types_92 rfl dX7_types_44 rfl ?_
      refine i_iload_n (j := 0) (q := 48) C rfl rfl dX7_types_47 rfl ?_
      refine i_lald (i := 1) (j := 2) (q := 49) C rfl rfl (by omega) dX7_types_48 rfl ?_
      refine V.topJ (b := ((pck ((atP o.1 r_5).2.1) : Nat) : Int)) ((hb.xwo r_5 (by omega) (by omega)).1) ?_
      refine i_iload_n (j := 3) (q := 50) C rfl rfl dX7_types_49 rfl ?_
      refine i_callS (wr := [boW ax ab ap al ao (((pck t : Nat) : Int), ck, ba, no, fu), bkW ab (nu, wo, sc, me, us, la, ct, gv, kd, sl)]) (As := [vJ (((pck ((atP o.1 r_5).2.1) : Nat) : Int)), vI y]) (st := [vP (ax 0)]) (q := 53) C (c_X6_beginning K l ((atP o.1 r_5).2.1) (y) ((hb.xwo r_5 (by omega) (by omega)).2.1) (by have := hb.xwo r_5 (by omega) (by omega); omega) (by have := hb.xwo r_5 g1 g2; omega)) gX7_types_X6_beginning rfl hd_X6_beginning ⟨Nat.le_of_ble_eq_true rfl, Nat.le_of_ble_eq_true rfl⟩ ⟨rfl, rfl⟩ ⟨Nat.le_of_ble_eq_true rfl, Nat.le_of_ble_eq_true rfl⟩ (permBy [0, 1] (by decide) rfl rfl) rfl (Nat.le_of_ble_eq_true rfl) dX7_types_50 rfl (fun v w hq => ?_)
      obtain ⟨rfl, rfl⟩ := hq
      show V X 0 0 53 [(3, vI r_5), (0, vP (ax 0)), (1, vI x), (2, vI y)] [vJ (((pck (((atP o.1 r_5).2.1).take y.toNat) : Nat) : Int)), vP (ax 0)] [boW ax ab ap al ao (((pck t : Nat) : Int), ck, ba, no, fu), bkW ab (nu, wo, sc, me, us, la, ct, gv, kd, sl)]
      refine i_putJ (i := 0) (j := 0) (f := 4) (q := 56) (cs' := [boW ax ab ap al ao (((pck (((atP o.1 r_5).2.1).take y.toNat) : Nat) : Int), ck, ba, no, fu), bkW ab (nu, wo, sc, me, us, la, ct, gv, kd, sl)]) C rfl rfl rfl hi_X7_types_X7 tyX7 tyX7_ok nmX7 (by decide) (Nat.le_of_ble_eq_true rfl) lk_X7_types_37 rfl rfl dX7_types_53 rfl rfl ?_
      refine i_iload_n (j := 3) (q := 57) C rfl rfl dX7_types_56 rfl ?_
      refine i_iret C hR dX7_types_57 ?_
      have hsp : (sp_types x y (o, h, t, ck, tx, ba, no, fu)) = (y, (o, h, (atP o.1 r_5).2.1.take y.toNat, ck, tx, ba, no, fu)) := by
        simp only [sp_types]
        rw [hfs]
        simp only
        rw [if_pos h_31]
      exact ⟨((pck (((atP o.1 r_5).2.1).take y.toNat) : Nat) : Int), ba, by rw [hsp], rfl, by rw [hsp]; exact hC.upd hN (hC.hbG hN) (hC.hhG hN) ⟨(hb.xwo r_5 g1 g2).2.1.take _, by have := hb.xwo r_5 g1 g2; rw [List.length_take]; omega⟩ hck hC.hx⟩
    · skip
      have h_31 := if0 c_31
      refine i_aload_n (j := 1) (q := 35) C rfl rfl dX7_types_34 rfl ?_
      refine i_callV (wr := [bkW ab (nu, wo, sc, me, us, la, ct, gv, kd, sl)]) (As := []) (st := []) (i := 0) (j := 0) (q := 38) C (c_X7_refuseBad K l (ab) (ax) (ap) (al) (ao) (((pck t : Nat) : Int)) (ck) (ba) (no) (fu) ) gX7_types_X7_refuseBad rfl hd_X7_refuseBad ⟨Nat.le_of_ble_eq_true rfl, Nat.le_of_ble_eq_true rfl⟩ ⟨rfl, rfl⟩ ⟨Nat.le_of_ble_eq_true rfl, Nat.le_of_ble_eq_true rfl⟩ (permBy [0, 1] (by decide) rfl rfl) rfl rfl rfl rfl (Nat.le_of_ble_eq_true rfl) dX7_types_35 rfl (fun v w hq => ?_)
      obtain ⟨rfl, rfl⟩ := hq
      show V X 0 0 38 [(3, vI r_5), (0, vP (ax 0)), (1, vI x), (2, vI y)] [vI (-2)] [boW ax ab ap al ao (((pck t : Nat) : Int), ck, ba + 1, no, fu), bkW ab (nu, wo, sc, me, us, la, ct, gv, kd, sl)]
      refine i_iret C hR dX7_types_38 ?_
      have hsp : (sp_types x y (o, h, t, ck, tx, ba, no, fu)) = (-2, (o, h, t, ck, tx, ba + 1, no, fu)) := by
        simp only [sp_types]
        rw [hfs]
        simp only
        rw [if_neg h_31]
        rfl
      exact ⟨((pck t : Nat) : Int), ba + 1, by rw [hsp], rfl, by rw [hsp]; exact hC.bad hN⟩

theorem lk_X7_clear_37 : Cond.fieldLink RX7 37 (TX7 4).1 (TX7 4).2.1 (TX7 4).2.2.1 ∈ wsX7_clear := List.mem_of_getElem? (i := 1) rfl
theorem hi_X7_clear_X7 : ∀ w ∈ u_ws RX7 TX7 9, w ∈ wsX7_clear := by decide +kernel
set_option maxHeartbeats 400000 in
set_option maxRecDepth 100000 in
theorem c_X7_clear (K : KT) (l : Launch) (ax : Nat → Nat) (ap : Nat → Nat) (al : Nat → Nat) (ao : Nat → Nat) (ck : Int) (ba : Int) (no : Int) (fu : Int) (t : List Int) (ab : Nat → Nat) (nu : Int → Int) (wo : Int → Int) (sc : Int → Int) (me : Int → Int) (us : Int → Int) (la : Int → Int) (ct : Int) (gv : Int) (kd : Int) (sl : Int) (ak : Int → Nat → Nat) (nx : Int) (pc : Int) (Bs : Int → Bk) (by_ : Int → Int) (ve : Int → Int) (ow : Int → Int) (fi : Int → Int) (se : Int → Int) (le : Int) (oc : Int) (pl : Int) (fa : Int) (so : Int → Int) (ra : Int → Int) (lc : Int) (o : Bo) (h : List Bo) (tx : List Int) (N : Int) (hC : okC N nu wo sc me us la ct gv kd sl Bs nx pc ((pck t : Nat) : Int) ck ba no fu by_ le (o, h, t, ck, tx, ba, no, fu)) (hN : N < 512) : Mt K l yX7_clear wsX7_clear ({ frames := 3, cells := 0, slots := 0, locals := 64 }) [vP (ax 0)] [boW ax ab ap al ao (((pck t : Nat) : Int), ck, ba, no, fu)] 0 0 (fun v w => ∃ td3 : Int, v = some (vI ((sp_clear (o, h, t, ck, tx, ba, no, fu)).1)) ∧ w = [boW ax ab ap al ao (td3, ck, ba, no, fu)] ∧ (okC (N + 1) nu wo sc me us la ct gv kd sl Bs nx pc td3 ck ba no fu by_ le (sp_clear (o, h, t, ck, tx, ba, no, fu)).2)) := by
  refine Mt.of (own := RX7) (cc := cX7_clear) (maxL := 2) (ret := (some .int)) (lv0 := [(0, vP (ax 0))]) (by decide) rfl rfl (Nat.le_of_ble_eq_true rfl) rfl (fun X C hR hNm => ?_)
  have hb := hC.hb
  have hct := hb.xct
  have hgv := hb.xgv
  have hkd := hb.xkd
  have hsl := hb.xsl
  obtain ⟨ht, hlt⟩ := hC.ht
  have hNN := hC.hN
  have hhx := hC.hh.1
  have hhp := hC.hh.2.1
  have hhl := hC.hh.2.2.1
  have hck := hC.hck
  have hTx := hC.hx
  refine i_aload_n (j := 0) (q := 1) C rfl rfl dX7_clear_0 rfl ?_
  refine i_get (i := 0) (j := 0) (f := 4) (q := 4) C rfl rfl rfl hi_X7_clear_X7 (by decide) lk_X7_clear_37 rfl dX7_clear_1 rfl ?_
  refine i_callS (wr := [boW ax ab ap al ao (((pck t : Nat) : Int), ck, ba, no, fu)]) (As := [vJ (((pck t : Nat) : Int))]) (st := []) (q := 7) C (c_X6_lengthOf K l (t) (by first | assumption | omega) (by first | assumption | omega)) gX7_clear_X6_lengthOf rfl hd_X6_lengthOf ⟨Nat.le_of_ble_eq_true rfl, Nat.le_of_ble_eq_true rfl⟩ ⟨rfl, rfl⟩ ⟨Nat.le_of_ble_eq_true rfl, Nat.le_of_ble_eq_true rfl⟩ (permBy [0] (by decide) rfl rfl) rfl (Nat.le_of_ble_eq_true rfl) dX7_clear_4 rfl (fun v w hq => ?_)
  obtain ⟨rfl, rfl⟩ := hq
  show V X 0 0 7 [(0, vP (ax 0))] [vI (((t.length : Nat) : Int))] [boW ax ab ap al ao (((pck t : Nat) : Int), ck, ba, no, fu)]
  refine i_istore_n (q := 8) (lv' := [(1, vI (((t.length : Nat) : Int))), (0, vP (ax 0))]) C rfl (by decide) rfl dX7_clear_7 rfl ?_
  refine i_aload_n (j := 1) (q := 9) C rfl rfl dX7_clear_8 rfl ?_
  refine i_lconst (z := 0) (q := 10) C (by decide) dX7_clear_9 rfl ?_
  refine i_putJ (i := 0) (j := 0) (f := 4) (q := 13) (cs' := [boW ax ab ap al ao (0, ck, ba, no, fu)]) C rfl rfl rfl hi_X7_clear_X7 tyX7 tyX7_ok nmX7 (by decide) (Nat.le_of_ble_eq_true rfl) lk_X7_clear_37 rfl rfl dX7_clear_10 rfl rfl ?_
  refine i_iload_n (j := 0) (q := 14) C rfl rfl dX7_clear_13 rfl ?_
  refine i_iret C hR dX7_clear_14 ?_
  have hsp : (sp_clear (o, h, t, ck, tx, ba, no, fu)) = (((t.length : Nat) : Int), (o, h, [], ck, tx, ba, no, fu)) := by
    simp only [sp_clear]
    skip
  exact ⟨0, by rw [hsp], rfl, by rw [hsp]; exact hC.upd hN (hC.hbG hN) (hC.hhG hN) ⟨fun y hy => by simp at hy, by simp⟩ hck hC.hx⟩

theorem lk_X7_adds_37 : Cond.fieldLink RX7 37 (TX7 4).1 (TX7 4).2.1 (TX7 4).2.2.1 ∈ wsX7_adds := List.mem_of_getElem? (i := 1) rfl
theorem hi_X7_adds_X7 : ∀ w ∈ u_ws RX7 TX7 9, w ∈ wsX7_adds := by decide +kernel
theorem lk_X7_adds_10 : Cond.fieldLink RX7 10 (TX7 0).1 (TX7 0).2.1 (TX7 0).2.2.1 ∈ wsX7_adds := List.mem_of_getElem? (i := 2) rfl
theorem lk_X7_adds_19 : Cond.fieldLink RX7 19 (TX7 1).1 (TX7 1).2.1 (TX7 1).2.2.1 ∈ wsX7_adds := List.mem_of_getElem? (i := 3) rfl
theorem hd_X4_remember : yX4_remember.cls = RX4 ∧ yX4_remember.cls ≠ "java/lang/invoke/MethodHandle" ∧ yX4_remember.cls ≠ "java/lang/invoke/VarHandle" ∧ (parseMethodDescriptor yX4_remember.desc).map (fun d => d.parameters.length) = some 1 := by decide +kernel
set_option maxHeartbeats 400000 in
set_option maxRecDepth 100000 in
theorem c_X7_adds (K : KT) (l : Launch) (ax : Nat → Nat) (ap : Nat → Nat) (al : Nat → Nat) (ao : Nat → Nat) (ck : Int) (ba : Int) (no : Int) (fu : Int) (t : List Int) (ab : Nat → Nat) (nu : Int → Int) (wo : Int → Int) (sc : Int → Int) (me : Int → Int) (us : Int → Int) (la : Int → Int) (ct : Int) (gv : Int) (kd : Int) (sl : Int) (ak : Int → Nat → Nat) (nx : Int) (pc : Int) (Bs : Int → Bk) (by_ : Int → Int) (ve : Int → Int) (ow : Int → Int) (fi : Int → Int) (se : Int → Int) (le : Int) (oc : Int) (pl : Int) (fa : Int) (so : Int → Int) (ra : Int → Int) (lc : Int) (o : Bo) (h : List Bo) (tx : List Int) (N : Int) (x : Int) (y : Int) (hC : okC N nu wo sc me us la ct gv kd sl Bs nx pc ((pck t : Nat) : Int) ck ba no fu by_ le (o, h, t, ck, tx, ba, no, fu)) (hN : N < 512) (hx : rI x) (hy : rI y) : Mt K l yX7_adds wsX7_adds ({ frames := 3, cells := 0, slots := 0, locals := 67 }) [vP (ax 0), vI x, vI y] [boW ax ab ap al ao (((pck t : Nat) : Int), ck, ba, no, fu), bkW ab (nu, wo, sc, me, us, la, ct, gv, kd, sl), paW ap ak (nx, pc), kbW ak Bs] 0 0 (fun v w => ∃ td3 : Int, ∃ ba3 : Int, ∃ no3 : Int, ∃ fu3 : Int, ∃ nx3 : Int, ∃ pc3 : Int, ∃ Bs3 : Int → Bk, ∃ nu3 : Int → Int, ∃ wo3 : Int → Int, ∃ sc3 : Int → Int, ∃ me3 : Int → Int, ∃ us3 : Int → Int, ∃ la3 : Int → Int, ∃ ct3 : Int, ∃ gv3 : Int, v = some (vI ((sp_adds x y (o, h, t, ck, tx, ba, no, fu)).1)) ∧ w = [boW ax ab ap al ao (td3, ck, ba3, no3, fu3), bkW ab (nu3, wo3, sc3, me3, us3, la3, ct3, gv3, kd, sl), paW ap ak (nx3, pc3), kbW ak Bs3] ∧ (okC (N + 1) nu3 wo3 sc3 me3 us3 la3 ct3 gv3 kd sl Bs3 nx3 pc3 td3 ck ba3 no3 fu3 by_ le (sp_adds x y (o, h, t, ck, tx, ba, no, fu)).2)) := by
  refine Mt.of (own := RX7) (cc := cX7_adds) (maxL := 4) (ret := (some .int)) (lv0 := [(0, vP (ax 0)), (1, vI x), (2, vI y)]) (by decide) rfl rfl (Nat.le_of_ble_eq_true rfl) rfl (fun X C hR hNm => ?_)
  have hb := hC.hb
  have hct := hb.xct
  have hgv := hb.xgv
  have hkd := hb.xkd
  have hsl := hb.xsl
  obtain ⟨ht, hlt⟩ := hC.ht
  have hNN := hC.hN
  have hhx := hC.hh.1
  have hhp := hC.hh.2.1
  have hhl := hC.hh.2.2.1
  have hck := hC.hck
  have hTx := hC.hx
  have hrb : roomB o = true ↔ (ct < 40 ∧ gv < 200) := by
    unfold roomB
    rw [Bool.and_eq_true, decide_eq_true_eq, decide_eq_true_eq]
    omega
  have bw := pck_b ht (by omega)
  refine i_iload_n (j := 1) (q := 1) C rfl rfl dX7_adds_0 rfl ?_
  refine i_iconst (q := 2) C dX7_adds_1 rfl ?_
  refine i_sipush (q := 5) C (by decide) dX7_adds_2 rfl ?_
  refine i_callS (wr := [boW ax ab ap al ao (((pck t : Nat) : Int), ck, ba, no, fu), bkW ab (nu, wo, sc, me, us, la, ct, gv, kd, sl), paW ap ak (nx, pc), kbW ak Bs]) (As := [vI x, vI 0, vI 1000]) (st := []) (q := 8) C (c_X7_isWithin K l (x) (0) (1000) (by first | assumption | omega) (by first | assumption | omega) (by first | assumption | omega)) gX7_adds_X7_isWithin rfl hd_X7_isWithin ⟨Nat.le_of_ble_eq_true rfl, Nat.le_of_ble_eq_true rfl⟩ ⟨rfl, rfl⟩ ⟨Nat.le_of_ble_eq_true rfl, Nat.le_of_ble_eq_true rfl⟩ (permBy [0, 1, 2, 3] (by decide) rfl rfl) rfl (Nat.le_of_ble_eq_true rfl) dX7_adds_5 rfl (fun v w hq => ?_)
  obtain ⟨rfl, rfl⟩ := hq
  show V X 0 0 8 [(0, vP (ax 0)), (1, vI x), (2, vI y)] [vI (if 0 ≤ x ∧ x ≤ 1000 then 1 else 0)] [boW ax ab ap al ao (((pck t : Nat) : Int), ck, ba, no, fu), bkW ab (nu, wo, sc, me, us, la, ct, gv, kd, sl), paW ap ak (nx, pc), kbW ak Bs]
  refine i_if_eq (tgt := 21) (q := 11) C (if01) dX7_adds_8 (by decide) rfl (fun c_8 => ?_) (fun c_8 => ?_)
  · skip
    have h_8 := if0 c_8
    refine i_aload_n (j := 0) (q := 22) C rfl rfl dX7_adds_21 rfl ?_
    refine i_callV (wr := [bkW ab (nu, wo, sc, me, us, la, ct, gv, kd, sl), paW ap ak (nx, pc), kbW ak Bs]) (As := []) (st := []) (i := 0) (j := 0) (q := 25) C (c_X7_refuseBad K l (ab) (ax) (ap) (al) (ao) (((pck t : Nat) : Int)) (ck) (ba) (no) (fu) ) gX7_adds_X7_refuseBad rfl hd_X7_refuseBad ⟨Nat.le_of_ble_eq_true rfl, Nat.le_of_ble_eq_true rfl⟩ ⟨rfl, rfl⟩ ⟨Nat.le_of_ble_eq_true rfl, Nat.le_of_ble_eq_true rfl⟩ (permBy [0, 1, 2, 3] (by decide) rfl rfl) rfl rfl rfl rfl (Nat.le_of_ble_eq_true rfl) dX7_adds_22 rfl (fun v w hq => ?_)
    obtain ⟨rfl, rfl⟩ := hq
    show V X 0 0 25 [(0, vP (ax 0)), (1, vI x), (2, vI y)] [vI (-2)] [boW ax ab ap al ao (((pck t : Nat) : Int), ck, ba + 1, no, fu), bkW ab (nu, wo, sc, me, us, la, ct, gv, kd, sl), paW ap ak (nx, pc), kbW ak Bs]
    refine i_iret C hR dX7_adds_25 ?_
    have hsp : (sp_adds x y (o, h, t, ck, tx, ba, no, fu)) = (-2, (o, h, t, ck, tx, ba + 1, no, fu)) := by
      simp only [sp_adds]
      rw [if_pos (fun z => h_8 z.1)]
      rfl
    exact ⟨((pck t : Nat) : Int), ba + 1, no, fu, nx, pc, Bs, nu, wo, sc, me, us, la, ct, gv, by rw [hsp], rfl, by rw [hsp]; exact hC.bad hN⟩
  · skip
    have h_8 := ifn0 c_8
    refine i_iload_n (j := 2) (q := 12) C rfl rfl dX7_adds_11 rfl ?_
    refine i_iconst (q := 13) C dX7_adds_12 rfl ?_
    refine i_bipush (q := 15) C (by decide) dX7_adds_13 rfl ?_
    refine i_callS (wr := [boW ax ab ap al ao (((pck t : Nat) : Int), ck, ba, no, fu), bkW ab (nu, wo, sc, me, us, la, ct, gv, kd, sl), paW ap ak (nx, pc), kbW ak Bs]) (As := [vI y, vI 0, vI 9]) (st := []) (q := 18) C (c_X7_isWithin K l (y) (0) (9) (by first | assumption | omega) (by first | assumption | omega) (by first | assumption | omega)) gX7_adds_X7_isWithin rfl hd_X7_isWithin ⟨Nat.le_of_ble_eq_true rfl, Nat.le_of_ble_eq_true rfl⟩ ⟨rfl, rfl⟩ ⟨Nat.le_of_ble_eq_true rfl, Nat.le_of_ble_eq_true rfl⟩ (permBy [0, 1, 2, 3] (by decide) rfl rfl) rfl (Nat.le_of_ble_eq_true rfl) dX7_adds_15 rfl (fun v w hq => ?_)
    obtain ⟨rfl, rfl⟩ := hq
    show V X 0 0 18 [(0, vP (ax 0)), (1, vI x), (2, vI y)] [vI (if 0 ≤ y ∧ y ≤ 9 then 1 else 0)] [boW ax ab ap al ao (((pck t : Nat) : Int), ck, ba, no, fu), bkW ab (nu, wo, sc, me, us, la, ct, gv, kd, sl), paW ap ak (nx, pc), kbW ak Bs]
    refine i_if_ne (tgt := 26) (q := 21) C (if01) dX7_adds_18 (by decide) rfl (fun c_18 => ?_) (fun c_18 => ?_)
    · skip
      have h_18 := ifn0 c_18
      refine i_aload_n (j := 0) (q := 27) C rfl rfl dX7_adds_26 rfl ?_
      refine i_get (i := 0) (j := 0) (f := 4) (q := 30) C rfl rfl rfl hi_X7_adds_X7 (by decide) lk_X7_adds_37 rfl dX7_adds_27 rfl ?_
      refine i_callS (wr := [boW ax ab ap al ao (((pck t : Nat) : Int), ck, ba, no, fu), bkW ab (nu, wo, sc, me, us, la, ct, gv, kd, sl), paW ap ak (nx, pc), kbW ak Bs]) (As := [vJ (((pck t : Nat) : Int))]) (st := []) (q := 33) C (c_X6_lengthOf K l (t) (by first | assumption | omega) (by first | assumption | omega)) gX7_adds_X6_lengthOf rfl hd_X6_lengthOf ⟨Nat.le_of_ble_eq_true rfl, Nat.le_of_ble_eq_true rfl⟩ ⟨rfl, rfl⟩ ⟨Nat.le_of_ble_eq_true rfl, Nat.le_of_ble_eq_true rfl⟩ (permBy [0, 1, 2, 3] (by decide) rfl rfl) rfl (Nat.le_of_ble_eq_true rfl) dX7_adds_30 rfl (fun v w hq => ?_)
      obtain ⟨rfl, rfl⟩ := hq
      show V X 0 0 33 [(0, vP (ax 0)), (1, vI x), (2, vI y)] [vI (((t.length : Nat) : Int))] [boW ax ab ap al ao (((pck t : Nat) : Int), ck, ba, no, fu), bkW ab (nu, wo, sc, me, us, la, ct, gv, kd, sl), paW ap ak (nx, pc), kbW ak Bs]
      refine i_iconst (q := 34) C dX7_adds_33 rfl ?_
      refine i_bipush (q := 36) C (by decide) dX7_adds_34 rfl ?_
      refine i_callS (wr := [boW ax ab ap al ao (((pck t : Nat) : Int), ck, ba, no, fu), bkW ab (nu, wo, sc, me, us, la, ct, gv, kd, sl), paW ap ak (nx, pc), kbW ak Bs]) (As := [vI (((t.length : Nat) : Int)), vI 1, vI 8]) (st := []) (q := 39) C (c_X7_isWithin K l (((t.length : Nat) : Int)) (1) (8) (by first | assumption | omega) (by first | assumption | omega) (by first | assumption | omega)) gX7_adds_X7_isWithin rfl hd_X7_isWithin ⟨Nat.le_of_ble_eq_true rfl, Nat.le_of_ble_eq_true rfl⟩ ⟨rfl, rfl⟩ ⟨Nat.le_of_ble_eq_true rfl, Nat.le_of_ble_eq_true rfl⟩ (permBy [0, 1, 2, 3] (by decide) rfl rfl) rfl (Nat.le_of_ble_eq_true rfl) dX7_adds_36 rfl (fun v w hq => ?_)
      obtain ⟨rfl, rfl⟩ := hq
      show V X 0 0 39 [(0, vP (ax 0)), (1, vI x), (2, vI y)] [vI (if 1 ≤ (((t.length : Nat) : Int)) ∧ (((t.length : Nat) : Int)) ≤ 8 then 1 else 0)] [boW ax ab ap al ao (((pck t : Nat) : Int), ck, ba, no, fu), bkW ab (nu, wo, sc, me, us, la, ct, gv, kd, sl), paW ap ak (nx, pc), kbW ak Bs]
      refine i_if_eq (tgt := 57) (q := 42) C (if01) dX7_adds_39 (by decide) rfl (fun c_39 => ?_) (fun c_39 => ?_)
      · skip
        have h_39 := if0 c_39
        refine i_aload_n (j := 0) (q := 58) C rfl rfl dX7_adds_57 rfl ?_
        refine i_callV (wr := [bkW ab (nu, wo, sc, me, us, la, ct, gv, kd, sl), paW ap ak (nx, pc), kbW ak Bs]) (As := []) (st := []) (i := 0) (j := 0) (q := 61) C (c_X7_refuseNo K l (ab) (ax) (ap) (al) (ao) (((pck t : Nat) : Int)) (ck) (ba) (no) (fu) ) gX7_adds_X7_refuseNo rfl hd_X7_refuseNo ⟨Nat.le_of_ble_eq_true rfl, Nat.le_of_ble_eq_true rfl⟩ ⟨rfl, rfl⟩ ⟨Nat.le_of_ble_eq_true rfl, Nat.le_of_ble_eq_true rfl⟩ (permBy [0, 1, 2, 3] (by decide) rfl rfl) rfl rfl rfl rfl (Nat.le_of_ble_eq_true rfl) dX7_adds_58 rfl (fun v w hq => ?_)
        obtain ⟨rfl, rfl⟩ := hq
        show V X 0 0 61 [(0, vP (ax 0)), (1, vI x), (2, vI y)] [vI (-3)] [boW ax ab ap al ao (((pck t : Nat) : Int), ck, ba, no + 1, fu), bkW ab (nu, wo, sc, me, us, la, ct, gv, kd, sl), paW ap ak (nx, pc), kbW ak Bs]
        refine i_iret C hR dX7_adds_61 ?_
        have hsp : (sp_adds x y (o, h, t, ck, tx, ba, no, fu)) = (-3, (o, h, t, ck, tx, ba, no + 1, fu)) := by
          simp only [sp_adds]
          rw [if_neg (fun z => z ⟨h_8, h_18⟩), if_pos (Or.inl (fun z => h_39 (by omega)))]
          rfl
        exact ⟨((pck t : Nat) : Int), ba, no + 1, fu, nx, pc, Bs, nu, wo, sc, me, us, la, ct, gv, by rw [hsp], rfl, by rw [hsp]; exact hC.noo hN⟩
      · skip
        have h_39 := ifn0 c_39
        refine i_aload_n (j := 0) (q := 43) C rfl rfl dX7_adds_42 rfl ?_
        refine i_get (i := 0) (j := 0) (f := 0) (q := 46) C rfl rfl rfl hi_X7_adds_X7 (by decide) lk_X7_adds_10 rfl dX7_adds_43 rfl ?_
        refine i_aload_n (j := 0) (q := 47) C rfl rfl dX7_adds_46 rfl ?_
        refine i_get (i := 0) (j := 0) (f := 4) (q := 50) C rfl rfl rfl hi_X7_adds_X7 (by decide) lk_X7_adds_37 rfl dX7_adds_47 rfl ?_
        refine i_callV (wr := [boW ax ab ap al ao (((pck t : Nat) : Int), ck, ba, no, fu), paW ap ak (nx, pc), kbW ak Bs]) (As := [vJ (((pck t : Nat) : Int))]) (st := []) (i := 0) (j := 0) (q := 53) C (c_X0_slotSpelled K l (ab) (nu) (wo) (sc) (me) (us) (la) (ct) (gv) (kd) (sl) (((pck t : Nat) : Int)) (by omega) (fun j g0 g1 => hb.rL j g0 g1) (by omega)) gX7_adds_X0_slotSpelled rfl hd_X0_slotSpelled ⟨Nat.le_of_ble_eq_true rfl, Nat.le_of_ble_eq_true rfl⟩ ⟨rfl, rfl⟩ ⟨Nat.le_of_ble_eq_true rfl, Nat.le_of_ble_eq_true rfl⟩ (permBy [1, 0, 2, 3] (by decide) rfl rfl) rfl rfl rfl rfl (Nat.le_of_ble_eq_true rfl) dX7_adds_50 rfl (fun v w hq => ?_)
        obtain ⟨r_50, rfl, rfl, hr_50⟩ := hq
        show V X 0 0 53 [(0, vP (ax 0)), (1, vI x), (2, vI y)] [vI r_50] [bkW ab (nu, wo, sc, me, us, la, ct, gv, kd, sl), boW ax ab ap al ao (((pck t : Nat) : Int), ck, ba, no, fu), paW ap ak (nx, pc), kbW ak Bs]
        refine V.perm (cs' := [boW ax ab ap al ao (((pck t : Nat) : Int), ck, ba, no, fu), bkW ab (nu, wo, sc, me, us, la, ct, gv, kd, sl), paW ap ak (nx, pc), kbW ak Bs]) (permBy [1, 0, 2, 3] (by decide) rfl rfl) ?_
        have hr6 := hb.has ht hr_50
        refine i_iconst (q := 54) C dX7_adds_53 rfl ?_
        refine i_icmp_eq (tgt := 62) (q := 57) C (by rcases hr_50 with h | h <;> omega) (by omega) dX7_adds_54 (by decide) rfl (fun c_54 => ?_) (fun c_54 => ?_)
        · skip
          have hno : hasB o t = false := by
            rcases hr6 with h | h
            · exact h.2
            · omega
          have hnb : ¬ (¬ (1 ≤ t.length ∧ t.length ≤ 8) ∨ hasB o t = true) := by
            rw [hno]
            rintro (z | z)
            · exact z (by omega)
            · cases z
          have hrf : ¬ (ct < 40 ∧ gv < 200) → roomB o = false := fun z => by
            cases hq : roomB o with
            | false => rfl
            | true => exact absurd (hrb.mp hq) z
          refine i_aload_n (j := 0) (q := 63) C rfl rfl dX7_adds_62 rfl ?_
          refine i_get (i := 0) (j := 0) (f := 0) (q := 66) C rfl rfl rfl hi_X7_adds_X7 (by decide) lk_X7_adds_10 rfl dX7_adds_63 rfl ?_
          refine i_callV (wr := [boW ax ab ap al ao (((pck t : Nat) : Int), ck, ba, no, fu), paW ap ak (nx, pc), kbW ak Bs]) (As := []) (st := []) (i := 0) (j := 0) (q := 69) C (c_X0_hasRoom K l (ab) (nu) (wo) (sc) (me) (us) (la) (ct) (gv) (kd) (sl) (by omega) (by omega)) gX7_adds_X0_hasRoom rfl hd_X0_hasRoom ⟨Nat.le_of_ble_eq_true rfl, Nat.le_of_ble_eq_true rfl⟩ ⟨rfl, rfl⟩ ⟨Nat.le_of_ble_eq_true rfl, Nat.le_of_ble_eq_true rfl⟩ (permBy [1, 0, 2, 3] (by decide) rfl rfl) rfl rfl rfl rfl (Nat.le_of_ble_eq_true rfl) dX7_adds_66 rfl (fun v w hq => ?_)
          obtain ⟨rfl, rfl⟩ := hq
          show V X 0 0 69 [(0, vP (ax 0)), (1, vI x), (2, vI y)] [vI (if ct < 40 ∧ gv < 200 then 1 else 0)] [bkW ab (nu, wo, sc, me, us, la, ct, gv, kd, sl), boW ax ab ap al ao (((pck t : Nat) : Int), ck, ba, no, fu), paW ap ak (nx, pc), kbW ak Bs]
          refine V.perm (cs' := [boW ax ab ap al ao (((pck t : Nat) : Int), ck, ba, no, fu), bkW ab (nu, wo, sc, me, us, la, ct, gv, kd, sl), paW ap ak (nx, pc), kbW ak Bs]) (permBy [1, 0, 2, 3] (by decide) rfl rfl) ?_
          refine i_if_ne (tgt := 77) (q := 72) C (if01) dX7_adds_69 (by decide) rfl (fun c_69 => ?_) (fun c_69 => ?_)
          · skip
            have h_69 := ifn0 c_69
            refine i_aload_n (j := 0) (q := 78) C rfl rfl dX7_adds_77 rfl ?_
            refine i_get (i := 0) (j := 0) (f := 1) (q := 81) C rfl rfl rfl hi_X7_adds_X7 (by decide) lk_X7_adds_19 rfl dX7_adds_78 rfl ?_
            refine i_aload_n (j := 0) (q := 82) C rfl rfl dX7_adds_81 rfl ?_
            refine i_get (i := 0) (j := 0) (f := 0) (q := 85) C rfl rfl rfl hi_X7_adds_X7 (by decide) lk_X7_adds_10 rfl dX7_adds_82 rfl ?_
            refine i_callV (wr := [boW ax ab ap al ao (((pck t : Nat) : Int), ck, ba, no, fu)]) (As := [vP (ab 0)]) (st := []) (i := 0) (j := 0) (q := 88) C (c_X4_remember K l (ap) (ak) (nx) (pc) (Bs) (ab) (nu) (wo) (sc) (me) (us) (la) (ct) (gv) (kd) (sl) (by omega) (by omega) (by omega)) gX7_adds_X4_remember rfl hd_X4_remember ⟨Nat.le_of_ble_eq_true rfl, Nat.le_of_ble_eq_true rfl⟩ ⟨rfl, rfl⟩ ⟨Nat.le_of_ble_eq_true rfl, Nat.le_of_ble_eq_true rfl⟩ (permBy [2, 1, 3, 0] (by decide) rfl rfl) rfl rfl rfl rfl (Nat.le_of_ble_eq_true rfl) dX7_adds_85 rfl (fun v w hq => ?_)
            obtain ⟨nu3_85, wo3_85, sc3_85, me3_85, us3_85, la3_85, rfl, rfl, hc_85⟩ := hq
            show V X 0 0 88 [(0, vP (ax 0)), (1, vI x), (2, vI y)] [] [paW ap ak (if nx + 1 < 12 then nx + 1 else 0, min (pc + 1) 12), bkW ab (nu, wo, sc, me, us, la, ct, gv, kd, sl), kbW ak (up Bs nx (nu3_85, wo3_85, sc3_85, me3_85, us3_85, la3_85, ct, gv, kd, sl)), boW ax ab ap al ao (((pck t : Nat) : Int), ck, ba, no, fu)]
            refine V.perm (cs' := [boW ax ab ap al ao (((pck t : Nat) : Int), ck, ba, no, fu), bkW ab (nu, wo, sc, me, us, la, ct, gv, kd, sl), paW ap ak (if nx + 1 < 12 then nx + 1 else 0, min (pc + 1) 12), kbW ak (up Bs nx (nu3_85, wo3_85, sc3_85, me3_85, us3_85, la3_85, ct, gv, kd, sl))]) (permBy [3, 1, 0, 2] (by decide) rfl rfl) ?_
            refine i_aload_n (j := 0) (q := 89) C rfl rfl dX7_adds_88 rfl ?_
            refine i_get (i := 0) (j := 0) (f := 0) (q := 92) C rfl rfl rfl hi_X7_adds_X7 (by decide) lk_X7_adds_10 rfl dX7_adds_89 rfl ?_
            refine i_aload_n (j := 0) (q := 93) C rfl rfl dX7_adds_92 rfl ?_
            refine i_get (i := 0) (j := 0) (f := 4) (q := 96) C rfl rfl rfl hi_X7_adds_X7 (by decide) lk_X7_adds_37 rfl dX7_adds_93 rfl ?_
            refine i_iload_n (j := 1) (q := 97) C rfl rfl dX7_adds_96 rfl ?_
            refine i_iload_n (j := 2) (q := 98) C rfl rfl dX7_adds_97 rfl ?_
            refine i_callV (wr := [boW ax ab ap al ao (((pck t : Nat) : Int), ck, ba, no, fu), paW ap ak (if nx + 1 < 12 then nx + 1 else 0, min (pc + 1) 12), kbW ak (up Bs nx (nu3_85, wo3_85, sc3_85, me3_85, us3_85, la3_85, ct, gv, kd, sl))]) (As := [vJ (((pck t : Nat) : Int)), vI x, vI y]) (st := []) (i := 0) (j := 0) (q := 101) C (c_X0_append K l (ab) (nu) (wo) (sc) (me) (us) (la) (ct) (gv) (kd) (sl) (((pck t : Nat) : Int)) (x) (y) (by omega) (by omega)) gX7_adds_X0_append rfl hd_X0_append ⟨Nat.le_of_ble_eq_true rfl, Nat.le_of_ble_eq_true rfl⟩ ⟨rfl, rfl⟩ ⟨Nat.le_of_ble_eq_true rfl, Nat.le_of_ble_eq_true rfl⟩ (permBy [1, 0, 2, 3] (by decide) rfl rfl) rfl rfl rfl rfl (Nat.le_of_ble_eq_true rfl) dX7_adds_98 rfl (fun v w hq => ?_)
            obtain ⟨rfl, rfl⟩ := hq
            show V X 0 0 101 [(0, vP (ax 0)), (1, vI x), (2, vI y)] [vI gv] [bkW ab (up nu ct gv, up wo ct (((pck t : Nat) : Int)), up sc ct x, up me ct y, up us ct 0, up la ct (-1), ct + 1, gv + 1, kd, sl), boW ax ab ap al ao (((pck t : Nat) : Int), ck, ba, no, fu), paW ap ak (if nx + 1 < 12 then nx + 1 else 0, min (pc + 1) 12), kbW ak (up Bs nx (nu3_85, wo3_85, sc3_85, me3_85, us3_85, la3_85, ct, gv, kd, sl))]
            refine V.perm (cs' := [boW ax ab ap al ao (((pck t : Nat) : Int), ck, ba, no, fu), bkW ab (up nu ct gv, up wo ct (((pck t : Nat) : Int)), up sc ct x, up me ct y, up us ct 0, up la ct (-1), ct + 1, gv + 1, kd, sl), paW ap ak (if nx + 1 < 12 then nx + 1 else 0, min (pc + 1) 12), kbW ak (up Bs nx (nu3_85, wo3_85, sc3_85, me3_85, us3_85, la3_85, ct, gv, kd, sl))]) (permBy [1, 0, 2, 3] (by decide) rfl rfl) ?_
            refine i_istore_n (q := 102) (lv' := [(3, vI gv), (0, vP (ax 0)), (1, vI x), (2, vI y)]) C rfl (by decide) rfl dX7_adds_101 rfl ?_
            refine i_aload_n (j := 1) (q := 103) C rfl rfl dX7_adds_102 rfl ?_
            refine i_lconst (z := 0) (q := 104) C (by decide) dX7_adds_103 rfl ?_
            refine i_putJ (i := 0) (j := 0) (f := 4) (q := 107) (cs' := [boW ax ab ap al ao (0, ck, ba, no, fu), bkW ab (up nu ct gv, up wo ct (((pck t : Nat) : Int)), up sc ct x, up me ct y, up us ct 0, up la ct (-1), ct + 1, gv + 1, kd, sl), paW ap ak (if nx + 1 < 12 then nx + 1 else 0, min (pc + 1) 12), kbW ak (up Bs nx (nu3_85, wo3_85, sc3_85, me3_85, us3_85, la3_85, ct, gv, kd, sl))]) C rfl rfl rfl hi_X7_adds_X7 tyX7 tyX7_ok nmX7 (by decide) (Nat.le_of_ble_eq_true rfl) lk_X7_adds_37 rfl rfl dX7_adds_104 rfl rfl ?_
            refine i_iload_n (j := 0) (q := 108) C rfl rfl dX7_adds_107 rfl ?_
            refine i_iret C hR dX7_adds_108 ?_
            have hsp : (sp_adds x y (o, h, t, ck, tx, ba, no, fu)) = (gv, (addB o t x y, noteH h o, [], ck, tx, ba, no, fu)) := by
              simp only [sp_adds]
              rw [if_neg (fun z => z ⟨h_8, h_18⟩), if_neg hnb, if_neg (by rw [hrb.mpr h_69]; intro z; cases z)]
              rw [← hgv.2]
            exact ⟨0, ba, no, fu, if nx + 1 < 12 then nx + 1 else 0, min (pc + 1) 12, up Bs nx (nu3_85, wo3_85, sc3_85, me3_85, us3_85, la3_85, ct, gv, kd, sl), up nu ct gv, up wo ct (((pck t : Nat) : Int)), up sc ct x, up me ct y, up us ct 0, up la ct (-1), ct + 1, gv + 1, by rw [hsp], rfl, by rw [hsp]; exact hC.upd hN ((hC.hbG hN).add ht (by omega) hno (hrb.mpr h_69) h_8 h_18) ((hC.hhG hN).note (B := (nu3_85, wo3_85, sc3_85, me3_85, us3_85, la3_85, ct, gv, kd, sl)) ((hC.hbG hN).ext hc_85)) ⟨fun y hy => by simp at hy, by simp⟩ hck hC.hx⟩
          · skip
            have h_69 := if0 c_69
            refine i_aload_n (j := 0) (q := 73) C rfl rfl dX7_adds_72 rfl ?_
            refine i_callV (wr := [bkW ab (nu, wo, sc, me, us, la, ct, gv, kd, sl), paW ap ak (nx, pc), kbW ak Bs]) (As := []) (st := []) (i := 0) (j := 0) (q := 76) C (c_X7_refuseFull K l (ab) (ax) (ap) (al) (ao) (((pck t : Nat) : Int)) (ck) (ba) (no) (fu) ) gX7_adds_X7_refuseFull rfl hd_X7_refuseFull ⟨Nat.le_of_ble_eq_true rfl, Nat.le_of_ble_eq_true rfl⟩ ⟨rfl, rfl⟩ ⟨Nat.le_of_ble_eq_true rfl, Nat.le_of_ble_eq_true rfl⟩ (permBy [0, 1, 2, 3] (by decide) rfl rfl) rfl rfl rfl rfl (Nat.le_of_ble_eq_true rfl) dX7_adds_73 rfl (fun v w hq => ?_)
            obtain ⟨rfl, rfl⟩ := hq
            show V X 0 0 76 [(0, vP (ax 0)), (1, vI x), (2, vI y)] [vI (-4)] [boW ax ab ap al ao (((pck t : Nat) : Int), ck, ba, no, fu + 1), bkW ab (nu, wo, sc, me, us, la, ct, gv, kd, sl), paW ap ak (nx, pc), kbW ak Bs]
            refine i_iret C hR dX7_adds_76 ?_
            have hsp : (sp_adds x y (o, h, t, ck, tx, ba, no, fu)) = (-4, (o, h, t, ck, tx, ba, no, fu + 1)) := by
              simp only [sp_adds]
              rw [if_neg (fun z => z ⟨h_8, h_18⟩), if_neg hnb, if_pos (hrf h_69)]
              rfl
            exact ⟨((pck t : Nat) : Int), ba, no, fu + 1, nx, pc, Bs, nu, wo, sc, me, us, la, ct, gv, by rw [hsp], rfl, by rw [hsp]; exact hC.full hN⟩
        · skip
          have hha : hasB o t = true := by
            rcases hr6 with h | h
            · omega
            · exact h.2.2.1
          refine i_aload_n (j := 0) (q := 58) C rfl rfl dX7_adds_57 rfl ?_
          refine i_callV (wr := [bkW ab (nu, wo, sc, me, us, la, ct, gv, kd, sl), paW ap ak (nx, pc), kbW ak Bs]) (As := []) (st := []) (i := 0) (j := 0) (q := 61) C (c_X7_refuseNo K l (ab) (ax) (ap) (al) (ao) (((pck t : Nat) : Int)) (ck) (ba) (no) (fu) ) gX7_adds_X7_refuseNo rfl hd_X7_refuseNo ⟨Nat.le_of_ble_eq_true rfl, Nat.le_of_ble_eq_true rfl⟩ ⟨rfl, rfl⟩ ⟨Nat.le_of_ble_eq_true rfl, Nat.le_of_ble_eq_true rfl⟩ (permBy [0, 1, 2, 3] (by decide) rfl rfl) rfl rfl rfl rfl (Nat.le_of_ble_eq_true rfl) dX7_adds_58 rfl (fun v w hq => ?_)
          obtain ⟨rfl, rfl⟩ := hq
          show V X 0 0 61 [(0, vP (ax 0)), (1, vI x), (2, vI y)] [vI (-3)] [boW ax ab ap al ao (((pck t : Nat) : Int), ck, ba, no + 1, fu), bkW ab (nu, wo, sc, me, us, la, ct, gv, kd, sl), paW ap ak (nx, pc), kbW ak Bs]
          refine i_iret C hR dX7_adds_61 ?_
          have hsp : (sp_adds x y (o, h, t, ck, tx, ba, no, fu)) = (-3, (o, h, t, ck, tx, ba, no + 1, fu)) := by
            simp only [sp_adds]
            rw [if_neg (fun z => z ⟨h_8, h_18⟩), if_pos (Or.inr hha)]
            rfl
          exact ⟨((pck t : Nat) : Int), ba, no + 1, fu, nx, pc, Bs, nu, wo, sc, me, us, la, ct, gv, by rw [hsp], rfl, by rw [hsp]; exact hC.noo hN⟩
    · skip
      have h_18 := if0 c_18
      refine i_aload_n (j := 0) (q := 22) C rfl rfl dX7_adds_21 rfl ?_
      refine i_callV (wr := [bkW ab (nu, wo, sc, me, us, la, ct, gv, kd, sl), paW ap ak (nx, pc), kbW ak Bs]) (As := []) (st := []) (i := 0) (j := 0) (q := 25) C (c_X7_refuseBad K l (ab) (ax) (ap) (al) (ao) (((pck t : Nat) : Int)) (ck) (ba) (no) (fu) ) gX7_adds_X7_refuseBad rfl hd_X7_refuseBad ⟨Nat.le_of_ble_eq_true rfl, Nat.le_of_ble_eq_true rfl⟩ ⟨rfl, rfl⟩ ⟨Nat.le_of_ble_eq_true rfl, Nat.le_of_ble_eq_true rfl⟩ (permBy [0, 1, 2, 3] (by decide) rfl rfl) rfl rfl rfl rfl (Nat.le_of_ble_eq_true rfl) dX7_adds_22 rfl (fun v w hq => ?_)
      obtain ⟨rfl, rfl⟩ := hq
      show V X 0 0 25 [(0, vP (ax 0)), (1, vI x), (2, vI y)] [vI (-2)] [boW ax ab ap al ao (((pck t : Nat) : Int), ck, ba + 1, no, fu), bkW ab (nu, wo, sc, me, us, la, ct, gv, kd, sl), paW ap ak (nx, pc), kbW ak Bs]
      refine i_iret C hR dX7_adds_25 ?_
      have hsp : (sp_adds x y (o, h, t, ck, tx, ba, no, fu)) = (-2, (o, h, t, ck, tx, ba + 1, no, fu)) := by
        simp only [sp_adds]
        rw [if_pos (fun z => h_18 z.2)]
        rfl
      exact ⟨((pck t : Nat) : Int), ba + 1, no, fu, nx, pc, Bs, nu, wo, sc, me, us, la, ct, gv, by rw [hsp], rfl, by rw [hsp]; exact hC.bad hN⟩

theorem lk_X7_of_10 : Cond.fieldLink RX7 10 (TX7 0).1 (TX7 0).2.1 (TX7 0).2.2.1 ∈ wsX7_of := List.mem_of_getElem? (i := 1) rfl
theorem hi_X7_of_X7 : ∀ w ∈ u_ws RX7 TX7 9, w ∈ wsX7_of := by decide +kernel
theorem hd_X0_detail : yX0_detail.cls = RX0 ∧ yX0_detail.cls ≠ "java/lang/invoke/MethodHandle" ∧ yX0_detail.cls ≠ "java/lang/invoke/VarHandle" ∧ (parseMethodDescriptor yX0_detail.desc).map (fun d => d.parameters.length) = some 2 := by decide +kernel
set_option maxHeartbeats 400000 in
set_option maxRecDepth 100000 in
theorem c_X7_of (K : KT) (l : Launch) (ax : Nat → Nat) (ap : Nat → Nat) (al : Nat → Nat) (ao : Nat → Nat) (ck : Int) (ba : Int) (no : Int) (fu : Int) (t : List Int) (ab : Nat → Nat) (nu : Int → Int) (wo : Int → Int) (sc : Int → Int) (me : Int → Int) (us : Int → Int) (la : Int → Int) (ct : Int) (gv : Int) (kd : Int) (sl : Int) (ak : Int → Nat → Nat) (nx : Int) (pc : Int) (Bs : Int → Bk) (by_ : Int → Int) (ve : Int → Int) (ow : Int → Int) (fi : Int → Int) (se : Int → Int) (le : Int) (oc : Int) (pl : Int) (fa : Int) (so : Int → Int) (ra : Int → Int) (lc : Int) (o : Bo) (h : List Bo) (tx : List Int) (N : Int) (x : Int) (y : Int) (hC : okC N nu wo sc me us la ct gv kd sl Bs nx pc ((pck t : Nat) : Int) ck ba no fu by_ le (o, h, t, ck, tx, ba, no, fu)) (hN : N < 512) (hx : rI x) (hy : rI y) : Mt K l yX7_of wsX7_of ({ frames := 4, cells := 0, slots := 0, locals := 86 }) [vP (ax 0), vI x, vI y] [boW ax ab ap al ao (((pck t : Nat) : Int), ck, ba, no, fu), bkW ab (nu, wo, sc, me, us, la, ct, gv, kd, sl)] 0 0 (fun v w => ∃ ba3 : Int, v = some (vI ((sp_of x y (o, h, t, ck, tx, ba, no, fu)).1)) ∧ w = [boW ax ab ap al ao (((pck t : Nat) : Int), ck, ba3, no, fu), bkW ab (nu, wo, sc, me, us, la, ct, gv, kd, sl)] ∧ (okC (N + 1) nu wo sc me us la ct gv kd sl Bs nx pc ((pck t : Nat) : Int) ck ba3 no fu by_ le (sp_of x y (o, h, t, ck, tx, ba, no, fu)).2)) := by
  refine Mt.of (own := RX7) (cc := cX7_of) (maxL := 4) (ret := (some .int)) (lv0 := [(0, vP (ax 0)), (1, vI x), (2, vI y)]) (by decide) rfl rfl (Nat.le_of_ble_eq_true rfl) rfl (fun X C hR hNm => ?_)
  have hb := hC.hb
  have hct := hb.xct
  have hgv := hb.xgv
  have hkd := hb.xkd
  have hsl := hb.xsl
  obtain ⟨ht, hlt⟩ := hC.ht
  have hNN := hC.hN
  have hhx := hC.hh.1
  have hhp := hC.hh.2.1
  have hhl := hC.hh.2.2.1
  have hck := hC.hck
  have hTx := hC.hx
  refine i_aload_n (j := 0) (q := 1) C rfl rfl dX7_of_0 rfl ?_
  refine i_get (i := 0) (j := 0) (f := 0) (q := 4) C rfl rfl rfl hi_X7_of_X7 (by decide) lk_X7_of_10 rfl dX7_of_1 rfl ?_
  refine i_iload_n (j := 1) (q := 5) C rfl rfl dX7_of_4 rfl ?_
  refine i_callV (wr := [boW ax ab ap al ao (((pck t : Nat) : Int), ck, ba, no, fu)]) (As := [vI x]) (st := []) (i := 0) (j := 0) (q := 8) C (c_X0_slotOf K l (ab) (nu) (wo) (sc) (me) (us) (la) (ct) (gv) (kd) (sl) (x) (by omega) (fun j g0 g1 => by have := hb.xnu j g0 g1; omega) (by first | assumption | omega)) gX7_of_X0_slotOf rfl hd_X0_slotOf ⟨Nat.le_of_ble_eq_true rfl, Nat.le_of_ble_eq_true rfl⟩ ⟨rfl, rfl⟩ ⟨Nat.le_of_ble_eq_true rfl, Nat.le_of_ble_eq_true rfl⟩ (permBy [1, 0] (by decide) rfl rfl) rfl rfl rfl rfl (Nat.le_of_ble_eq_true rfl) dX7_of_5 rfl (fun v w hq => ?_)
  obtain ⟨r_5, rfl, rfl, hr_5⟩ := hq
  show V X 0 0 8 [(0, vP (ax 0)), (1, vI x), (2, vI y)] [vI r_5] [bkW ab (nu, wo, sc, me, us, la, ct, gv, kd, sl), boW ax ab ap al ao (((pck t : Nat) : Int), ck, ba, no, fu)]
  refine V.perm (cs' := [boW ax ab ap al ao (((pck t : Nat) : Int), ck, ba, no, fu), bkW ab (nu, wo, sc, me, us, la, ct, gv, kd, sl)]) (permBy [1, 0] (by decide) rfl rfl) ?_
  have hf := hb.find hr_5
  refine i_istore_n (q := 9) (lv' := [(3, vI r_5), (0, vP (ax 0)), (1, vI x), (2, vI y)]) C rfl (by decide) rfl dX7_of_8 rfl ?_
  refine i_iload_n (j := 0) (q := 10) C rfl rfl dX7_of_9 rfl ?_
  refine i_iconst (q := 11) C dX7_of_10 rfl ?_
  refine i_icmp_eq (tgt := 23) (q := 14) C (by rcases hr_5 with h | h <;> omega) (by omega) dX7_of_11 (by decide) rfl (fun c_11 => ?_) (fun c_11 => ?_)
  · skip
    have hfn : fnd o x = none := by
      rcases hf with h | h
      · exact h.2
      · omega
    refine i_aload_n (j := 1) (q := 24) C rfl rfl dX7_of_23 rfl ?_
    refine i_callV (wr := [bkW ab (nu, wo, sc, me, us, la, ct, gv, kd, sl)]) (As := []) (st := []) (i := 0) (j := 0) (q := 27) C (c_X7_refuseBad K l (ab) (ax) (ap) (al) (ao) (((pck t : Nat) : Int)) (ck) (ba) (no) (fu) ) gX7_of_X7_refuseBad rfl hd_X7_refuseBad ⟨Nat.le_of_ble_eq_true rfl, Nat.le_of_ble_eq_true rfl⟩ ⟨rfl, rfl⟩ ⟨Nat.le_of_ble_eq_true rfl, Nat.le_of_ble_eq_true rfl⟩ (permBy [0, 1] (by decide) rfl rfl) rfl rfl rfl rfl (Nat.le_of_ble_eq_true rfl) dX7_of_24 rfl (fun v w hq => ?_)
    obtain ⟨rfl, rfl⟩ := hq
    show V X 0 0 27 [(3, vI r_5), (0, vP (ax 0)), (1, vI x), (2, vI y)] [vI (-2)] [boW ax ab ap al ao (((pck t : Nat) : Int), ck, ba + 1, no, fu), bkW ab (nu, wo, sc, me, us, la, ct, gv, kd, sl)]
    refine i_iret C hR dX7_of_27 ?_
    have hsp : (sp_of x y (o, h, t, ck, tx, ba, no, fu)) = (-2, (o, h, t, ck, tx, ba + 1, no, fu)) := by
      simp only [sp_of]
      rw [hfn]
      rfl
    exact ⟨ba + 1, by rw [hsp], rfl, by rw [hsp]; exact hC.bad hN⟩
  · skip
    obtain ⟨g1, g2, g3, hfs⟩ : 0 ≤ r_5 ∧ r_5 < ct ∧ nu r_5 = x ∧ fnd o x = some (atP o.1 r_5) := by
      rcases hf with h | h
      · omega
      · exact h
    refine i_iload_n (j := 3) (q := 15) C rfl rfl dX7_of_14 rfl ?_
    refine i_iconst (q := 16) C dX7_of_15 rfl ?_
    refine i_iconst (q := 17) C dX7_of_16 rfl ?_
    refine i_callS (wr := [boW ax ab ap al ao (((pck t : Nat) : Int), ck, ba, no, fu), bkW ab (nu, wo, sc, me, us, la, ct, gv, kd, sl)]) (As := [vI y, vI 0, vI 4]) (st := []) (q := 20) C (c_X7_isWithin K l (y) (0) (4) (by first | assumption | omega) (by first | assumption | omega) (by first | assumption | omega)) gX7_of_X7_isWithin rfl hd_X7_isWithin ⟨Nat.le_of_ble_eq_true rfl, Nat.le_of_ble_eq_true rfl⟩ ⟨rfl, rfl⟩ ⟨Nat.le_of_ble_eq_true rfl, Nat.le_of_ble_eq_true rfl⟩ (permBy [0, 1] (by decide) rfl rfl) rfl (Nat.le_of_ble_eq_true rfl) dX7_of_17 rfl (fun v w hq => ?_)
    obtain ⟨rfl, rfl⟩ := hq
    show V X 0 0 20 [(3, vI r_5), (0, vP (ax 0)), (1, vI x), (2, vI y)] [vI (if 0 ≤ y ∧ y ≤ 4 then 1 else 0)] [boW ax ab ap al ao (((pck t : Nat) : Int), ck, ba, no, fu), bkW ab (nu, wo, sc, me, us, la, ct, gv, kd, sl)]
    refine i_if_ne (tgt := 28) (q := 23) C (if01) dX7_of_20 (by decide) rfl (fun c_20 => ?_) (fun c_20 => ?_)
    · skip
      have h_20 := ifn0 c_20
      refine i_aload_n (j := 1) (q := 29) C rfl rfl dX7_of_28 rfl ?_
      refine i_get (i := 0) (j := 0) (f := 0) (q := 32) C rfl rfl rfl hi_X7_of_X7 (by decide) lk_X7_of_10 rfl dX7_of_29 rfl ?_
      refine i_iload_n (j := 0) (q := 33) C rfl rfl dX7_of_32 rfl ?_
      refine i_iload_n (j := 3) (q := 34) C rfl rfl dX7_of_33 rfl ?_
      refine i_callV (wr := [boW ax ab ap al ao (((pck t : Nat) : Int), ck, ba, no, fu)]) (As := [vI r_5, vI y]) (st := []) (i := 0) (j := 0) (q := 37) C (c_X0_detail K l (ab) (nu) (wo) (sc) (me) (us) (la) (ct) (gv) (kd) (sl) (24 * N) (o) (r_5) (y) (by first | assumption | omega) (by first | assumption | omega) (by first | assumption | omega)) gX7_of_X0_detail rfl hd_X0_detail ⟨Nat.le_of_ble_eq_true rfl, Nat.le_of_ble_eq_true rfl⟩ ⟨rfl, rfl⟩ ⟨Nat.le_of_ble_eq_true rfl, Nat.le_of_ble_eq_true rfl⟩ (permBy [1, 0] (by decide) rfl rfl) rfl rfl rfl rfl (Nat.le_of_ble_eq_true rfl) dX7_of_34 rfl (fun v w hq => ?_)
      obtain ⟨rfl, rfl⟩ := hq
      show V X 0 0 37 [(3, vI r_5), (0, vP (ax 0)), (1, vI x), (2, vI y)] [vI (ofP (atP o.1 r_5) y)] [bkW ab (nu, wo, sc, me, us, la, ct, gv, kd, sl), boW ax ab ap al ao (((pck t : Nat) : Int), ck, ba, no, fu)]
      refine V.perm (cs' := [boW ax ab ap al ao (((pck t : Nat) : Int), ck, ba, no, fu), bkW ab (nu, wo, sc, me, us, la, ct, gv, kd, sl)]) (permBy [1, 0] (by decide) rfl rfl) ?_
      refine i_iret C hR dX7_of_37 ?_
      have hsp : (sp_of x y (o, h, t, ck, tx, ba, no, fu)) = (ofP (atP o.1 r_5) y, (o, h, t, ck, tx, ba, no, fu)) := by
        simp only [sp_of]
        rw [hfs]
        simp only
        rw [if_pos h_20]
      exact ⟨ba, by rw [hsp], rfl, by rw [hsp]; exact hC.s hN⟩
    · skip
      have h_20 := if0 c_20
      refine i_aload_n (j := 1) (q := 24) C rfl rfl dX7_of_23 rfl ?_
      refine i_callV (wr := [bkW ab (nu, wo, sc, me, us, la, ct, gv, kd, sl)]) (As := []) (st := []) (i := 0) (j := 0) (q := 27) C (c_X7_refuseBad K l (ab) (ax) (ap) (al) (ao) (((pck t : Nat) : Int)) (ck) (ba) (no) (fu) ) gX7_of_X7_refuseBad rfl hd_X7_refuseBad ⟨Nat.le_of_ble_eq_true rfl, Nat.le_of_ble_eq_true rfl⟩ ⟨rfl, rfl⟩ ⟨Nat.le_of_ble_eq_true rfl, Nat.le_of_ble_eq_true rfl⟩ (permBy [0, 1] (by decide) rfl rfl) rfl rfl rfl rfl (Nat.le_of_ble_eq_true rfl) dX7_of_24 rfl (fun v w hq => ?_)
      obtain ⟨rfl, rfl⟩ := hq
      show V X 0 0 27 [(3, vI r_5), (0, vP (ax 0)), (1, vI x), (2, vI y)] [vI (-2)] [boW ax ab ap al ao (((pck t : Nat) : Int), ck, ba + 1, no, fu), bkW ab (nu, wo, sc, me, us, la, ct, gv, kd, sl)]
      refine i_iret C hR dX7_of_27 ?_
      have hsp : (sp_of x y (o, h, t, ck, tx, ba, no, fu)) = (-2, (o, h, t, ck, tx, ba + 1, no, fu)) := by
        simp only [sp_of]
        rw [hfs]
        simp only
        rw [if_neg h_20]
        rfl
      exact ⟨ba + 1, by rw [hsp], rfl, by rw [hsp]; exact hC.bad hN⟩

theorem lk_X7_letter_10 : Cond.fieldLink RX7 10 (TX7 0).1 (TX7 0).2.1 (TX7 0).2.2.1 ∈ wsX7_letter := List.mem_of_getElem? (i := 1) rfl
theorem hi_X7_letter_X7 : ∀ w ∈ u_ws RX7 TX7 9, w ∈ wsX7_letter := by decide +kernel
theorem lk_X7_letter_92 : Cond.fieldLink RX7 92 (TX0 1).1 (TX0 1).2.1 (TX0 1).2.2.1 ∈ wsX7_letter := List.mem_of_getElem? (i := 2) rfl
theorem hi_X7_letter_X0 : ∀ w ∈ u_ws RX0 TX0 10, w ∈ wsX7_letter := by decide +kernel
set_option maxHeartbeats 400000 in
set_option maxRecDepth 100000 in
theorem c_X7_letter (K : KT) (l : Launch) (ax : Nat → Nat) (ap : Nat → Nat) (al : Nat → Nat) (ao : Nat → Nat) (ck : Int) (ba : Int) (no : Int) (fu : Int) (t : List Int) (ab : Nat → Nat) (nu : Int → Int) (wo : Int → Int) (sc : Int → Int) (me : Int → Int) (us : Int → Int) (la : Int → Int) (ct : Int) (gv : Int) (kd : Int) (sl : Int) (ak : Int → Nat → Nat) (nx : Int) (pc : Int) (Bs : Int → Bk) (by_ : Int → Int) (ve : Int → Int) (ow : Int → Int) (fi : Int → Int) (se : Int → Int) (le : Int) (oc : Int) (pl : Int) (fa : Int) (so : Int → Int) (ra : Int → Int) (lc : Int) (o : Bo) (h : List Bo) (tx : List Int) (N : Int) (x : Int) (y : Int) (hC : okC N nu wo sc me us la ct gv kd sl Bs nx pc ((pck t : Nat) : Int) ck ba no fu by_ le (o, h, t, ck, tx, ba, no, fu)) (hN : N < 512) (hx : rI x) (hy : rI y) : Mt K l yX7_letter wsX7_letter ({ frames := 3, cells := 0, slots := 0, locals := 64 }) [vP (ax 0), vI x, vI y] [boW ax ab ap al ao (((pck t : Nat) : Int), ck, ba, no, fu), bkW ab (nu, wo, sc, me, us, la, ct, gv, kd, sl)] 0 0 (fun v w => ∃ ba3 : Int, v = some (vI ((sp_letter x y (o, h, t, ck, tx, ba, no, fu)).1)) ∧ w = [boW ax ab ap al ao (((pck t : Nat) : Int), ck, ba3, no, fu), bkW ab (nu, wo, sc, me, us, la, ct, gv, kd, sl)] ∧ (okC (N + 1) nu wo sc me us la ct gv kd sl Bs nx pc ((pck t : Nat) : Int) ck ba3 no fu by_ le (sp_letter x y (o, h, t, ck, tx, ba, no, fu)).2)) := by
  refine Mt.of (own := RX7) (cc := cX7_letter) (maxL := 4) (ret := (some .int)) (lv0 := [(0, vP (ax 0)), (1, vI x), (2, vI y)]) (by decide) rfl rfl (Nat.le_of_ble_eq_true rfl) rfl (fun X C hR hNm => ?_)
  have hb := hC.hb
  have hct := hb.xct
  have hgv := hb.xgv
  have hkd := hb.xkd
  have hsl := hb.xsl
  obtain ⟨ht, hlt⟩ := hC.ht
  have hNN := hC.hN
  have hhx := hC.hh.1
  have hhp := hC.hh.2.1
  have hhl := hC.hh.2.2.1
  have hck := hC.hck
  have hTx := hC.hx
  refine i_aload_n (j := 0) (q := 1) C rfl rfl dX7_letter_0 rfl ?_
  refine i_get (i := 0) (j := 0) (f := 0) (q := 4) C rfl rfl rfl hi_X7_letter_X7 (by decide) lk_X7_letter_10 rfl dX7_letter_1 rfl ?_
  refine i_iload_n (j := 1) (q := 5) C rfl rfl dX7_letter_4 rfl ?_
  refine i_callV (wr := [boW ax ab ap al ao (((pck t : Nat) : Int), ck, ba, no, fu)]) (As := [vI x]) (st := []) (i := 0) (j := 0) (q := 8) C (c_X0_slotOf K l (ab) (nu) (wo) (sc) (me) (us) (la) (ct) (gv) (kd) (sl) (x) (by omega) (fun j g0 g1 => by have := hb.xnu j g0 g1; omega) (by first | assumption | omega)) gX7_letter_X0_slotOf rfl hd_X0_slotOf ⟨Nat.le_of_ble_eq_true rfl, Nat.le_of_ble_eq_true rfl⟩ ⟨rfl, rfl⟩ ⟨Nat.le_of_ble_eq_true rfl, Nat.le_of_ble_eq_true rfl⟩ (permBy [1, 0] (by decide) rfl rfl) rfl rfl rfl rfl (Nat.le_of_ble_eq_true rfl) dX7_letter_5 rfl (fun v w hq => ?_)
  obtain ⟨r_5, rfl, rfl, hr_5⟩ := hq
  show V X 0 0 8 [(0, vP (ax 0)), (1, vI x), (2, vI y)] [vI r_5] [bkW ab (nu, wo, sc, me, us, la, ct, gv, kd, sl), boW ax ab ap al ao (((pck t : Nat) : Int), ck, ba, no, fu)]
  refine V.perm (cs' := [boW ax ab ap al ao (((pck t : Nat) : Int), ck, ba, no, fu), bkW ab (nu, wo, sc, me, us, la, ct, gv, kd, sl)]) (permBy [1, 0] (by decide) rfl rfl) ?_
  have hf := hb.find hr_5
  refine i_istore_n (q := 9) (lv' := [(3, vI r_5), (0, vP (ax 0)), (1, vI x), (2, vI y)]) C rfl (by decide) rfl dX7_letter_8 rfl ?_
  refine i_iload_n (j := 0) (q := 10) C rfl rfl dX7_letter_9 rfl ?_
  refine i_iconst (q := 11) C dX7_letter_10 rfl ?_
  refine i_icmp_eq (tgt := 18) (q := 14) C (by rcases hr_5 with h | h <;> omega) (by omega) dX7_letter_11 (by decide) rfl (fun c_11 => ?_) (fun c_11 => ?_)
  · skip
    have hfn : fnd o x = none := by
      rcases hf with h | h
      · exact h.2
      · omega
    refine i_aload_n (j := 1) (q := 19) C rfl rfl dX7_letter_18 rfl ?_
    refine i_callV (wr := [bkW ab (nu, wo, sc, me, us, la, ct, gv, kd, sl)]) (As := []) (st := []) (i := 0) (j := 0) (q := 22) C (c_X7_refuseBad K l (ab) (ax) (ap) (al) (ao) (((pck t : Nat) : Int)) (ck) (ba) (no) (fu) ) gX7_letter_X7_refuseBad rfl hd_X7_refuseBad ⟨Nat.le_of_ble_eq_true rfl, Nat.le_of_ble_eq_true rfl⟩ ⟨rfl, rfl⟩ ⟨Nat.le_of_ble_eq_true rfl, Nat.le_of_ble_eq_true rfl⟩ (permBy [0, 1] (by decide) rfl rfl) rfl rfl rfl rfl (Nat.le_of_ble_eq_true rfl) dX7_letter_19 rfl (fun v w hq => ?_)
    obtain ⟨rfl, rfl⟩ := hq
    show V X 0 0 22 [(3, vI r_5), (0, vP (ax 0)), (1, vI x), (2, vI y)] [vI (-2)] [boW ax ab ap al ao (((pck t : Nat) : Int), ck, ba + 1, no, fu), bkW ab (nu, wo, sc, me, us, la, ct, gv, kd, sl)]
    refine i_iret C hR dX7_letter_22 ?_
    have hsp : (sp_letter x y (o, h, t, ck, tx, ba, no, fu)) = (-2, (o, h, t, ck, tx, ba + 1, no, fu)) := by
      simp only [sp_letter]
      rw [hfn]
      rfl
    exact ⟨ba + 1, by rw [hsp], rfl, by rw [hsp]; exact hC.bad hN⟩
  · skip
    obtain ⟨g1, g2, g3, hfs⟩ : 0 ≤ r_5 ∧ r_5 < ct ∧ nu r_5 = x ∧ fnd o x = some (atP o.1 r_5) := by
      rcases hf with h | h
      · omega
      · exact h
    refine i_iload_n (j := 3) (q := 15) C rfl rfl dX7_letter_14 rfl ?_
    refine i_if_ge (tgt := 23) (q := 18) C (by omega) dX7_letter_15 (by decide) rfl (fun c_15 => ?_) (fun c_15 => ?_)
    · skip
      refine i_iload_n (j := 3) (q := 24) C rfl rfl dX7_letter_23 rfl ?_
      refine i_aload_n (j := 1) (q := 25) C rfl rfl dX7_letter_24 rfl ?_
      refine i_get (i := 0) (j := 0) (f := 0) (q := 28) C rfl rfl rfl hi_X7_letter_X7 (by decide) lk_X7_letter_10 rfl dX7_letter_25 rfl ?_
      refine i_get (i := 1) (j := 0) (f := 1) (q := 31) C rfl rfl rfl hi_X7_letter_X0 (by decide) lk_X7_letter_92 rfl dX7_letter_28 rfl ?_
      refine i_iload_n (j := 0) (q := 32) C rfl rfl dX7_letter_31 rfl ?_
      refine i_lald (i := 1) (j := 2) (q := 33) C rfl rfl (by omega) dX7_letter_32 rfl ?_
      refine V.topJ (b := ((pck ((atP o.1 r_5).2.1) : Nat) : Int)) ((hb.xwo r_5 (by omega) (by omega)).1) ?_
      refine i_callS (wr := [boW ax ab ap al ao (((pck t : Nat) : Int), ck, ba, no, fu), bkW ab (nu, wo, sc, me, us, la, ct, gv, kd, sl)]) (As := [vJ (((pck ((atP o.1 r_5).2.1) : Nat) : Int))]) (st := [vI y]) (q := 36) C (c_X6_lengthOf K l ((atP o.1 r_5).2.1) ((hb.xwo r_5 (by omega) (by omega)).2.1) (by have := hb.xwo r_5 (by omega) (by omega); omega)) gX7_letter_X6_lengthOf rfl hd_X6_lengthOf ⟨Nat.le_of_ble_eq_true rfl, Nat.le_of_ble_eq_true rfl⟩ ⟨rfl, rfl⟩ ⟨Nat.le_of_ble_eq_true rfl, Nat.le_of_ble_eq_true rfl⟩ (permBy [0, 1] (by decide) rfl rfl) rfl (Nat.le_of_ble_eq_true rfl) dX7_letter_33 rfl (fun v w hq => ?_)
      obtain ⟨rfl, rfl⟩ := hq
      show V X 0 0 36 [(3, vI r_5), (0, vP (ax 0)), (1, vI x), (2, vI y)] [vI (((((atP o.1 r_5).2.1).length : Nat) : Int)), vI y] [boW ax ab ap al ao (((pck t : Nat) : Int), ck, ba, no, fu), bkW ab (nu, wo, sc, me, us, la, ct, gv, kd, sl)]
      refine i_icmp_lt (tgt := 41) (q := 39) C (by omega) (by have := hb.xwo r_5 g1 g2; omega) dX7_letter_36 (by decide) rfl (fun c_36 => ?_) (fun c_36 => ?_)
      · skip
        refine i_aload_n (j := 1) (q := 42) C rfl rfl dX7_letter_41 rfl ?_
        refine i_get (i := 0) (j := 0) (f := 0) (q := 45) C rfl rfl rfl hi_X7_letter_X7 (by decide) lk_X7_letter_10 rfl dX7_letter_42 rfl ?_
        refine i_get (i := 1) (j := 0) (f := 1) (q := 48) C rfl rfl rfl hi_X7_letter_X0 (by decide) lk_X7_letter_92 rfl dX7_letter_45 rfl ?_
        refine i_iload_n (j := 0) (q := 49) C rfl rfl dX7_letter_48 rfl ?_
        refine i_lald (i := 1) (j := 2) (q := 50) C rfl rfl (by omega) dX7_letter_49 rfl ?_
        refine V.topJ (b := ((pck ((atP o.1 r_5).2.1) : Nat) : Int)) ((hb.xwo r_5 (by omega) (by omega)).1) ?_
        refine i_iload_n (j := 3) (q := 51) C rfl rfl dX7_letter_50 rfl ?_
        refine i_callS (wr := [boW ax ab ap al ao (((pck t : Nat) : Int), ck, ba, no, fu), bkW ab (nu, wo, sc, me, us, la, ct, gv, kd, sl)]) (As := [vJ (((pck ((atP o.1 r_5).2.1) : Nat) : Int)), vI y]) (st := []) (q := 54) C (c_X6_letterAt K l ((atP o.1 r_5).2.1) (y) ((hb.xwo r_5 (by omega) (by omega)).2.1) (by have := hb.xwo r_5 (by omega) (by omega); omega) (by have := hb.xwo r_5 g1 g2; omega)) gX7_letter_X6_letterAt rfl hd_X6_letterAt ⟨Nat.le_of_ble_eq_true rfl, Nat.le_of_ble_eq_true rfl⟩ ⟨rfl, rfl⟩ ⟨Nat.le_of_ble_eq_true rfl, Nat.le_of_ble_eq_true rfl⟩ (permBy [0, 1] (by decide) rfl rfl) rfl (Nat.le_of_ble_eq_true rfl) dX7_letter_51 rfl (fun v w hq => ?_)
        obtain ⟨rfl, rfl⟩ := hq
        show V X 0 0 54 [(3, vI r_5), (0, vP (ax 0)), (1, vI x), (2, vI y)] [vI (((atP o.1 r_5).2.1).getD y.toNat (-1))] [boW ax ab ap al ao (((pck t : Nat) : Int), ck, ba, no, fu), bkW ab (nu, wo, sc, me, us, la, ct, gv, kd, sl)]
        refine i_iret C hR dX7_letter_54 ?_
        have hsp : (sp_letter x y (o, h, t, ck, tx, ba, no, fu)) = ((atP o.1 r_5).2.1.getD y.toNat (-1), (o, h, t, ck, tx, ba, no, fu)) := by
          simp only [sp_letter]
          rw [hfs]
          simp only
          rw [if_neg (by omega)]
        exact ⟨ba, by rw [hsp], rfl, by rw [hsp]; exact hC.s hN⟩
      · skip
        refine i_iconst (q := 40) C dX7_letter_39 rfl ?_
        refine i_iret C hR dX7_letter_40 ?_
        have hsp : (sp_letter x y (o, h, t, ck, tx, ba, no, fu)) = (-1, (o, h, t, ck, tx, ba, no, fu)) := by
          simp only [sp_letter]
          rw [hfs]
          simp only
          rw [if_neg (by omega), List.getD_eq_getElem?_getD, List.getElem?_eq_none (by omega)]
          rfl
        exact ⟨ba, by rw [hsp], rfl, by rw [hsp]; exact hC.s hN⟩
    · skip
      refine i_aload_n (j := 1) (q := 19) C rfl rfl dX7_letter_18 rfl ?_
      refine i_callV (wr := [bkW ab (nu, wo, sc, me, us, la, ct, gv, kd, sl)]) (As := []) (st := []) (i := 0) (j := 0) (q := 22) C (c_X7_refuseBad K l (ab) (ax) (ap) (al) (ao) (((pck t : Nat) : Int)) (ck) (ba) (no) (fu) ) gX7_letter_X7_refuseBad rfl hd_X7_refuseBad ⟨Nat.le_of_ble_eq_true rfl, Nat.le_of_ble_eq_true rfl⟩ ⟨rfl, rfl⟩ ⟨Nat.le_of_ble_eq_true rfl, Nat.le_of_ble_eq_true rfl⟩ (permBy [0, 1] (by decide) rfl rfl) rfl rfl rfl rfl (Nat.le_of_ble_eq_true rfl) dX7_letter_19 rfl (fun v w hq => ?_)
      obtain ⟨rfl, rfl⟩ := hq
      show V X 0 0 22 [(3, vI r_5), (0, vP (ax 0)), (1, vI x), (2, vI y)] [vI (-2)] [boW ax ab ap al ao (((pck t : Nat) : Int), ck, ba + 1, no, fu), bkW ab (nu, wo, sc, me, us, la, ct, gv, kd, sl)]
      refine i_iret C hR dX7_letter_22 ?_
      have hsp : (sp_letter x y (o, h, t, ck, tx, ba, no, fu)) = (-2, (o, h, t, ck, tx, ba + 1, no, fu)) := by
        simp only [sp_letter]
        rw [hfs]
        simp only
        rw [if_pos (by omega)]
        rfl
      exact ⟨ba + 1, by rw [hsp], rfl, by rw [hsp]; exact hC.bad hN⟩

theorem lk_X7_use_10 : Cond.fieldLink RX7 10 (TX7 0).1 (TX7 0).2.1 (TX7 0).2.2.1 ∈ wsX7_use := List.mem_of_getElem? (i := 1) rfl
theorem hi_X7_use_X7 : ∀ w ∈ u_ws RX7 TX7 9, w ∈ wsX7_use := by decide +kernel
theorem lk_X7_use_19 : Cond.fieldLink RX7 19 (TX7 1).1 (TX7 1).2.1 (TX7 1).2.2.1 ∈ wsX7_use := List.mem_of_getElem? (i := 2) rfl
theorem hd_X7_choose : yX7_choose.cls = RX7 ∧ yX7_choose.cls ≠ "java/lang/invoke/MethodHandle" ∧ yX7_choose.cls ≠ "java/lang/invoke/VarHandle" ∧ (parseMethodDescriptor yX7_choose.desc).map (fun d => d.parameters.length) = some 1 := by decide +kernel
set_option maxHeartbeats 400000 in
set_option maxRecDepth 100000 in
theorem c_X7_use (K : KT) (l : Launch) (ax : Nat → Nat) (ap : Nat → Nat) (al : Nat → Nat) (ao : Nat → Nat) (ck : Int) (ba : Int) (no : Int) (fu : Int) (t : List Int) (ab : Nat → Nat) (nu : Int → Int) (wo : Int → Int) (sc : Int → Int) (me : Int → Int) (us : Int → Int) (la : Int → Int) (ct : Int) (gv : Int) (kd : Int) (sl : Int) (ak : Int → Nat → Nat) (nx : Int) (pc : Int) (Bs : Int → Bk) (by_ : Int → Int) (ve : Int → Int) (ow : Int → Int) (fi : Int → Int) (se : Int → Int) (le : Int) (oc : Int) (pl : Int) (fa : Int) (so : Int → Int) (ra : Int → Int) (lc : Int) (o : Bo) (h : List Bo) (tx : List Int) (N : Int) (x : Int) (hC : okC N nu wo sc me us la ct gv kd sl Bs nx pc ((pck t : Nat) : Int) ck ba no fu by_ le (o, h, t, ck, tx, ba, no, fu)) (hN : N < 512) (hx : rI x) : Mt K l yX7_use wsX7_use ({ frames := 4, cells := 0, slots := 0, locals := 87 }) [vP (ax 0), vI x] [boW ax ab ap al ao (((pck t : Nat) : Int), ck, ba, no, fu), bkW ab (nu, wo, sc, me, us, la, ct, gv, kd, sl), paW ap ak (nx, pc), kbW ak Bs] 0 0 (fun v w => ∃ ba3 : Int, ∃ nx3 : Int, ∃ pc3 : Int, ∃ Bs3 : Int → Bk, ∃ ck3 : Int, ∃ sc3 : Int → Int, ∃ us3 : Int → Int, ∃ la3 : Int → Int, v = some (vI ((sp_use x (o, h, t, ck, tx, ba, no, fu)).1)) ∧ w = [boW ax ab ap al ao (((pck t : Nat) : Int), ck3, ba3, no, fu), bkW ab (nu, wo, sc3, me, us3, la3, ct, gv, kd, sl), paW ap ak (nx3, pc3), kbW ak Bs3] ∧ (okC (N + 1) nu wo sc3 me us3 la3 ct gv kd sl Bs3 nx3 pc3 ((pck t : Nat) : Int) ck3 ba3 no fu by_ le (sp_use x (o, h, t, ck, tx, ba, no, fu)).2)) := by
  refine Mt.of (own := RX7) (cc := cX7_use) (maxL := 3) (ret := (some .int)) (lv0 := [(0, vP (ax 0)), (1, vI x)]) (by decide) rfl rfl (Nat.le_of_ble_eq_true rfl) rfl (fun X C hR hNm => ?_)
  have hb := hC.hb
  have hct := hb.xct
  have hgv := hb.xgv
  have hkd := hb.xkd
  have hsl := hb.xsl
  obtain ⟨ht, hlt⟩ := hC.ht
  have hNN := hC.hN
  have hhx := hC.hh.1
  have hhp := hC.hh.2.1
  have hhl := hC.hh.2.2.1
  have hck := hC.hck
  have hTx := hC.hx
  refine i_aload_n (j := 0) (q := 1) C rfl rfl dX7_use_0 rfl ?_
  refine i_get (i := 0) (j := 0) (f := 0) (q := 4) C rfl rfl rfl hi_X7_use_X7 (by decide) lk_X7_use_10 rfl dX7_use_1 rfl ?_
  refine i_iload_n (j := 1) (q := 5) C rfl rfl dX7_use_4 rfl ?_
  refine i_callV (wr := [boW ax ab ap al ao (((pck t : Nat) : Int), ck, ba, no, fu), paW ap ak (nx, pc), kbW ak Bs]) (As := [vI x]) (st := []) (i := 0) (j := 0) (q := 8) C (c_X0_slotOf K l (ab) (nu) (wo) (sc) (me) (us) (la) (ct) (gv) (kd) (sl) (x) (by omega) (fun j g0 g1 => by have := hb.xnu j g0 g1; omega) (by first | assumption | omega)) gX7_use_X0_slotOf rfl hd_X0_slotOf ⟨Nat.le_of_ble_eq_true rfl, Nat.le_of_ble_eq_true rfl⟩ ⟨rfl, rfl⟩ ⟨Nat.le_of_ble_eq_true rfl, Nat.le_of_ble_eq_true rfl⟩ (permBy [1, 0, 2, 3] (by decide) rfl rfl) rfl rfl rfl rfl (Nat.le_of_ble_eq_true rfl) dX7_use_5 rfl (fun v w hq => ?_)
  obtain ⟨r_5, rfl, rfl, hr_5⟩ := hq
  show V X 0 0 8 [(0, vP (ax 0)), (1, vI x)] [vI r_5] [bkW ab (nu, wo, sc, me, us, la, ct, gv, kd, sl), boW ax ab ap al ao (((pck t : Nat) : Int), ck, ba, no, fu), paW ap ak (nx, pc), kbW ak Bs]
  refine V.perm (cs' := [boW ax ab ap al ao (((pck t : Nat) : Int), ck, ba, no, fu), bkW ab (nu, wo, sc, me, us, la, ct, gv, kd, sl), paW ap ak (nx, pc), kbW ak Bs]) (permBy [1, 0, 2, 3] (by decide) rfl rfl) ?_
  have hf := hb.find hr_5
  refine i_istore_n (q := 9) (lv' := [(2, vI r_5), (0, vP (ax 0)), (1, vI x)]) C rfl (by decide) rfl dX7_use_8 rfl ?_
  refine i_iload_n (j := 0) (q := 10) C rfl rfl dX7_use_9 rfl ?_
  refine i_iconst (q := 11) C dX7_use_10 rfl ?_
  refine i_icmp_ne (tgt := 19) (q := 14) C (by rcases hr_5 with h | h <;> omega) (by omega) dX7_use_11 (by decide) rfl (fun c_11 => ?_) (fun c_11 => ?_)
  · skip
    obtain ⟨g1, g2, g3, hfs⟩ : 0 ≤ r_5 ∧ r_5 < ct ∧ nu r_5 = x ∧ fnd o x = some (atP o.1 r_5) := by
      rcases hf with h | h
      · omega
      · exact h
    refine i_aload_n (j := 1) (q := 20) C rfl rfl dX7_use_19 rfl ?_
    refine i_get (i := 0) (j := 0) (f := 1) (q := 23) C rfl rfl rfl hi_X7_use_X7 (by decide) lk_X7_use_19 rfl dX7_use_20 rfl ?_
    refine i_aload_n (j := 1) (q := 24) C rfl rfl dX7_use_23 rfl ?_
    refine i_get (i := 0) (j := 0) (f := 0) (q := 27) C rfl rfl rfl hi_X7_use_X7 (by decide) lk_X7_use_10 rfl dX7_use_24 rfl ?_
    refine i_callV (wr := [boW ax ab ap al ao (((pck t : Nat) : Int), ck, ba, no, fu)]) (As := [vP (ab 0)]) (st := []) (i := 0) (j := 0) (q := 30) C (c_X4_remember K l (ap) (ak) (nx) (pc) (Bs) (ab) (nu) (wo) (sc) (me) (us) (la) (ct) (gv) (kd) (sl) (by omega) (by omega) (by omega)) gX7_use_X4_remember rfl hd_X4_remember ⟨Nat.le_of_ble_eq_true rfl, Nat.le_of_ble_eq_true rfl⟩ ⟨rfl, rfl⟩ ⟨Nat.le_of_ble_eq_true rfl, Nat.le_of_ble_eq_true rfl⟩ (permBy [2, 1, 3, 0] (by decide) rfl rfl) rfl rfl rfl rfl (Nat.le_of_ble_eq_true rfl) dX7_use_27 rfl (fun v w hq => ?_)
    obtain ⟨nu3_27, wo3_27, sc3_27, me3_27, us3_27, la3_27, rfl, rfl, hc_27⟩ := hq
    show V X 0 0 30 [(2, vI r_5), (0, vP (ax 0)), (1, vI x)] [] [paW ap ak (if nx + 1 < 12 then nx + 1 else 0, min (pc + 1) 12), bkW ab (nu, wo, sc, me, us, la, ct, gv, kd, sl), kbW ak (up Bs nx (nu3_27, wo3_27, sc3_27, me3_27, us3_27, la3_27, ct, gv, kd, sl)), boW ax ab ap al ao (((pck t : Nat) : Int), ck, ba, no, fu)]
    refine V.perm (cs' := [boW ax ab ap al ao (((pck t : Nat) : Int), ck, ba, no, fu), bkW ab (nu, wo, sc, me, us, la, ct, gv, kd, sl), paW ap ak (if nx + 1 < 12 then nx + 1 else 0, min (pc + 1) 12), kbW ak (up Bs nx (nu3_27, wo3_27, sc3_27, me3_27, us3_27, la3_27, ct, gv, kd, sl))]) (permBy [3, 1, 0, 2] (by decide) rfl rfl) ?_
    refine i_aload_n (j := 1) (q := 31) C rfl rfl dX7_use_30 rfl ?_
    refine i_iload_n (j := 0) (q := 32) C rfl rfl dX7_use_31 rfl ?_
    refine i_callV (wr := [paW ap ak (if nx + 1 < 12 then nx + 1 else 0, min (pc + 1) 12), kbW ak (up Bs nx (nu3_27, wo3_27, sc3_27, me3_27, us3_27, la3_27, ct, gv, kd, sl))]) (As := [vI r_5]) (st := []) (i := 0) (j := 0) (q := 35) C (c_X7_choose K l (ax) (ap) (al) (ao) (ck) (ba) (no) (fu) (t) (ab) (nu) (wo) (sc) (me) (us) (la) (ct) (gv) (kd) (sl) (24 * N) (o) (r_5) (by first | assumption | omega) (by first | assumption | omega) (by first | assumption | omega)) gX7_use_X7_choose rfl hd_X7_choose ⟨Nat.le_of_ble_eq_true rfl, Nat.le_of_ble_eq_true rfl⟩ ⟨rfl, rfl⟩ ⟨Nat.le_of_ble_eq_true rfl, Nat.le_of_ble_eq_true rfl⟩ (permBy [0, 1, 2, 3] (by decide) rfl rfl) rfl rfl rfl rfl (Nat.le_of_ble_eq_true rfl) dX7_use_32 rfl (fun v w hq => ?_)
    obtain ⟨rfl, rfl⟩ := hq
    show V X 0 0 35 [(2, vI r_5), (0, vP (ax 0)), (1, vI x)] [vI (nsc kd (sc r_5) (us r_5) (la r_5) (tick ck))] [boW ax ab ap al ao (((pck t : Nat) : Int), tick ck, ba, no, fu), bkW ab (nu, wo, up sc r_5 (nsc kd (sc r_5) (us r_5) (la r_5) (tick ck)), me, up us r_5 (us r_5 + 1), up la r_5 (tick ck), ct, gv, kd, sl), paW ap ak (if nx + 1 < 12 then nx + 1 else 0, min (pc + 1) 12), kbW ak (up Bs nx (nu3_27, wo3_27, sc3_27, me3_27, us3_27, la3_27, ct, gv, kd, sl))]
    refine i_iret C hR dX7_use_35 ?_
    have hsc := hb.xsc r_5 g1 g2
    have hus := hb.xus r_5 g1 g2
    have hla := hb.xla r_5 g1 g2
    have hnn := nsc_in kd (sc r_5) (us r_5) (la r_5) (tick ck) hsc.1
    have htk : 0 ≤ tick ck ∧ tick ck ≤ 9999 := by unfold tick; omega
    have x_use : rpB (24 * (N + 1)) nu wo (up sc r_5 (nsc kd (sc r_5) (us r_5) (la r_5) (tick ck))) me (up us r_5 (us r_5 + 1)) (up la r_5 (tick ck)) ct gv kd sl (useB o x (tick ck)) := by
      rw [← g3]
      exact hb.set ⟨g1, g2⟩ (by omega) (by omega) hnn (by omega) (by omega) ⟨up_s _ _ _, up_s _ _ _, up_s _ _ _⟩ (fun j hj => ⟨up_n _ _ hj, up_n _ _ hj, up_n _ _ hj⟩) _ (by rw [hsc.2, hus.2, hla.2, hkd.2])
    have hsp : (sp_use x (o, h, t, ck, tx, ba, no, fu)) = (nsc kd (sc r_5) (us r_5) (la r_5) (tick ck), (useB o x (tick ck), noteH h o, t, tick ck, tx, ba, no, fu)) := by
      simp only [sp_use]
      rw [hfs]
      simp only
      rw [hsc.2, hus.2, hla.2, hkd.2]
    exact ⟨ba, if nx + 1 < 12 then nx + 1 else 0, min (pc + 1) 12, up Bs nx (nu3_27, wo3_27, sc3_27, me3_27, us3_27, la3_27, ct, gv, kd, sl), tick ck, up sc r_5 (nsc kd (sc r_5) (us r_5) (la r_5) (tick ck)), up us r_5 (us r_5 + 1), up la r_5 (tick ck), by rw [hsp], rfl, by rw [hsp]; exact hC.upd hN (x_use) ((hC.hhG hN).note (B := (nu3_27, wo3_27, sc3_27, me3_27, us3_27, la3_27, ct, gv, kd, sl)) ((hC.hbG hN).ext hc_27)) ⟨ht, hlt⟩ (by unfold tick; omega) hC.hx⟩
  · skip
    have hfn : fnd o x = none := by
      rcases hf with h | h
      · exact h.2
      · omega
    refine i_aload_n (j := 1) (q := 15) C rfl rfl dX7_use_14 rfl ?_
    refine i_callV (wr := [bkW ab (nu, wo, sc, me, us, la, ct, gv, kd, sl), paW ap ak (nx, pc), kbW ak Bs]) (As := []) (st := []) (i := 0) (j := 0) (q := 18) C (c_X7_refuseBad K l (ab) (ax) (ap) (al) (ao) (((pck t : Nat) : Int)) (ck) (ba) (no) (fu) ) gX7_use_X7_refuseBad rfl hd_X7_refuseBad ⟨Nat.le_of_ble_eq_true rfl, Nat.le_of_ble_eq_true rfl⟩ ⟨rfl, rfl⟩ ⟨Nat.le_of_ble_eq_true rfl, Nat.le_of_ble_eq_true rfl⟩ (permBy [0, 1, 2, 3] (by decide) rfl rfl) rfl rfl rfl rfl (Nat.le_of_ble_eq_true rfl) dX7_use_15 rfl (fun v w hq => ?_)
    obtain ⟨rfl, rfl⟩ := hq
    show V X 0 0 18 [(2, vI r_5), (0, vP (ax 0)), (1, vI x)] [vI (-2)] [boW ax ab ap al ao (((pck t : Nat) : Int), ck, ba + 1, no, fu), bkW ab (nu, wo, sc, me, us, la, ct, gv, kd, sl), paW ap ak (nx, pc), kbW ak Bs]
    refine i_iret C hR dX7_use_18 ?_
    have hsp : (sp_use x (o, h, t, ck, tx, ba, no, fu)) = (-2, (o, h, t, ck, tx, ba + 1, no, fu)) := by
      simp only [sp_use]
      rw [hfn]
      rfl
    exact ⟨ba + 1, nx, pc, Bs, ck, sc, us, la, by rw [hsp], rfl, by rw [hsp]; exact hC.bad hN⟩

theorem lk_X7_score_10 : Cond.fieldLink RX7 10 (TX7 0).1 (TX7 0).2.1 (TX7 0).2.2.1 ∈ wsX7_score := List.mem_of_getElem? (i := 1) rfl
theorem hi_X7_score_X7 : ∀ w ∈ u_ws RX7 TX7 9, w ∈ wsX7_score := by decide +kernel
theorem lk_X7_score_19 : Cond.fieldLink RX7 19 (TX7 1).1 (TX7 1).2.1 (TX7 1).2.2.1 ∈ wsX7_score := List.mem_of_getElem? (i := 2) rfl
theorem lk_X7_score_122 : Cond.fieldLink RX7 122 (TX0 2).1 (TX0 2).2.1 (TX0 2).2.2.1 ∈ wsX7_score := List.mem_of_getElem? (i := 3) rfl
theorem hi_X7_score_X0 : ∀ w ∈ u_ws RX0 TX0 10, w ∈ wsX7_score := by decide +kernel
set_option maxHeartbeats 400000 in
set_option maxRecDepth 100000 in
theorem c_X7_score (K : KT) (l : Launch) (ax : Nat → Nat) (ap : Nat → Nat) (al : Nat → Nat) (ao : Nat → Nat) (ck : Int) (ba : Int) (no : Int) (fu : Int) (t : List Int) (ab : Nat → Nat) (nu : Int → Int) (wo : Int → Int) (sc : Int → Int) (me : Int → Int) (us : Int → Int) (la : Int → Int) (ct : Int) (gv : Int) (kd : Int) (sl : Int) (ak : Int → Nat → Nat) (nx : Int) (pc : Int) (Bs : Int → Bk) (by_ : Int → Int) (ve : Int → Int) (ow : Int → Int) (fi : Int → Int) (se : Int → Int) (le : Int) (oc : Int) (pl : Int) (fa : Int) (so : Int → Int) (ra : Int → Int) (lc : Int) (o : Bo) (h : List Bo) (tx : List Int) (N : Int) (x : Int) (y : Int) (hC : okC N nu wo sc me us la ct gv kd sl Bs nx pc ((pck t : Nat) : Int) ck ba no fu by_ le (o, h, t, ck, tx, ba, no, fu)) (hN : N < 512) (hx : rI x) (hy : rI y) : Mt K l yX7_score wsX7_score ({ frames := 3, cells := 0, slots := 0, locals := 67 }) [vP (ax 0), vI x, vI y] [boW ax ab ap al ao (((pck t : Nat) : Int), ck, ba, no, fu), bkW ab (nu, wo, sc, me, us, la, ct, gv, kd, sl), paW ap ak (nx, pc), kbW ak Bs] 0 0 (fun v w => ∃ ba3 : Int, ∃ nx3 : Int, ∃ pc3 : Int, ∃ Bs3 : Int → Bk, ∃ sc3 : Int → Int, v = some (vI ((sp_score x y (o, h, t, ck, tx, ba, no, fu)).1)) ∧ w = [boW ax ab ap al ao (((pck t : Nat) : Int), ck, ba3, no, fu), bkW ab (nu, wo, sc3, me, us, la, ct, gv, kd, sl), paW ap ak (nx3, pc3), kbW ak Bs3] ∧ (okC (N + 1) nu wo sc3 me us la ct gv kd sl Bs3 nx3 pc3 ((pck t : Nat) : Int) ck ba3 no fu by_ le (sp_score x y (o, h, t, ck, tx, ba, no, fu)).2)) := by
  refine Mt.of (own := RX7) (cc := cX7_score) (maxL := 5) (ret := (some .int)) (lv0 := [(0, vP (ax 0)), (1, vI x), (2, vI y)]) (by decide) rfl rfl (Nat.le_of_ble_eq_true rfl) rfl (fun X C hR hNm => ?_)
  have hb := hC.hb
  have hct := hb.xct
  have hgv := hb.xgv
  have hkd := hb.xkd
  have hsl := hb.xsl
  obtain ⟨ht, hlt⟩ := hC.ht
  have hNN := hC.hN
  have hhx := hC.hh.1
  have hhp := hC.hh.2.1
  have hhl := hC.hh.2.2.1
  have hck := hC.hck
  have hTx := hC.hx
  refine i_aload_n (j := 0) (q := 1) C rfl rfl dX7_score_0 rfl ?_
  refine i_get (i := 0) (j := 0) (f := 0) (q := 4) C rfl rfl rfl hi_X7_score_X7 (by decide) lk_X7_score_10 rfl dX7_score_1 rfl ?_
  refine i_iload_n (j := 1) (q := 5) C rfl rfl dX7_score_4 rfl ?_
  refine i_callV (wr := [boW ax ab ap al ao (((pck t : Nat) : Int), ck, ba, no, fu), paW ap ak (nx, pc), kbW ak Bs]) (As := [vI x]) (st := []) (i := 0) (j := 0) (q := 8) C (c_X0_slotOf K l (ab) (nu) (wo) (sc) (me) (us) (la) (ct) (gv) (kd) (sl) (x) (by omega) (fun j g0 g1 => by have := hb.xnu j g0 g1; omega) (by first | assumption | omega)) gX7_score_X0_slotOf rfl hd_X0_slotOf ⟨Nat.le_of_ble_eq_true rfl, Nat.le_of_ble_eq_true rfl⟩ ⟨rfl, rfl⟩ ⟨Nat.le_of_ble_eq_true rfl, Nat.le_of_ble_eq_true rfl⟩ (permBy [1, 0, 2, 3] (by decide) rfl rfl) rfl rfl rfl rfl (Nat.le_of_ble_eq_true rfl) dX7_score_5 rfl (fun v w hq => ?_)
  obtain ⟨r_5, rfl, rfl, hr_5⟩ := hq
  show V X 0 0 8 [(0, vP (ax 0)), (1, vI x), (2, vI y)] [vI r_5] [bkW ab (nu, wo, sc, me, us, la, ct, gv, kd, sl), boW ax ab ap al ao (((pck t : Nat) : Int), ck, ba, no, fu), paW ap ak (nx, pc), kbW ak Bs]
  refine V.perm (cs' := [boW ax ab ap al ao (((pck t : Nat) : Int), ck, ba, no, fu), bkW ab (nu, wo, sc, me, us, la, ct, gv, kd, sl), paW ap ak (nx, pc), kbW ak Bs]) (permBy [1, 0, 2, 3] (by decide) rfl rfl) ?_
  have hf := hb.find hr_5
  refine i_istore_n (q := 9) (lv' := [(3, vI r_5), (0, vP (ax 0)), (1, vI x), (2, vI y)]) C rfl (by decide) rfl dX7_score_8 rfl ?_
  refine i_iload_n (j := 0) (q := 10) C rfl rfl dX7_score_9 rfl ?_
  refine i_iconst (q := 11) C dX7_score_10 rfl ?_
  refine i_icmp_eq (tgt := 25) (q := 14) C (by rcases hr_5 with h | h <;> omega) (by omega) dX7_score_11 (by decide) rfl (fun c_11 => ?_) (fun c_11 => ?_)
  · skip
    have hfn : fnd o x = none := by
      rcases hf with h | h
      · exact h.2
      · omega
    refine i_aload_n (j := 1) (q := 26) C rfl rfl dX7_score_25 rfl ?_
    refine i_callV (wr := [bkW ab (nu, wo, sc, me, us, la, ct, gv, kd, sl), paW ap ak (nx, pc), kbW ak Bs]) (As := []) (st := []) (i := 0) (j := 0) (q := 29) C (c_X7_refuseBad K l (ab) (ax) (ap) (al) (ao) (((pck t : Nat) : Int)) (ck) (ba) (no) (fu) ) gX7_score_X7_refuseBad rfl hd_X7_refuseBad ⟨Nat.le_of_ble_eq_true rfl, Nat.le_of_ble_eq_true rfl⟩ ⟨rfl, rfl⟩ ⟨Nat.le_of_ble_eq_true rfl, Nat.le_of_ble_eq_true rfl⟩ (permBy [0, 1, 2, 3] (by decide) rfl rfl) rfl rfl rfl rfl (Nat.le_of_ble_eq_true rfl) dX7_score_26 rfl (fun v w hq => ?_)
    obtain ⟨rfl, rfl⟩ := hq
    show V X 0 0 29 [(3, vI r_5), (0, vP (ax 0)), (1, vI x), (2, vI y)] [vI (-2)] [boW ax ab ap al ao (((pck t : Nat) : Int), ck, ba + 1, no, fu), bkW ab (nu, wo, sc, me, us, la, ct, gv, kd, sl), paW ap ak (nx, pc), kbW ak Bs]
    refine i_iret C hR dX7_score_29 ?_
    have hsp : (sp_score x y (o, h, t, ck, tx, ba, no, fu)) = (-2, (o, h, t, ck, tx, ba + 1, no, fu)) := by
      simp only [sp_score]
      rw [hfn]
      rfl
    exact ⟨ba + 1, nx, pc, Bs, sc, by rw [hsp], rfl, by rw [hsp]; exact hC.bad hN⟩
  · skip
    obtain ⟨g1, g2, g3, hfs⟩ : 0 ≤ r_5 ∧ r_5 < ct ∧ nu r_5 = x ∧ fnd o x = some (atP o.1 r_5) := by
      rcases hf with h | h
      · omega
      · exact h
    refine i_iload_n (j := 3) (q := 15) C rfl rfl dX7_score_14 rfl ?_
    refine i_iconst (q := 16) C dX7_score_15 rfl ?_
    refine i_sipush (q := 19) C (by decide) dX7_score_16 rfl ?_
    refine i_callS (wr := [boW ax ab ap al ao (((pck t : Nat) : Int), ck, ba, no, fu), bkW ab (nu, wo, sc, me, us, la, ct, gv, kd, sl), paW ap ak (nx, pc), kbW ak Bs]) (As := [vI y, vI 0, vI 1000]) (st := []) (q := 22) C (c_X7_isWithin K l (y) (0) (1000) (by first | assumption | omega) (by first | assumption | omega) (by first | assumption | omega)) gX7_score_X7_isWithin rfl hd_X7_isWithin ⟨Nat.le_of_ble_eq_true rfl, Nat.le_of_ble_eq_true rfl⟩ ⟨rfl, rfl⟩ ⟨Nat.le_of_ble_eq_true rfl, Nat.le_of_ble_eq_true rfl⟩ (permBy [0, 1, 2, 3] (by decide) rfl rfl) rfl (Nat.le_of_ble_eq_true rfl) dX7_score_19 rfl (fun v w hq => ?_)
    obtain ⟨rfl, rfl⟩ := hq
    show V X 0 0 22 [(3, vI r_5), (0, vP (ax 0)), (1, vI x), (2, vI y)] [vI (if 0 ≤ y ∧ y ≤ 1000 then 1 else 0)] [boW ax ab ap al ao (((pck t : Nat) : Int), ck, ba, no, fu), bkW ab (nu, wo, sc, me, us, la, ct, gv, kd, sl), paW ap ak (nx, pc), kbW ak Bs]
    refine i_if_ne (tgt := 30) (q := 25) C (if01) dX7_score_22 (by decide) rfl (fun c_22 => ?_) (fun c_22 => ?_)
    · skip
      have h_22 := ifn0 c_22
      refine i_aload_n (j := 1) (q := 31) C rfl rfl dX7_score_30 rfl ?_
      refine i_get (i := 0) (j := 0) (f := 1) (q := 34) C rfl rfl rfl hi_X7_score_X7 (by decide) lk_X7_score_19 rfl dX7_score_31 rfl ?_
      refine i_aload_n (j := 1) (q := 35) C rfl rfl dX7_score_34 rfl ?_
      refine i_get (i := 0) (j := 0) (f := 0) (q := 38) C rfl rfl rfl hi_X7_score_X7 (by decide) lk_X7_score_10 rfl dX7_score_35 rfl ?_
      refine i_callV (wr := [boW ax ab ap al ao (((pck t : Nat) : Int), ck, ba, no, fu)]) (As := [vP (ab 0)]) (st := []) (i := 0) (j := 0) (q := 41) C (c_X4_remember K l (ap) (ak) (nx) (pc) (Bs) (ab) (nu) (wo) (sc) (me) (us) (la) (ct) (gv) (kd) (sl) (by omega) (by omega) (by omega)) gX7_score_X4_remember rfl hd_X4_remember ⟨Nat.le_of_ble_eq_true rfl, Nat.le_of_ble_eq_true rfl⟩ ⟨rfl, rfl⟩ ⟨Nat.le_of_ble_eq_true rfl, Nat.le_of_ble_eq_true rfl⟩ (permBy [2, 1, 3, 0] (by decide) rfl rfl) rfl rfl rfl rfl (Nat.le_of_ble_eq_true rfl) dX7_score_38 rfl (fun v w hq => ?_)
      obtain ⟨nu3_38, wo3_38, sc3_38, me3_38, us3_38, la3_38, rfl, rfl, hc_38⟩ := hq
      show V X 0 0 41 [(3, vI r_5), (0, vP (ax 0)), (1, vI x), (2, vI y)] [] [paW ap ak (if nx + 1 < 12 then nx + 1 else 0, min (pc + 1) 12), bkW ab (nu, wo, sc, me, us, la, ct, gv, kd, sl), kbW ak (up Bs nx (nu3_38, wo3_38, sc3_38, me3_38, us3_38, la3_38, ct, gv, kd, sl)), boW ax ab ap al ao (((pck t : Nat) : Int), ck, ba, no, fu)]
      refine V.perm (cs' := [boW ax ab ap al ao (((pck t : Nat) : Int), ck, ba, no, fu), bkW ab (nu, wo, sc, me, us, la, ct, gv, kd, sl), paW ap ak (if nx + 1 < 12 then nx + 1 else 0, min (pc + 1) 12), kbW ak (up Bs nx (nu3_38, wo3_38, sc3_38, me3_38, us3_38, la3_38, ct, gv, kd, sl))]) (permBy [3, 1, 0, 2] (by decide) rfl rfl) ?_
      refine i_aload_n (j := 1) (q := 42) C rfl rfl dX7_score_41 rfl ?_
      refine i_get (i := 0) (j := 0) (f := 0) (q := 45) C rfl rfl rfl hi_X7_score_X7 (by decide) lk_X7_score_10 rfl dX7_score_42 rfl ?_
      refine i_get (i := 1) (j := 0) (f := 2) (q := 48) C rfl rfl rfl hi_X7_score_X0 (by decide) lk_X7_score_122 rfl dX7_score_45 rfl ?_
      refine i_iload_n (j := 0) (q := 49) C rfl rfl dX7_score_48 rfl ?_
      refine i_iald (i := 1) (j := 3) (q := 50) C rfl rfl (by omega) dX7_score_49 rfl ?_
      refine i_istore (q := 52) (lv' := [(4, vI (sc r_5)), (3, vI r_5), (0, vP (ax 0)), (1, vI x), (2, vI y)]) C (by decide) rfl dX7_score_50 rfl ?_
      refine i_aload_n (j := 2) (q := 53) C rfl rfl dX7_score_52 rfl ?_
      refine i_get (i := 0) (j := 0) (f := 0) (q := 56) C rfl rfl rfl hi_X7_score_X7 (by decide) lk_X7_score_10 rfl dX7_score_53 rfl ?_
      refine i_get (i := 1) (j := 0) (f := 2) (q := 59) C rfl rfl rfl hi_X7_score_X0 (by decide) lk_X7_score_122 rfl dX7_score_56 rfl ?_
      refine i_iload_n (j := 1) (q := 60) C rfl rfl dX7_score_59 rfl ?_
      refine i_iload_n (j := 4) (q := 61) C rfl rfl dX7_score_60 rfl ?_
      refine i_iast (i := 1) (j := 3) (q := 62) (cs' := [boW ax ab ap al ao (((pck t : Nat) : Int), ck, ba, no, fu), bkW ab (nu, wo, up sc r_5 y, me, us, la, ct, gv, kd, sl), paW ap ak (if nx + 1 < 12 then nx + 1 else 0, min (pc + 1) 12), kbW ak (up Bs nx (nu3_38, wo3_38, sc3_38, me3_38, us3_38, la3_38, ct, gv, kd, sl))]) C rfl rfl (by omega) dX7_score_61 rfl rfl ?_
      refine i_iload (j := 0) (q := 64) C rfl dX7_score_62 rfl ?_
      refine i_iret C hR dX7_score_64 ?_
      have hsc := hb.xsc r_5 g1 g2
      have hus := hb.xus r_5 g1 g2
      have hla := hb.xla r_5 g1 g2
      have x_sc : rpB (24 * (N + 1)) nu wo (up sc r_5 y) me us la ct gv kd sl (scoB o x y) := by
        rw [← g3]
        exact hb.set ⟨g1, g2⟩ (by omega) (by omega) h_22 (by omega) hla.1 ⟨up_s _ _ _, rfl, rfl⟩ (fun j hj => ⟨up_n _ _ hj, rfl, rfl⟩) _ (by rw [hus.2, hla.2])
      have hsp : (sp_score x y (o, h, t, ck, tx, ba, no, fu)) = (sc r_5, (scoB o x y, noteH h o, t, ck, tx, ba, no, fu)) := by
        simp only [sp_score]
        rw [hfs]
        simp only
        rw [if_pos h_22, hsc.2]
      exact ⟨ba, if nx + 1 < 12 then nx + 1 else 0, min (pc + 1) 12, up Bs nx (nu3_38, wo3_38, sc3_38, me3_38, us3_38, la3_38, ct, gv, kd, sl), up sc r_5 y, by rw [hsp], rfl, by rw [hsp]; exact hC.upd hN x_sc ((hC.hhG hN).note (B := (nu3_38, wo3_38, sc3_38, me3_38, us3_38, la3_38, ct, gv, kd, sl)) ((hC.hbG hN).ext hc_38)) ⟨ht, hlt⟩ hck hC.hx⟩
    · skip
      have h_22 := if0 c_22
      refine i_aload_n (j := 1) (q := 26) C rfl rfl dX7_score_25 rfl ?_
      refine i_callV (wr := [bkW ab (nu, wo, sc, me, us, la, ct, gv, kd, sl), paW ap ak (nx, pc), kbW ak Bs]) (As := []) (st := []) (i := 0) (j := 0) (q := 29) C (c_X7_refuseBad K l (ab) (ax) (ap) (al) (ao) (((pck t : Nat) : Int)) (ck) (ba) (no) (fu) ) gX7_score_X7_refuseBad rfl hd_X7_refuseBad ⟨Nat.le_of_ble_eq_true rfl, Nat.le_of_ble_eq_true rfl⟩ ⟨rfl, rfl⟩ ⟨Nat.le_of_ble_eq_true rfl, Nat.le_of_ble_eq_true rfl⟩ (permBy [0, 1, 2, 3] (by decide) rfl rfl) rfl rfl rfl rfl (Nat.le_of_ble_eq_true rfl) dX7_score_26 rfl (fun v w hq => ?_)
      obtain ⟨rfl, rfl⟩ := hq
      show V X 0 0 29 [(3, vI r_5), (0, vP (ax 0)), (1, vI x), (2, vI y)] [vI (-2)] [boW ax ab ap al ao (((pck t : Nat) : Int), ck, ba + 1, no, fu), bkW ab (nu, wo, sc, me, us, la, ct, gv, kd, sl), paW ap ak (nx, pc), kbW ak Bs]
      refine i_iret C hR dX7_score_29 ?_
      have hsp : (sp_score x y (o, h, t, ck, tx, ba, no, fu)) = (-2, (o, h, t, ck, tx, ba + 1, no, fu)) := by
        simp only [sp_score]
        rw [hfs]
        simp only
        rw [if_neg h_22]
        rfl
      exact ⟨ba + 1, nx, pc, Bs, sc, by rw [hsp], rfl, by rw [hsp]; exact hC.bad hN⟩

theorem lk_X7_drop_10 : Cond.fieldLink RX7 10 (TX7 0).1 (TX7 0).2.1 (TX7 0).2.2.1 ∈ wsX7_drop := List.mem_of_getElem? (i := 1) rfl
theorem hi_X7_drop_X7 : ∀ w ∈ u_ws RX7 TX7 9, w ∈ wsX7_drop := by decide +kernel
theorem lk_X7_drop_19 : Cond.fieldLink RX7 19 (TX7 1).1 (TX7 1).2.1 (TX7 1).2.2.1 ∈ wsX7_drop := List.mem_of_getElem? (i := 2) rfl
theorem lk_X7_drop_122 : Cond.fieldLink RX7 122 (TX0 2).1 (TX0 2).2.1 (TX0 2).2.2.1 ∈ wsX7_drop := List.mem_of_getElem? (i := 3) rfl
theorem hi_X7_drop_X0 : ∀ w ∈ u_ws RX0 TX0 10, w ∈ wsX7_drop := by decide +kernel
theorem hd_X0_takeOut : yX0_takeOut.cls = RX0 ∧ yX0_takeOut.cls ≠ "java/lang/invoke/MethodHandle" ∧ yX0_takeOut.cls ≠ "java/lang/invoke/VarHandle" ∧ (parseMethodDescriptor yX0_takeOut.desc).map (fun d => d.parameters.length) = some 1 := by decide +kernel
set_option maxHeartbeats 400000 in
set_option maxRecDepth 100000 in
theorem c_X7_drop (K : KT) (l : Launch) (ax : Nat → Nat) (ap : Nat → Nat) (al : Nat → Nat) (ao : Nat → Nat) (ck : Int) (ba : Int) (no : Int) (fu : Int) (t : List Int) (ab : Nat → Nat) (nu : Int → Int) (wo : Int → Int) (sc : Int → Int) (me : Int → Int) (us : Int → Int) (la : Int → Int) (ct : Int) (gv : Int) (kd : Int) (sl : Int) (ak : Int → Nat → Nat) (nx : Int) (pc : Int) (Bs : Int → Bk) (by_ : Int → Int) (ve : Int → Int) (ow : Int → Int) (fi : Int → Int) (se : Int → Int) (le : Int) (oc : Int) (pl : Int) (fa : Int) (so : Int → Int) (ra : Int → Int) (lc : Int) (o : Bo) (h : List Bo) (tx : List Int) (N : Int) (x : Int) (hC : okC N nu wo sc me us la ct gv kd sl Bs nx pc ((pck t : Nat) : Int) ck ba no fu by_ le (o, h, t, ck, tx, ba, no, fu)) (hN : N < 512) (hx : rI x) : Mt K l yX7_drop wsX7_drop ({ frames := 3, cells := 0, slots := 0, locals := 67 }) [vP (ax 0), vI x] [boW ax ab ap al ao (((pck t : Nat) : Int), ck, ba, no, fu), bkW ab (nu, wo, sc, me, us, la, ct, gv, kd, sl), paW ap ak (nx, pc), kbW ak Bs] 0 0 (fun v w => ∃ ba3 : Int, ∃ nx3 : Int, ∃ pc3 : Int, ∃ Bs3 : Int → Bk, ∃ nu3 : Int → Int, ∃ wo3 : Int → Int, ∃ sc3 : Int → Int, ∃ me3 : Int → Int, ∃ us3 : Int → Int, ∃ la3 : Int → Int, ∃ ct3 : Int, v = some (vI ((sp_drop x (o, h, t, ck, tx, ba, no, fu)).1)) ∧ w = [boW ax ab ap al ao (((pck t : Nat) : Int), ck, ba3, no, fu), bkW ab (nu3, wo3, sc3, me3, us3, la3, ct3, gv, kd, sl), paW ap ak (nx3, pc3), kbW ak Bs3] ∧ (okC (N + 1) nu3 wo3 sc3 me3 us3 la3 ct3 gv kd sl Bs3 nx3 pc3 ((pck t : Nat) : Int) ck ba3 no fu by_ le (sp_drop x (o, h, t, ck, tx, ba, no, fu)).2)) := by
  refine Mt.of (own := RX7) (cc := cX7_drop) (maxL := 4) (ret := (some .int)) (lv0 := [(0, vP (ax 0)), (1, vI x)]) (by decide) rfl rfl (Nat.le_of_ble_eq_true rfl) rfl (fun X C hR hNm => ?_)
  have hb := hC.hb
  have hct := hb.xct
  have hgv := hb.xgv
  have hkd := hb.xkd
  have hsl := hb.xsl
  obtain ⟨ht, hlt⟩ := hC.ht
  have hNN := hC.hN
  have hhx := hC.hh.1
  have hhp := hC.hh.2.1
  have hhl := hC.hh.2.2.1
  have hck := hC.hck
  have hTx := hC.hx
  refine i_aload_n (j := 0) (q := 1) C rfl rfl dX7_drop_0 rfl ?_
  refine i_get (i := 0) (j := 0) (f := 0) (q := 4) C rfl rfl rfl hi_X7_drop_X7 (by decide) lk_X7_drop_10 rfl dX7_drop_1 rfl ?_
  refine i_iload_n (j := 1) (q := 5) C rfl rfl dX7_drop_4 rfl ?_
  refine i_callV (wr := [boW ax ab ap al ao (((pck t : Nat) : Int), ck, ba, no, fu), paW ap ak (nx, pc), kbW ak Bs]) (As := [vI x]) (st := []) (i := 0) (j := 0) (q := 8) C (c_X0_slotOf K l (ab) (nu) (wo) (sc) (me) (us) (la) (ct) (gv) (kd) (sl) (x) (by omega) (fun j g0 g1 => by have := hb.xnu j g0 g1; omega) (by first | assumption | omega)) gX7_drop_X0_slotOf rfl hd_X0_slotOf ⟨Nat.le_of_ble_eq_true rfl, Nat.le_of_ble_eq_true rfl⟩ ⟨rfl, rfl⟩ ⟨Nat.le_of_ble_eq_true rfl, Nat.le_of_ble_eq_true rfl⟩ (permBy [1, 0, 2, 3] (by decide) rfl rfl) rfl rfl rfl rfl (Nat.le_of_ble_eq_true rfl) dX7_drop_5 rfl (fun v w hq => ?_)
  obtain ⟨r_5, rfl, rfl, hr_5⟩ := hq
  show V X 0 0 8 [(0, vP (ax 0)), (1, vI x)] [vI r_5] [bkW ab (nu, wo, sc, me, us, la, ct, gv, kd, sl), boW ax ab ap al ao (((pck t : Nat) : Int), ck, ba, no, fu), paW ap ak (nx, pc), kbW ak Bs]
  refine V.perm (cs' := [boW ax ab ap al ao (((pck t : Nat) : Int), ck, ba, no, fu), bkW ab (nu, wo, sc, me, us, la, ct, gv, kd, sl), paW ap ak (nx, pc), kbW ak Bs]) (permBy [1, 0, 2, 3] (by decide) rfl rfl) ?_
  have hf := hb.find hr_5
  refine i_istore_n (q := 9) (lv' := [(2, vI r_5), (0, vP (ax 0)), (1, vI x)]) C rfl (by decide) rfl dX7_drop_8 rfl ?_
  refine i_iload_n (j := 0) (q := 10) C rfl rfl dX7_drop_9 rfl ?_
  refine i_iconst (q := 11) C dX7_drop_10 rfl ?_
  refine i_icmp_ne (tgt := 19) (q := 14) C (by rcases hr_5 with h | h <;> omega) (by omega) dX7_drop_11 (by decide) rfl (fun c_11 => ?_) (fun c_11 => ?_)
  · skip
    obtain ⟨g1, g2, g3, hfs⟩ : 0 ≤ r_5 ∧ r_5 < ct ∧ nu r_5 = x ∧ fnd o x = some (atP o.1 r_5) := by
      rcases hf with h | h
      · omega
      · exact h
    refine i_aload_n (j := 1) (q := 20) C rfl rfl dX7_drop_19 rfl ?_
    refine i_get (i := 0) (j := 0) (f := 1) (q := 23) C rfl rfl rfl hi_X7_drop_X7 (by decide) lk_X7_drop_19 rfl dX7_drop_20 rfl ?_
    refine i_aload_n (j := 1) (q := 24) C rfl rfl dX7_drop_23 rfl ?_
    refine i_get (i := 0) (j := 0) (f := 0) (q := 27) C rfl rfl rfl hi_X7_drop_X7 (by decide) lk_X7_drop_10 rfl dX7_drop_24 rfl ?_
    refine i_callV (wr := [boW ax ab ap al ao (((pck t : Nat) : Int), ck, ba, no, fu)]) (As := [vP (ab 0)]) (st := []) (i := 0) (j := 0) (q := 30) C (c_X4_remember K l (ap) (ak) (nx) (pc) (Bs) (ab) (nu) (wo) (sc) (me) (us) (la) (ct) (gv) (kd) (sl) (by omega) (by omega) (by omega)) gX7_drop_X4_remember rfl hd_X4_remember ⟨Nat.le_of_ble_eq_true rfl, Nat.le_of_ble_eq_true rfl⟩ ⟨rfl, rfl⟩ ⟨Nat.le_of_ble_eq_true rfl, Nat.le_of_ble_eq_true rfl⟩ (permBy [2, 1, 3, 0] (by decide) rfl rfl) rfl rfl rfl rfl (Nat.le_of_ble_eq_true rfl) dX7_drop_27 rfl (fun v w hq => ?_)
    obtain ⟨nu3_27, wo3_27, sc3_27, me3_27, us3_27, la3_27, rfl, rfl, hc_27⟩ := hq
    show V X 0 0 30 [(2, vI r_5), (0, vP (ax 0)), (1, vI x)] [] [paW ap ak (if nx + 1 < 12 then nx + 1 else 0, min (pc + 1) 12), bkW ab (nu, wo, sc, me, us, la, ct, gv, kd, sl), kbW ak (up Bs nx (nu3_27, wo3_27, sc3_27, me3_27, us3_27, la3_27, ct, gv, kd, sl)), boW ax ab ap al ao (((pck t : Nat) : Int), ck, ba, no, fu)]
    refine V.perm (cs' := [boW ax ab ap al ao (((pck t : Nat) : Int), ck, ba, no, fu), bkW ab (nu, wo, sc, me, us, la, ct, gv, kd, sl), paW ap ak (if nx + 1 < 12 then nx + 1 else 0, min (pc + 1) 12), kbW ak (up Bs nx (nu3_27, wo3_27, sc3_27, me3_27, us3_27, la3_27, ct, gv, kd, sl))]) (permBy [3, 1, 0, 2] (by decide) rfl rfl) ?_
    refine i_aload_n (j := 1) (q := 31) C rfl rfl dX7_drop_30 rfl ?_
    refine i_get (i := 0) (j := 0) (f := 0) (q := 34) C rfl rfl rfl hi_X7_drop_X7 (by decide) lk_X7_drop_10 rfl dX7_drop_31 rfl ?_
    refine i_get (i := 1) (j := 0) (f := 2) (q := 37) C rfl rfl rfl hi_X7_drop_X0 (by decide) lk_X7_drop_122 rfl dX7_drop_34 rfl ?_
    refine i_iload_n (j := 0) (q := 38) C rfl rfl dX7_drop_37 rfl ?_
    refine i_iald (i := 1) (j := 3) (q := 39) C rfl rfl (by omega) dX7_drop_38 rfl ?_
    refine i_istore_n (q := 40) (lv' := [(3, vI (sc r_5)), (2, vI r_5), (0, vP (ax 0)), (1, vI x)]) C rfl (by decide) rfl dX7_drop_39 rfl ?_
    refine i_aload_n (j := 2) (q := 41) C rfl rfl dX7_drop_40 rfl ?_
    refine i_get (i := 0) (j := 0) (f := 0) (q := 44) C rfl rfl rfl hi_X7_drop_X7 (by decide) lk_X7_drop_10 rfl dX7_drop_41 rfl ?_
    refine i_iload_n (j := 1) (q := 45) C rfl rfl dX7_drop_44 rfl ?_
    refine i_callV (wr := [boW ax ab ap al ao (((pck t : Nat) : Int), ck, ba, no, fu), paW ap ak (if nx + 1 < 12 then nx + 1 else 0, min (pc + 1) 12), kbW ak (up Bs nx (nu3_27, wo3_27, sc3_27, me3_27, us3_27, la3_27, ct, gv, kd, sl))]) (As := [vI r_5]) (st := []) (i := 0) (j := 0) (q := 48) C (c_X0_takeOut K l (ab) (nu) (wo) (sc) (me) (us) (la) (ct) (gv) (kd) (sl) (r_5) (by omega) (by omega)) gX7_drop_X0_takeOut rfl hd_X0_takeOut ⟨Nat.le_of_ble_eq_true rfl, Nat.le_of_ble_eq_true rfl⟩ ⟨rfl, rfl⟩ ⟨Nat.le_of_ble_eq_true rfl, Nat.le_of_ble_eq_true rfl⟩ (permBy [1, 0, 2, 3] (by decide) rfl rfl) rfl rfl rfl rfl (Nat.le_of_ble_eq_true rfl) dX7_drop_45 rfl (fun v w hq => ?_)
    obtain ⟨nu3_45, wo3_45, sc3_45, me3_45, us3_45, la3_45, rfl, rfl, hc_45⟩ := hq
    show V X 0 0 48 [(3, vI (sc r_5)), (2, vI r_5), (0, vP (ax 0)), (1, vI x)] [] [bkW ab (nu3_45, wo3_45, sc3_45, me3_45, us3_45, la3_45, ct - 1, gv, kd, sl), boW ax ab ap al ao (((pck t : Nat) : Int), ck, ba, no, fu), paW ap ak (if nx + 1 < 12 then nx + 1 else 0, min (pc + 1) 12), kbW ak (up Bs nx (nu3_27, wo3_27, sc3_27, me3_27, us3_27, la3_27, ct, gv, kd, sl))]
    refine V.perm (cs' := [boW ax ab ap al ao (((pck t : Nat) : Int), ck, ba, no, fu), bkW ab (nu3_45, wo3_45, sc3_45, me3_45, us3_45, la3_45, ct - 1, gv, kd, sl), paW ap ak (if nx + 1 < 12 then nx + 1 else 0, min (pc + 1) 12), kbW ak (up Bs nx (nu3_27, wo3_27, sc3_27, me3_27, us3_27, la3_27, ct, gv, kd, sl))]) (permBy [1, 0, 2, 3] (by decide) rfl rfl) ?_
    refine i_iload_n (j := 0) (q := 49) C rfl rfl dX7_drop_48 rfl ?_
    refine i_iret C hR dX7_drop_49 ?_
    have hsc := hb.xsc r_5 g1 g2
    have hus := hb.xus r_5 g1 g2
    have hla := hb.xla r_5 g1 g2
    have x_out := (hC.hbG hN).out ⟨g1, g2⟩ hc_45.1 hc_45.2
    rw [g3] at x_out
    have hsp : (sp_drop x (o, h, t, ck, tx, ba, no, fu)) = (sc r_5, (outB o x, noteH h o, t, ck, tx, ba, no, fu)) := by
      simp only [sp_drop]
      rw [hfs]
      simp only
      rw [hsc.2]
    exact ⟨ba, if nx + 1 < 12 then nx + 1 else 0, min (pc + 1) 12, up Bs nx (nu3_27, wo3_27, sc3_27, me3_27, us3_27, la3_27, ct, gv, kd, sl), nu3_45, wo3_45, sc3_45, me3_45, us3_45, la3_45, ct - 1, by rw [hsp], rfl, by rw [hsp]; exact hC.upd hN x_out ((hC.hhG hN).note (B := (nu3_27, wo3_27, sc3_27, me3_27, us3_27, la3_27, ct, gv, kd, sl)) ((hC.hbG hN).ext hc_27)) ⟨ht, hlt⟩ hck hC.hx⟩
  · skip
    have hfn : fnd o x = none := by
      rcases hf with h | h
      · exact h.2
      · omega
    refine i_aload_n (j := 1) (q := 15) C rfl rfl dX7_drop_14 rfl ?_
    refine i_callV (wr := [bkW ab (nu, wo, sc, me, us, la, ct, gv, kd, sl), paW ap ak (nx, pc), kbW ak Bs]) (As := []) (st := []) (i := 0) (j := 0) (q := 18) C (c_X7_refuseBad K l (ab) (ax) (ap) (al) (ao) (((pck t : Nat) : Int)) (ck) (ba) (no) (fu) ) gX7_drop_X7_refuseBad rfl hd_X7_refuseBad ⟨Nat.le_of_ble_eq_true rfl, Nat.le_of_ble_eq_true rfl⟩ ⟨rfl, rfl⟩ ⟨Nat.le_of_ble_eq_true rfl, Nat.le_of_ble_eq_true rfl⟩ (permBy [0, 1, 2, 3] (by decide) rfl rfl) rfl rfl rfl rfl (Nat.le_of_ble_eq_true rfl) dX7_drop_15 rfl (fun v w hq => ?_)
    obtain ⟨rfl, rfl⟩ := hq
    show V X 0 0 18 [(2, vI r_5), (0, vP (ax 0)), (1, vI x)] [vI (-2)] [boW ax ab ap al ao (((pck t : Nat) : Int), ck, ba + 1, no, fu), bkW ab (nu, wo, sc, me, us, la, ct, gv, kd, sl), paW ap ak (nx, pc), kbW ak Bs]
    refine i_iret C hR dX7_drop_18 ?_
    have hsp : (sp_drop x (o, h, t, ck, tx, ba, no, fu)) = (-2, (o, h, t, ck, tx, ba + 1, no, fu)) := by
      simp only [sp_drop]
      rw [hfn]
      rfl
    exact ⟨ba + 1, nx, pc, Bs, nu, wo, sc, me, us, la, ct, by rw [hsp], rfl, by rw [hsp]; exact hC.bad hN⟩

theorem lk_X7_rank_19 : Cond.fieldLink RX7 19 (TX7 1).1 (TX7 1).2.1 (TX7 1).2.2.1 ∈ wsX7_rank := List.mem_of_getElem? (i := 1) rfl
theorem hi_X7_rank_X7 : ∀ w ∈ u_ws RX7 TX7 9, w ∈ wsX7_rank := by decide +kernel
theorem lk_X7_rank_10 : Cond.fieldLink RX7 10 (TX7 0).1 (TX7 0).2.1 (TX7 0).2.2.1 ∈ wsX7_rank := List.mem_of_getElem? (i := 2) rfl
theorem lk_X7_rank_130 : Cond.fieldLink RX7 130 (TX0 8).1 (TX0 8).2.1 (TX0 8).2.2.1 ∈ wsX7_rank := List.mem_of_getElem? (i := 3) rfl
theorem hi_X7_rank_X0 : ∀ w ∈ u_ws RX0 TX0 10, w ∈ wsX7_rank := by decide +kernel
set_option maxHeartbeats 400000 in
set_option maxRecDepth 100000 in
theorem c_X7_rank (K : KT) (l : Launch) (ax : Nat → Nat) (ap : Nat → Nat) (al : Nat → Nat) (ao : Nat → Nat) (ck : Int) (ba : Int) (no : Int) (fu : Int) (t : List Int) (ab : Nat → Nat) (nu : Int → Int) (wo : Int → Int) (sc : Int → Int) (me : Int → Int) (us : Int → Int) (la : Int → Int) (ct : Int) (gv : Int) (kd : Int) (sl : Int) (ak : Int → Nat → Nat) (nx : Int) (pc : Int) (Bs : Int → Bk) (by_ : Int → Int) (ve : Int → Int) (ow : Int → Int) (fi : Int → Int) (se : Int → Int) (le : Int) (oc : Int) (pl : Int) (fa : Int) (so : Int → Int) (ra : Int → Int) (lc : Int) (o : Bo) (h : List Bo) (tx : List Int) (N : Int) (x : Int) (hC : okC N nu wo sc me us la ct gv kd sl Bs nx pc ((pck t : Nat) : Int) ck ba no fu by_ le (o, h, t, ck, tx, ba, no, fu)) (hN : N < 512) (hx : rI x) : Mt K l yX7_rank wsX7_rank ({ frames := 3, cells := 0, slots := 0, locals := 67 }) [vP (ax 0), vI x] [boW ax ab ap al ao (((pck t : Nat) : Int), ck, ba, no, fu), bkW ab (nu, wo, sc, me, us, la, ct, gv, kd, sl), paW ap ak (nx, pc), kbW ak Bs] 0 0 (fun v w => ∃ ba3 : Int, ∃ nx3 : Int, ∃ pc3 : Int, ∃ Bs3 : Int → Bk, ∃ kd3 : Int, v = some (vI ((sp_rank x (o, h, t, ck, tx, ba, no, fu)).1)) ∧ w = [boW ax ab ap al ao (((pck t : Nat) : Int), ck, ba3, no, fu), bkW ab (nu, wo, sc, me, us, la, ct, gv, kd3, sl), paW ap ak (nx3, pc3), kbW ak Bs3] ∧ (okC (N + 1) nu wo sc me us la ct gv kd3 sl Bs3 nx3 pc3 ((pck t : Nat) : Int) ck ba3 no fu by_ le (sp_rank x (o, h, t, ck, tx, ba, no, fu)).2)) := by
  refine Mt.of (own := RX7) (cc := cX7_rank) (maxL := 3) (ret := (some .int)) (lv0 := [(0, vP (ax 0)), (1, vI x)]) (by decide) rfl rfl (Nat.le_of_ble_eq_true rfl) rfl (fun X C hR hNm => ?_)
  have hb := hC.hb
  have hct := hb.xct
  have hgv := hb.xgv
  have hkd := hb.xkd
  have hsl := hb.xsl
  obtain ⟨ht, hlt⟩ := hC.ht
  have hNN := hC.hN
  have hhx := hC.hh.1
  have hhp := hC.hh.2.1
  have hhl := hC.hh.2.2.1
  have hck := hC.hck
  have hTx := hC.hx
  refine i_iload_n (j := 1) (q := 1) C rfl rfl dX7_rank_0 rfl ?_
  refine i_iconst (q := 2) C dX7_rank_1 rfl ?_
  refine i_iconst (q := 3) C dX7_rank_2 rfl ?_
  refine i_callS (wr := [boW ax ab ap al ao (((pck t : Nat) : Int), ck, ba, no, fu), bkW ab (nu, wo, sc, me, us, la, ct, gv, kd, sl), paW ap ak (nx, pc), kbW ak Bs]) (As := [vI x, vI 0, vI 4]) (st := []) (q := 6) C (c_X7_isWithin K l (x) (0) (4) (by first | assumption | omega) (by first | assumption | omega) (by first | assumption | omega)) gX7_rank_X7_isWithin rfl hd_X7_isWithin ⟨Nat.le_of_ble_eq_true rfl, Nat.le_of_ble_eq_true rfl⟩ ⟨rfl, rfl⟩ ⟨Nat.le_of_ble_eq_true rfl, Nat.le_of_ble_eq_true rfl⟩ (permBy [0, 1, 2, 3] (by decide) rfl rfl) rfl (Nat.le_of_ble_eq_true rfl) dX7_rank_3 rfl (fun v w hq => ?_)
  obtain ⟨rfl, rfl⟩ := hq
  show V X 0 0 6 [(0, vP (ax 0)), (1, vI x)] [vI (if 0 ≤ x ∧ x ≤ 4 then 1 else 0)] [boW ax ab ap al ao (((pck t : Nat) : Int), ck, ba, no, fu), bkW ab (nu, wo, sc, me, us, la, ct, gv, kd, sl), paW ap ak (nx, pc), kbW ak Bs]
  refine i_if_ne (tgt := 14) (q := 9) C (if01) dX7_rank_6 (by decide) rfl (fun c_6 => ?_) (fun c_6 => ?_)
  · skip
    have h_6 := ifn0 c_6
    refine i_aload_n (j := 0) (q := 15) C rfl rfl dX7_rank_14 rfl ?_
    refine i_get (i := 0) (j := 0) (f := 1) (q := 18) C rfl rfl rfl hi_X7_rank_X7 (by decide) lk_X7_rank_19 rfl dX7_rank_15 rfl ?_
    refine i_aload_n (j := 0) (q := 19) C rfl rfl dX7_rank_18 rfl ?_
    refine i_get (i := 0) (j := 0) (f := 0) (q := 22) C rfl rfl rfl hi_X7_rank_X7 (by decide) lk_X7_rank_10 rfl dX7_rank_19 rfl ?_
    refine i_callV (wr := [boW ax ab ap al ao (((pck t : Nat) : Int), ck, ba, no, fu)]) (As := [vP (ab 0)]) (st := []) (i := 0) (j := 0) (q := 25) C (c_X4_remember K l (ap) (ak) (nx) (pc) (Bs) (ab) (nu) (wo) (sc) (me) (us) (la) (ct) (gv) (kd) (sl) (by omega) (by omega) (by omega)) gX7_rank_X4_remember rfl hd_X4_remember ⟨Nat.le_of_ble_eq_true rfl, Nat.le_of_ble_eq_true rfl⟩ ⟨rfl, rfl⟩ ⟨Nat.le_of_ble_eq_true rfl, Nat.le_of_ble_eq_true rfl⟩ (permBy [2, 1, 3, 0] (by decide) rfl rfl) rfl rfl rfl rfl (Nat.le_of_ble_eq_true rfl) dX7_rank_22 rfl (fun v w hq => ?_)
    obtain ⟨nu3_22, wo3_22, sc3_22, me3_22, us3_22, la3_22, rfl, rfl, hc_22⟩ := hq
    show V X 0 0 25 [(0, vP (ax 0)), (1, vI x)] [] [paW ap ak (if nx + 1 < 12 then nx + 1 else 0, min (pc + 1) 12), bkW ab (nu, wo, sc, me, us, la, ct, gv, kd, sl), kbW ak (up Bs nx (nu3_22, wo3_22, sc3_22, me3_22, us3_22, la3_22, ct, gv, kd, sl)), boW ax ab ap al ao (((pck t : Nat) : Int), ck, ba, no, fu)]
    refine V.perm (cs' := [boW ax ab ap al ao (((pck t : Nat) : Int), ck, ba, no, fu), bkW ab (nu, wo, sc, me, us, la, ct, gv, kd, sl), paW ap ak (if nx + 1 < 12 then nx + 1 else 0, min (pc + 1) 12), kbW ak (up Bs nx (nu3_22, wo3_22, sc3_22, me3_22, us3_22, la3_22, ct, gv, kd, sl))]) (permBy [3, 1, 0, 2] (by decide) rfl rfl) ?_
    refine i_aload_n (j := 0) (q := 26) C rfl rfl dX7_rank_25 rfl ?_
    refine i_get (i := 0) (j := 0) (f := 0) (q := 29) C rfl rfl rfl hi_X7_rank_X7 (by decide) lk_X7_rank_10 rfl dX7_rank_26 rfl ?_
    refine i_get (i := 1) (j := 0) (f := 8) (q := 32) C rfl rfl rfl hi_X7_rank_X0 (by decide) lk_X7_rank_130 rfl dX7_rank_29 rfl ?_
    refine i_istore_n (q := 33) (lv' := [(2, vI kd), (0, vP (ax 0)), (1, vI x)]) C rfl (by decide) rfl dX7_rank_32 rfl ?_
    refine i_aload_n (j := 1) (q := 34) C rfl rfl dX7_rank_33 rfl ?_
    refine i_get (i := 0) (j := 0) (f := 0) (q := 37) C rfl rfl rfl hi_X7_rank_X7 (by decide) lk_X7_rank_10 rfl dX7_rank_34 rfl ?_
    refine i_iload_n (j := 2) (q := 38) C rfl rfl dX7_rank_37 rfl ?_
    refine i_putI (i := 1) (j := 0) (f := 8) (q := 41) (cs' := [boW ax ab ap al ao (((pck t : Nat) : Int), ck, ba, no, fu), bkW ab (nu, wo, sc, me, us, la, ct, gv, x, sl), paW ap ak (if nx + 1 < 12 then nx + 1 else 0, min (pc + 1) 12), kbW ak (up Bs nx (nu3_22, wo3_22, sc3_22, me3_22, us3_22, la3_22, ct, gv, kd, sl))]) C rfl rfl rfl hi_X7_rank_X0 tyX0 tyX0_ok nmX0 (by decide) (Nat.le_of_ble_eq_true rfl) lk_X7_rank_130 rfl rfl dX7_rank_38 rfl rfl ?_
    refine i_iload_n (j := 0) (q := 42) C rfl rfl dX7_rank_41 rfl ?_
    refine i_iret C hR dX7_rank_42 ?_
    have hsp : (sp_rank x (o, h, t, ck, tx, ba, no, fu)) = (kd, ((o.1, o.2.1, x, o.2.2.2), noteH h o, t, ck, tx, ba, no, fu)) := by
      simp only [sp_rank]
      rw [if_pos h_6, ← hkd.2]
    exact ⟨ba, if nx + 1 < 12 then nx + 1 else 0, min (pc + 1) 12, up Bs nx (nu3_22, wo3_22, sc3_22, me3_22, us3_22, la3_22, ct, gv, kd, sl), x, by rw [hsp], rfl, by rw [hsp]; exact hC.upd hN (by rw [← hsl.2]; exact (hC.hbG hN).ctl h_6 hsl.1) ((hC.hhG hN).note (B := (nu3_22, wo3_22, sc3_22, me3_22, us3_22, la3_22, ct, gv, kd, sl)) ((hC.hbG hN).ext hc_22)) ⟨ht, hlt⟩ hck hC.hx⟩
  · skip
    have h_6 := if0 c_6
    refine i_aload_n (j := 0) (q := 10) C rfl rfl dX7_rank_9 rfl ?_
    refine i_callV (wr := [bkW ab (nu, wo, sc, me, us, la, ct, gv, kd, sl), paW ap ak (nx, pc), kbW ak Bs]) (As := []) (st := []) (i := 0) (j := 0) (q := 13) C (c_X7_refuseBad K l (ab) (ax) (ap) (al) (ao) (((pck t : Nat) : Int)) (ck) (ba) (no) (fu) ) gX7_rank_X7_refuseBad rfl hd_X7_refuseBad ⟨Nat.le_of_ble_eq_true rfl, Nat.le_of_ble_eq_true rfl⟩ ⟨rfl, rfl⟩ ⟨Nat.le_of_ble_eq_true rfl, Nat.le_of_ble_eq_true rfl⟩ (permBy [0, 1, 2, 3] (by decide) rfl rfl) rfl rfl rfl rfl (Nat.le_of_ble_eq_true rfl) dX7_rank_10 rfl (fun v w hq => ?_)
    obtain ⟨rfl, rfl⟩ := hq
    show V X 0 0 13 [(0, vP (ax 0)), (1, vI x)] [vI (-2)] [boW ax ab ap al ao (((pck t : Nat) : Int), ck, ba + 1, no, fu), bkW ab (nu, wo, sc, me, us, la, ct, gv, kd, sl), paW ap ak (nx, pc), kbW ak Bs]
    refine i_iret C hR dX7_rank_13 ?_
    have hsp : (sp_rank x (o, h, t, ck, tx, ba, no, fu)) = (-2, (o, h, t, ck, tx, ba + 1, no, fu)) := by
      simp only [sp_rank]
      rw [if_neg h_6]
      rfl
    exact ⟨ba + 1, nx, pc, Bs, kd, by rw [hsp], rfl, by rw [hsp]; exact hC.bad hN⟩

theorem lk_X7_slip_19 : Cond.fieldLink RX7 19 (TX7 1).1 (TX7 1).2.1 (TX7 1).2.2.1 ∈ wsX7_slip := List.mem_of_getElem? (i := 1) rfl
theorem hi_X7_slip_X7 : ∀ w ∈ u_ws RX7 TX7 9, w ∈ wsX7_slip := by decide +kernel
theorem lk_X7_slip_10 : Cond.fieldLink RX7 10 (TX7 0).1 (TX7 0).2.1 (TX7 0).2.2.1 ∈ wsX7_slip := List.mem_of_getElem? (i := 2) rfl
theorem lk_X7_slip_133 : Cond.fieldLink RX7 133 (TX0 9).1 (TX0 9).2.1 (TX0 9).2.2.1 ∈ wsX7_slip := List.mem_of_getElem? (i := 3) rfl
theorem hi_X7_slip_X0 : ∀ w ∈ u_ws RX0 TX0 10, w ∈ wsX7_slip := by decide +kernel
set_option maxHeartbeats 400000 in
set_option maxRecDepth 100000 in
theorem c_X7_slip (K : KT) (l : Launch) (ax : Nat → Nat) (ap : Nat → Nat) (al : Nat → Nat) (ao : Nat → Nat) (ck : Int) (ba : Int) (no : Int) (fu : Int) (t : List Int) (ab : Nat → Nat) (nu : Int → Int) (wo : Int → Int) (sc : Int → Int) (me : Int → Int) (us : Int → Int) (la : Int → Int) (ct : Int) (gv : Int) (kd : Int) (sl : Int) (ak : Int → Nat → Nat) (nx : Int) (pc : Int) (Bs : Int → Bk) (by_ : Int → Int) (ve : Int → Int) (ow : Int → Int) (fi : Int → Int) (se : Int → Int) (le : Int) (oc : Int) (pl : Int) (fa : Int) (so : Int → Int) (ra : Int → Int) (lc : Int) (o : Bo) (h : List Bo) (tx : List Int) (N : Int) (x : Int) (hC : okC N nu wo sc me us la ct gv kd sl Bs nx pc ((pck t : Nat) : Int) ck ba no fu by_ le (o, h, t, ck, tx, ba, no, fu)) (hN : N < 512) (hx : rI x) : Mt K l yX7_slip wsX7_slip ({ frames := 3, cells := 0, slots := 0, locals := 67 }) [vP (ax 0), vI x] [boW ax ab ap al ao (((pck t : Nat) : Int), ck, ba, no, fu), bkW ab (nu, wo, sc, me, us, la, ct, gv, kd, sl), paW ap ak (nx, pc), kbW ak Bs] 0 0 (fun v w => ∃ ba3 : Int, ∃ nx3 : Int, ∃ pc3 : Int, ∃ Bs3 : Int → Bk, ∃ sl3 : Int, v = some (vI ((sp_slip x (o, h, t, ck, tx, ba, no, fu)).1)) ∧ w = [boW ax ab ap al ao (((pck t : Nat) : Int), ck, ba3, no, fu), bkW ab (nu, wo, sc, me, us, la, ct, gv, kd, sl3), paW ap ak (nx3, pc3), kbW ak Bs3] ∧ (okC (N + 1) nu wo sc me us la ct gv kd sl3 Bs3 nx3 pc3 ((pck t : Nat) : Int) ck ba3 no fu by_ le (sp_slip x (o, h, t, ck, tx, ba, no, fu)).2)) := by
  refine Mt.of (own := RX7) (cc := cX7_slip) (maxL := 3) (ret := (some .int)) (lv0 := [(0, vP (ax 0)), (1, vI x)]) (by decide) rfl rfl (Nat.le_of_ble_eq_true rfl) rfl (fun X C hR hNm => ?_)
  have hb := hC.hb
  have hct := hb.xct
  have hgv := hb.xgv
  have hkd := hb.xkd
  have hsl := hb.xsl
  obtain ⟨ht, hlt⟩ := hC.ht
  have hNN := hC.hN
  have hhx := hC.hh.1
  have hhp := hC.hh.2.1
  have hhl := hC.hh.2.2.1
  have hck := hC.hck
  have hTx := hC.hx
  refine i_iload_n (j := 1) (q := 1) C rfl rfl dX7_slip_0 rfl ?_
  refine i_iconst (q := 2) C dX7_slip_1 rfl ?_
  refine i_sipush (q := 5) C (by decide) dX7_slip_2 rfl ?_
  refine i_callS (wr := [boW ax ab ap al ao (((pck t : Nat) : Int), ck, ba, no, fu), bkW ab (nu, wo, sc, me, us, la, ct, gv, kd, sl), paW ap ak (nx, pc), kbW ak Bs]) (As := [vI x, vI 0, vI 1000]) (st := []) (q := 8) C (c_X7_isWithin K l (x) (0) (1000) (by first | assumption | omega) (by first | assumption | omega) (by first | assumption | omega)) gX7_slip_X7_isWithin rfl hd_X7_isWithin ⟨Nat.le_of_ble_eq_true rfl, Nat.le_of_ble_eq_true rfl⟩ ⟨rfl, rfl⟩ ⟨Nat.le_of_ble_eq_true rfl, Nat.le_of_ble_eq_true rfl⟩ (permBy [0, 1, 2, 3] (by decide) rfl rfl) rfl (Nat.le_of_ble_eq_true rfl) dX7_slip_5 rfl (fun v w hq => ?_)
  obtain ⟨rfl, rfl⟩ := hq
  show V X 0 0 8 [(0, vP (ax 0)), (1, vI x)] [vI (if 0 ≤ x ∧ x ≤ 1000 then 1 else 0)] [boW ax ab ap al ao (((pck t : Nat) : Int), ck, ba, no, fu), bkW ab (nu, wo, sc, me, us, la, ct, gv, kd, sl), paW ap ak (nx, pc), kbW ak Bs]
  refine i_if_ne (tgt := 16) (q := 11) C (if01) dX7_slip_8 (by decide) rfl (fun c_8 => ?_) (fun c_8 => ?_)
  · skip
    have h_8 := ifn0 c_8
    refine i_aload_n (j := 0) (q := 17) C rfl rfl dX7_slip_16 rfl ?_
    refine i_get (i := 0) (j := 0) (f := 1) (q := 20) C rfl rfl rfl hi_X7_slip_X7 (by decide) lk_X7_slip_19 rfl dX7_slip_17 rfl ?_
    refine i_aload_n (j := 0) (q := 21) C rfl rfl dX7_slip_20 rfl ?_
    refine i_get (i := 0) (j := 0) (f := 0) (q := 24) C rfl rfl rfl hi_X7_slip_X7 (by decide) lk_X7_slip_10 rfl dX7_slip_21 rfl ?_
    refine i_callV (wr := [boW ax ab ap al ao (((pck t : Nat) : Int), ck, ba, no, fu)]) (As := [vP (ab 0)]) (st := []) (i := 0) (j := 0) (q := 27) C (c_X4_remember K l (ap) (ak) (nx) (pc) (Bs) (ab) (nu) (wo) (sc) (me) (us) (la) (ct) (gv) (kd) (sl) (by omega) (by omega) (by omega)) gX7_slip_X4_remember rfl hd_X4_remember ⟨Nat.le_of_ble_eq_true rfl, Nat.le_of_ble_eq_true rfl⟩ ⟨rfl, rfl⟩ ⟨Nat.le_of_ble_eq_true rfl, Nat.le_of_ble_eq_true rfl⟩ (permBy [2, 1, 3, 0] (by decide) rfl rfl) rfl rfl rfl rfl (Nat.le_of_ble_eq_true rfl) dX7_slip_24 rfl (fun v w hq => ?_)
    obtain ⟨nu3_24, wo3_24, sc3_24, me3_24, us3_24, la3_24, rfl, rfl, hc_24⟩ := hq
    show V X 0 0 27 [(0, vP (ax 0)), (1, vI x)] [] [paW ap ak (if nx + 1 < 12 then nx + 1 else 0, min (pc + 1) 12), bkW ab (nu, wo, sc, me, us, la, ct, gv, kd, sl), kbW ak (up Bs nx (nu3_24, wo3_24, sc3_24, me3_24, us3_24, la3_24, ct, gv, kd, sl)), boW ax ab ap al ao (((pck t : Nat) : Int), ck, ba, no, fu)]
    refine V.perm (cs' := [boW ax ab ap al ao (((pck t : Nat) : Int), ck, ba, no, fu), bkW ab (nu, wo, sc, me, us, la, ct, gv, kd, sl), paW ap ak (if nx + 1 < 12 then nx + 1 else 0, min (pc + 1) 12), kbW ak (up Bs nx (nu3_24, wo3_24, sc3_24, me3_24, us3_24, la3_24, ct, gv, kd, sl))]) (permBy [3, 1, 0, 2] (by decide) rfl rfl) ?_
    refine i_aload_n (j := 0) (q := 28) C rfl rfl dX7_slip_27 rfl ?_
    refine i_get (i := 0) (j := 0) (f := 0) (q := 31) C rfl rfl rfl hi_X7_slip_X7 (by decide) lk_X7_slip_10 rfl dX7_slip_28 rfl ?_
    refine i_get (i := 1) (j := 0) (f := 9) (q := 34) C rfl rfl rfl hi_X7_slip_X0 (by decide) lk_X7_slip_133 rfl dX7_slip_31 rfl ?_
    refine i_istore_n (q := 35) (lv' := [(2, vI sl), (0, vP (ax 0)), (1, vI x)]) C rfl (by decide) rfl dX7_slip_34 rfl ?_
    refine i_aload_n (j := 1) (q := 36) C rfl rfl dX7_slip_35 rfl ?_
    refine i_get (i := 0) (j := 0) (f := 0) (q := 39) C rfl rfl rfl hi_X7_slip_X7 (by decide) lk_X7_slip_10 rfl dX7_slip_36 rfl ?_
    refine i_iload_n (j := 2) (q := 40) C rfl rfl dX7_slip_39 rfl ?_
    refine i_putI (i := 1) (j := 0) (f := 9) (q := 43) (cs' := [boW ax ab ap al ao (((pck t : Nat) : Int), ck, ba, no, fu), bkW ab (nu, wo, sc, me, us, la, ct, gv, kd, x), paW ap ak (if nx + 1 < 12 then nx + 1 else 0, min (pc + 1) 12), kbW ak (up Bs nx (nu3_24, wo3_24, sc3_24, me3_24, us3_24, la3_24, ct, gv, kd, sl))]) C rfl rfl rfl hi_X7_slip_X0 tyX0 tyX0_ok nmX0 (by decide) (Nat.le_of_ble_eq_true rfl) lk_X7_slip_133 rfl rfl dX7_slip_40 rfl rfl ?_
    refine i_iload_n (j := 0) (q := 44) C rfl rfl dX7_slip_43 rfl ?_
    refine i_iret C hR dX7_slip_44 ?_
    have hsp : (sp_slip x (o, h, t, ck, tx, ba, no, fu)) = (sl, ((o.1, o.2.1, o.2.2.1, x), noteH h o, t, ck, tx, ba, no, fu)) := by
      simp only [sp_slip]
      rw [if_pos h_8, ← hsl.2]
    exact ⟨ba, if nx + 1 < 12 then nx + 1 else 0, min (pc + 1) 12, up Bs nx (nu3_24, wo3_24, sc3_24, me3_24, us3_24, la3_24, ct, gv, kd, sl), x, by rw [hsp], rfl, by rw [hsp]; exact hC.upd hN (by rw [← hkd.2]; exact (hC.hbG hN).ctl hkd.1 h_8) ((hC.hhG hN).note (B := (nu3_24, wo3_24, sc3_24, me3_24, us3_24, la3_24, ct, gv, kd, sl)) ((hC.hbG hN).ext hc_24)) ⟨ht, hlt⟩ hck hC.hx⟩
  · skip
    have h_8 := if0 c_8
    refine i_aload_n (j := 0) (q := 12) C rfl rfl dX7_slip_11 rfl ?_
    refine i_callV (wr := [bkW ab (nu, wo, sc, me, us, la, ct, gv, kd, sl), paW ap ak (nx, pc), kbW ak Bs]) (As := []) (st := []) (i := 0) (j := 0) (q := 15) C (c_X7_refuseBad K l (ab) (ax) (ap) (al) (ao) (((pck t : Nat) : Int)) (ck) (ba) (no) (fu) ) gX7_slip_X7_refuseBad rfl hd_X7_refuseBad ⟨Nat.le_of_ble_eq_true rfl, Nat.le_of_ble_eq_true rfl⟩ ⟨rfl, rfl⟩ ⟨Nat.le_of_ble_eq_true rfl, Nat.le_of_ble_eq_true rfl⟩ (permBy [0, 1, 2, 3] (by decide) rfl rfl) rfl rfl rfl rfl (Nat.le_of_ble_eq_true rfl) dX7_slip_12 rfl (fun v w hq => ?_)
    obtain ⟨rfl, rfl⟩ := hq
    show V X 0 0 15 [(0, vP (ax 0)), (1, vI x)] [vI (-2)] [boW ax ab ap al ao (((pck t : Nat) : Int), ck, ba + 1, no, fu), bkW ab (nu, wo, sc, me, us, la, ct, gv, kd, sl), paW ap ak (nx, pc), kbW ak Bs]
    refine i_iret C hR dX7_slip_15 ?_
    have hsp : (sp_slip x (o, h, t, ck, tx, ba, no, fu)) = (-2, (o, h, t, ck, tx, ba + 1, no, fu)) := by
      simp only [sp_slip]
      rw [if_neg h_8]
      rfl
    exact ⟨ba + 1, nx, pc, Bs, sl, by rw [hsp], rfl, by rw [hsp]; exact hC.bad hN⟩

theorem lk_X7_fades_19 : Cond.fieldLink RX7 19 (TX7 1).1 (TX7 1).2.1 (TX7 1).2.2.1 ∈ wsX7_fades := List.mem_of_getElem? (i := 1) rfl
theorem hi_X7_fades_X7 : ∀ w ∈ u_ws RX7 TX7 9, w ∈ wsX7_fades := by decide +kernel
theorem lk_X7_fades_10 : Cond.fieldLink RX7 10 (TX7 0).1 (TX7 0).2.1 (TX7 0).2.2.1 ∈ wsX7_fades := List.mem_of_getElem? (i := 2) rfl
theorem hd_X0_halveScores : yX0_halveScores.cls = RX0 ∧ yX0_halveScores.cls ≠ "java/lang/invoke/MethodHandle" ∧ yX0_halveScores.cls ≠ "java/lang/invoke/VarHandle" ∧ (parseMethodDescriptor yX0_halveScores.desc).map (fun d => d.parameters.length) = some 0 := by decide +kernel
theorem lk_X7_fades_139 : Cond.fieldLink RX7 139 (TX0 6).1 (TX0 6).2.1 (TX0 6).2.2.1 ∈ wsX7_fades := List.mem_of_getElem? (i := 3) rfl
theorem hi_X7_fades_X0 : ∀ w ∈ u_ws RX0 TX0 10, w ∈ wsX7_fades := by decide +kernel
set_option maxHeartbeats 400000 in
set_option maxRecDepth 100000 in
theorem c_X7_fades (K : KT) (l : Launch) (ax : Nat → Nat) (ap : Nat → Nat) (al : Nat → Nat) (ao : Nat → Nat) (ck : Int) (ba : Int) (no : Int) (fu : Int) (t : List Int) (ab : Nat → Nat) (nu : Int → Int) (wo : Int → Int) (sc : Int → Int) (me : Int → Int) (us : Int → Int) (la : Int → Int) (ct : Int) (gv : Int) (kd : Int) (sl : Int) (ak : Int → Nat → Nat) (nx : Int) (pc : Int) (Bs : Int → Bk) (by_ : Int → Int) (ve : Int → Int) (ow : Int → Int) (fi : Int → Int) (se : Int → Int) (le : Int) (oc : Int) (pl : Int) (fa : Int) (so : Int → Int) (ra : Int → Int) (lc : Int) (o : Bo) (h : List Bo) (tx : List Int) (N : Int) (hC : okC N nu wo sc me us la ct gv kd sl Bs nx pc ((pck t : Nat) : Int) ck ba no fu by_ le (o, h, t, ck, tx, ba, no, fu)) (hN : N < 512) : Mt K l yX7_fades wsX7_fades ({ frames := 3, cells := 0, slots := 0, locals := 67 }) [vP (ax 0)] [boW ax ab ap al ao (((pck t : Nat) : Int), ck, ba, no, fu), bkW ab (nu, wo, sc, me, us, la, ct, gv, kd, sl), paW ap ak (nx, pc), kbW ak Bs] 0 0 (fun v w => ∃ nx3 : Int, ∃ pc3 : Int, ∃ Bs3 : Int → Bk, ∃ sc3 : Int → Int, v = some (vI ((sp_fades (o, h, t, ck, tx, ba, no, fu)).1)) ∧ w = [boW ax ab ap al ao (((pck t : Nat) : Int), ck, ba, no, fu), bkW ab (nu, wo, sc3, me, us, la, ct, gv, kd, sl), paW ap ak (nx3, pc3), kbW ak Bs3] ∧ (okC (N + 1) nu wo sc3 me us la ct gv kd sl Bs3 nx3 pc3 ((pck t : Nat) : Int) ck ba no fu by_ le (sp_fades (o, h, t, ck, tx, ba, no, fu)).2)) := by
  refine Mt.of (own := RX7) (cc := cX7_fades) (maxL := 1) (ret := (some .int)) (lv0 := [(0, vP (ax 0))]) (by decide) rfl rfl (Nat.le_of_ble_eq_true rfl) rfl (fun X C hR hNm => ?_)
  have hb := hC.hb
  have hct := hb.xct
  have hgv := hb.xgv
  have hkd := hb.xkd
  have hsl := hb.xsl
  obtain ⟨ht, hlt⟩ := hC.ht
  have hNN := hC.hN
  have hhx := hC.hh.1
  have hhp := hC.hh.2.1
  have hhl := hC.hh.2.2.1
  have hck := hC.hck
  have hTx := hC.hx
  refine i_aload_n (j := 0) (q := 1) C rfl rfl dX7_fades_0 rfl ?_
  refine i_get (i := 0) (j := 0) (f := 1) (q := 4) C rfl rfl rfl hi_X7_fades_X7 (by decide) lk_X7_fades_19 rfl dX7_fades_1 rfl ?_
  refine i_aload_n (j := 0) (q := 5) C rfl rfl dX7_fades_4 rfl ?_
  refine i_get (i := 0) (j := 0) (f := 0) (q := 8) C rfl rfl rfl hi_X7_fades_X7 (by decide) lk_X7_fades_10 rfl dX7_fades_5 rfl ?_
  refine i_callV (wr := [boW ax ab ap al ao (((pck t : Nat) : Int), ck, ba, no, fu)]) (As := [vP (ab 0)]) (st := []) (i := 0) (j := 0) (q := 11) C (c_X4_remember K l (ap) (ak) (nx) (pc) (Bs) (ab) (nu) (wo) (sc) (me) (us) (la) (ct) (gv) (kd) (sl) (by omega) (by omega) (by omega)) gX7_fades_X4_remember rfl hd_X4_remember ⟨Nat.le_of_ble_eq_true rfl, Nat.le_of_ble_eq_true rfl⟩ ⟨rfl, rfl⟩ ⟨Nat.le_of_ble_eq_true rfl, Nat.le_of_ble_eq_true rfl⟩ (permBy [2, 1, 3, 0] (by decide) rfl rfl) rfl rfl rfl rfl (Nat.le_of_ble_eq_true rfl) dX7_fades_8 rfl (fun v w hq => ?_)
  obtain ⟨nu3_8, wo3_8, sc3_8, me3_8, us3_8, la3_8, rfl, rfl, hc_8⟩ := hq
  show V X 0 0 11 [(0, vP (ax 0))] [] [paW ap ak (if nx + 1 < 12 then nx + 1 else 0, min (pc + 1) 12), bkW ab (nu, wo, sc, me, us, la, ct, gv, kd, sl), kbW ak (up Bs nx (nu3_8, wo3_8, sc3_8, me3_8, us3_8, la3_8, ct, gv, kd, sl)), boW ax ab ap al ao (((pck t : Nat) : Int), ck, ba, no, fu)]
  refine V.perm (cs' := [boW ax ab ap al ao (((pck t : Nat) : Int), ck, ba, no, fu), bkW ab (nu, wo, sc, me, us, la, ct, gv, kd, sl), paW ap ak (if nx + 1 < 12 then nx + 1 else 0, min (pc + 1) 12), kbW ak (up Bs nx (nu3_8, wo3_8, sc3_8, me3_8, us3_8, la3_8, ct, gv, kd, sl))]) (permBy [3, 1, 0, 2] (by decide) rfl rfl) ?_
  refine i_aload_n (j := 0) (q := 12) C rfl rfl dX7_fades_11 rfl ?_
  refine i_get (i := 0) (j := 0) (f := 0) (q := 15) C rfl rfl rfl hi_X7_fades_X7 (by decide) lk_X7_fades_10 rfl dX7_fades_12 rfl ?_
  refine i_callV (wr := [boW ax ab ap al ao (((pck t : Nat) : Int), ck, ba, no, fu), paW ap ak (if nx + 1 < 12 then nx + 1 else 0, min (pc + 1) 12), kbW ak (up Bs nx (nu3_8, wo3_8, sc3_8, me3_8, us3_8, la3_8, ct, gv, kd, sl))]) (As := []) (st := []) (i := 0) (j := 0) (q := 18) C (c_X0_halveScores K l (ab) (nu) (wo) (sc) (me) (us) (la) (ct) (gv) (kd) (sl) (by omega) (fun j g0 g1 => (hb.xsc j g0 g1).1)) gX7_fades_X0_halveScores rfl hd_X0_halveScores ⟨Nat.le_of_ble_eq_true rfl, Nat.le_of_ble_eq_true rfl⟩ ⟨rfl, rfl⟩ ⟨Nat.le_of_ble_eq_true rfl, Nat.le_of_ble_eq_true rfl⟩ (permBy [1, 0, 2, 3] (by decide) rfl rfl) rfl rfl rfl rfl (Nat.le_of_ble_eq_true rfl) dX7_fades_15 rfl (fun v w hq => ?_)
  obtain ⟨sc3_15, rfl, rfl, hc_15⟩ := hq
  show V X 0 0 18 [(0, vP (ax 0))] [] [bkW ab (nu, wo, sc3_15, me, us, la, ct, gv, kd, sl), boW ax ab ap al ao (((pck t : Nat) : Int), ck, ba, no, fu), paW ap ak (if nx + 1 < 12 then nx + 1 else 0, min (pc + 1) 12), kbW ak (up Bs nx (nu3_8, wo3_8, sc3_8, me3_8, us3_8, la3_8, ct, gv, kd, sl))]
  refine V.perm (cs' := [boW ax ab ap al ao (((pck t : Nat) : Int), ck, ba, no, fu), bkW ab (nu, wo, sc3_15, me, us, la, ct, gv, kd, sl), paW ap ak (if nx + 1 < 12 then nx + 1 else 0, min (pc + 1) 12), kbW ak (up Bs nx (nu3_8, wo3_8, sc3_8, me3_8, us3_8, la3_8, ct, gv, kd, sl))]) (permBy [1, 0, 2, 3] (by decide) rfl rfl) ?_
  refine i_aload_n (j := 0) (q := 19) C rfl rfl dX7_fades_18 rfl ?_
  refine i_get (i := 0) (j := 0) (f := 0) (q := 22) C rfl rfl rfl hi_X7_fades_X7 (by decide) lk_X7_fades_10 rfl dX7_fades_19 rfl ?_
  refine i_get (i := 1) (j := 0) (f := 6) (q := 25) C rfl rfl rfl hi_X7_fades_X0 (by decide) lk_X7_fades_139 rfl dX7_fades_22 rfl ?_
  refine i_iret C hR dX7_fades_25 ?_
  have hsp : (sp_fades (o, h, t, ck, tx, ba, no, fu)) = (ct, (halfB o, noteH h o, t, ck, tx, ba, no, fu)) := by
    simp only [sp_fades]
    rw [← hct.2]
  exact ⟨if nx + 1 < 12 then nx + 1 else 0, min (pc + 1) 12, up Bs nx (nu3_8, wo3_8, sc3_8, me3_8, us3_8, la3_8, ct, gv, kd, sl), sc3_15, by rw [hsp], rfl, by rw [hsp]; exact hC.upd hN ((hC.hbG hN).half hc_15) ((hC.hhG hN).note (B := (nu3_8, wo3_8, sc3_8, me3_8, us3_8, la3_8, ct, gv, kd, sl)) ((hC.hbG hN).ext hc_8)) ⟨ht, hlt⟩ hck hC.hx⟩

theorem lk_X7_undo_19 : Cond.fieldLink RX7 19 (TX7 1).1 (TX7 1).2.1 (TX7 1).2.2.1 ∈ wsX7_undo := List.mem_of_getElem? (i := 1) rfl
theorem hi_X7_undo_X7 : ∀ w ∈ u_ws RX7 TX7 9, w ∈ wsX7_undo := by decide +kernel
theorem lk_X7_undo_159 : Cond.fieldLink RX7 159 (TX4 2).1 (TX4 2).2.1 (TX4 2).2.2.1 ∈ wsX7_undo := List.mem_of_getElem? (i := 2) rfl
theorem hi_X7_undo_X4 : ∀ w ∈ u_ws RX4 TX4 3, w ∈ wsX7_undo := by decide +kernel
theorem lk_X7_undo_10 : Cond.fieldLink RX7 10 (TX7 0).1 (TX7 0).2.1 (TX7 0).2.2.1 ∈ wsX7_undo := List.mem_of_getElem? (i := 3) rfl
theorem hd_X4_bringBack : yX4_bringBack.cls = RX4 ∧ yX4_bringBack.cls ≠ "java/lang/invoke/MethodHandle" ∧ yX4_bringBack.cls ≠ "java/lang/invoke/VarHandle" ∧ (parseMethodDescriptor yX4_bringBack.desc).map (fun d => d.parameters.length) = some 1 := by decide +kernel
set_option maxHeartbeats 400000 in
set_option maxRecDepth 100000 in
theorem c_X7_undo (K : KT) (l : Launch) (ax : Nat → Nat) (ap : Nat → Nat) (al : Nat → Nat) (ao : Nat → Nat) (ck : Int) (ba : Int) (no : Int) (fu : Int) (t : List Int) (ab : Nat → Nat) (nu : Int → Int) (wo : Int → Int) (sc : Int → Int) (me : Int → Int) (us : Int → Int) (la : Int → Int) (ct : Int) (gv : Int) (kd : Int) (sl : Int) (ak : Int → Nat → Nat) (nx : Int) (pc : Int) (Bs : Int → Bk) (by_ : Int → Int) (ve : Int → Int) (ow : Int → Int) (fi : Int → Int) (se : Int → Int) (le : Int) (oc : Int) (pl : Int) (fa : Int) (so : Int → Int) (ra : Int → Int) (lc : Int) (o : Bo) (h : List Bo) (tx : List Int) (N : Int) (hC : okC N nu wo sc me us la ct gv kd sl Bs nx pc ((pck t : Nat) : Int) ck ba no fu by_ le (o, h, t, ck, tx, ba, no, fu)) (hN : N < 512) : Mt K l yX7_undo wsX7_undo ({ frames := 3, cells := 0, slots := 0, locals := 68 }) [vP (ax 0)] [boW ax ab ap al ao (((pck t : Nat) : Int), ck, ba, no, fu), bkW ab (nu, wo, sc, me, us, la, ct, gv, kd, sl), paW ap ak (nx, pc), kbW ak Bs] 0 0 (fun v w => ∃ no3 : Int, ∃ nx3 : Int, ∃ pc3 : Int, ∃ Bs3 : Int → Bk, ∃ nu3 : Int → Int, ∃ wo3 : Int → Int, ∃ sc3 : Int → Int, ∃ me3 : Int → Int, ∃ us3 : Int → Int, ∃ la3 : Int → Int, ∃ ct3 : Int, ∃ gv3 : Int, ∃ kd3 : Int, ∃ sl3 : Int, v = some (vI ((sp_undo (o, h, t, ck, tx, ba, no, fu)).1)) ∧ w = [boW ax ab ap al ao (((pck t : Nat) : Int), ck, ba, no3, fu), bkW ab (nu3, wo3, sc3, me3, us3, la3, ct3, gv3, kd3, sl3), paW ap ak (nx3, pc3), kbW ak Bs3] ∧ (okC (N + 1) nu3 wo3 sc3 me3 us3 la3 ct3 gv3 kd3 sl3 Bs3 nx3 pc3 ((pck t : Nat) : Int) ck ba no3 fu by_ le (sp_undo (o, h, t, ck, tx, ba, no, fu)).2)) := by
  refine Mt.of (own := RX7) (cc := cX7_undo) (maxL := 1) (ret := (some .int)) (lv0 := [(0, vP (ax 0))]) (by decide) rfl rfl (Nat.le_of_ble_eq_true rfl) rfl (fun X C hR hNm => ?_)
  have hb := hC.hb
  have hct := hb.xct
  have hgv := hb.xgv
  have hkd := hb.xkd
  have hsl := hb.xsl
  obtain ⟨ht, hlt⟩ := hC.ht
  have hNN := hC.hN
  have hhx := hC.hh.1
  have hhp := hC.hh.2.1
  have hhl := hC.hh.2.2.1
  have hck := hC.hck
  have hTx := hC.hx
  refine i_aload_n (j := 0) (q := 1) C rfl rfl dX7_undo_0 rfl ?_
  refine i_get (i := 0) (j := 0) (f := 1) (q := 4) C rfl rfl rfl hi_X7_undo_X7 (by decide) lk_X7_undo_19 rfl dX7_undo_1 rfl ?_
  refine i_get (i := 2) (j := 0) (f := 2) (q := 7) C rfl rfl rfl hi_X7_undo_X4 (by decide) lk_X7_undo_159 rfl dX7_undo_4 rfl ?_
  refine i_if_ne (tgt := 15) (q := 10) C (by omega) dX7_undo_7 (by decide) rfl (fun c_7 => ?_) (fun c_7 => ?_)
  · skip
    refine i_aload_n (j := 0) (q := 16) C rfl rfl dX7_undo_15 rfl ?_
    refine i_get (i := 0) (j := 0) (f := 1) (q := 19) C rfl rfl rfl hi_X7_undo_X7 (by decide) lk_X7_undo_19 rfl dX7_undo_16 rfl ?_
    refine i_aload_n (j := 0) (q := 20) C rfl rfl dX7_undo_19 rfl ?_
    refine i_get (i := 0) (j := 0) (f := 0) (q := 23) C rfl rfl rfl hi_X7_undo_X7 (by decide) lk_X7_undo_10 rfl dX7_undo_20 rfl ?_
    refine i_callV (wr := [boW ax ab ap al ao (((pck t : Nat) : Int), ck, ba, no, fu)]) (As := [vP (ab 0)]) (st := []) (i := 0) (j := 0) (q := 26) C (c_X4_bringBack K l (ap) (ak) (nx) (pc) (Bs) (ab) (nu) (wo) (sc) (me) (us) (la) (ct) (gv) (kd) (sl) (by omega) (by omega) (by omega) (fun i g0 g1 g2 => by
      have hla := (hC.hh.last (by omega) o).1
      rw [← g2] at hla
      exact rpK_ct hla)) gX7_undo_X4_bringBack rfl hd_X4_bringBack ⟨Nat.le_of_ble_eq_true rfl, Nat.le_of_ble_eq_true rfl⟩ ⟨rfl, rfl⟩ ⟨Nat.le_of_ble_eq_true rfl, Nat.le_of_ble_eq_true rfl⟩ (permBy [2, 1, 3, 0] (by decide) rfl rfl) rfl rfl rfl rfl (Nat.le_of_ble_eq_true rfl) dX7_undo_23 rfl (fun v w hq => ?_)
    obtain ⟨nu3_23, wo3_23, sc3_23, me3_23, us3_23, la3_23, ct3_23, gv3_23, kd3_23, sl3_23, Bs3_23, rfl, rfl, hc_23⟩ := hq
    show V X 0 0 26 [(0, vP (ax 0))] [] [paW ap ak (if 0 < nx then nx - 1 else 11, pc - 1), bkW ab (nu3_23, wo3_23, sc3_23, me3_23, us3_23, la3_23, ct3_23, gv3_23, kd3_23, sl3_23), kbW ak Bs3_23, boW ax ab ap al ao (((pck t : Nat) : Int), ck, ba, no, fu)]
    refine V.perm (cs' := [boW ax ab ap al ao (((pck t : Nat) : Int), ck, ba, no, fu), bkW ab (nu3_23, wo3_23, sc3_23, me3_23, us3_23, la3_23, ct3_23, gv3_23, kd3_23, sl3_23), paW ap ak (if 0 < nx then nx - 1 else 11, pc - 1), kbW ak Bs3_23]) (permBy [3, 1, 0, 2] (by decide) rfl rfl) ?_
    refine i_aload_n (j := 0) (q := 27) C rfl rfl dX7_undo_26 rfl ?_
    refine i_get (i := 0) (j := 0) (f := 1) (q := 30) C rfl rfl rfl hi_X7_undo_X7 (by decide) lk_X7_undo_19 rfl dX7_undo_27 rfl ?_
    refine i_get (i := 2) (j := 0) (f := 2) (q := 33) C rfl rfl rfl hi_X7_undo_X4 (by decide) lk_X7_undo_159 rfl dX7_undo_30 rfl ?_
    refine i_iret C hR dX7_undo_33 ?_
    have hla := (hC.hhG hN).last (by omega) o
    obtain ⟨hB3, nu9, wo9, sc9, me9, us9, la9, hB9, hc9⟩ := hc_23
    rw [hB9] at hla
    subst hB3
    have hsp : (sp_undo (o, h, t, ck, tx, ba, no, fu)) = (pc - 1, (h.getD (h.length - 1) o, h.take (h.length - 1), t, ck, tx, ba, no, fu)) := by
      simp only [sp_undo]
      rw [if_neg (by omega), ← hhl]
    exact ⟨no, if 0 < nx then nx - 1 else 11, pc - 1, Bs3_23, nu3_23, wo3_23, sc3_23, me3_23, us3_23, la3_23, ct3_23, gv3_23, kd3_23, sl3_23, by rw [hsp], rfl, by rw [hsp]; exact hC.upd hN (rpB.ext hla.1 hc9) hla.2 ⟨ht, hlt⟩ hck hC.hx⟩
  · skip
    refine i_aload_n (j := 0) (q := 11) C rfl rfl dX7_undo_10 rfl ?_
    refine i_callV (wr := [bkW ab (nu, wo, sc, me, us, la, ct, gv, kd, sl), paW ap ak (nx, pc), kbW ak Bs]) (As := []) (st := []) (i := 0) (j := 0) (q := 14) C (c_X7_refuseNo K l (ab) (ax) (ap) (al) (ao) (((pck t : Nat) : Int)) (ck) (ba) (no) (fu) ) gX7_undo_X7_refuseNo rfl hd_X7_refuseNo ⟨Nat.le_of_ble_eq_true rfl, Nat.le_of_ble_eq_true rfl⟩ ⟨rfl, rfl⟩ ⟨Nat.le_of_ble_eq_true rfl, Nat.le_of_ble_eq_true rfl⟩ (permBy [0, 1, 2, 3] (by decide) rfl rfl) rfl rfl rfl rfl (Nat.le_of_ble_eq_true rfl) dX7_undo_11 rfl (fun v w hq => ?_)
    obtain ⟨rfl, rfl⟩ := hq
    show V X 0 0 14 [(0, vP (ax 0))] [vI (-3)] [boW ax ab ap al ao (((pck t : Nat) : Int), ck, ba, no + 1, fu), bkW ab (nu, wo, sc, me, us, la, ct, gv, kd, sl), paW ap ak (nx, pc), kbW ak Bs]
    refine i_iret C hR dX7_undo_14 ?_
    have hsp : (sp_undo (o, h, t, ck, tx, ba, no, fu)) = (-3, (o, h, t, ck, tx, ba, no + 1, fu)) := by
      simp only [sp_undo]
      rw [if_pos (by omega)]
      rfl
    exact ⟨no + 1, nx, pc, Bs, nu, wo, sc, me, us, la, ct, gv, kd, sl, by rw [hsp], rfl, by rw [hsp]; exact hC.noo hN⟩
