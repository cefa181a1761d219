set_option maxHeartbeats 400000 in
set_option maxRecDepth 100000 in
theorem c_J6_numberOfLeadingZeros_0f7a4 (K : KT) (l : Launch) (x : Int) (hx : rI x) : Mt K l yJ6_numberOfLeadingZeros_0f7a4 wsJ6_numberOfLeadingZeros_0f7a4 ({ frames := 0, cells := 0, slots := 0, locals := 0 }) [vI x] [] 0 0 (fun v w => v = some (vI (if x < 0 then 0 else 32 - bl x)) ∧ w = []) := by
  refine Mt.of (own := RJ6) (cc := cJ6_numberOfLeadingZeros_0f7a4) (maxL := 2) (ret := (some .int)) (lv0 := [(0, vI x)]) (by decide) rfl rfl (Nat.le_of_ble_eq_true rfl) rfl (fun X C hR hNm => ?_)
  refine i_iload_n (j := 0) (q := 1) C rfl rfl dJ6_numberOfLeadingZeros_0f7a4_0 rfl ?_
  refine i_if_gt (tgt := 15) (q := 4) C (by omega) dJ6_numberOfLeadingZeros_0f7a4_1 (by decide) rfl (fun c_1 => ?_) (fun c_1 => ?_)
  · skip
    refine i_bipush (q := 17) C (by decide) dJ6_numberOfLeadingZeros_0f7a4_15 rfl ?_
    refine i_istore_n (q := 18) (lv' := [(1, vI 31), (0, vI x)]) C rfl (by decide) rfl dJ6_numberOfLeadingZeros_0f7a4_17 rfl ?_
    refine i_iload_n (j := 1) (q := 19) C rfl rfl dJ6_numberOfLeadingZeros_0f7a4_18 rfl ?_
    refine i_ldcw (z := 65536) (q := 22) C (List.mem_of_getElem? (i := 1) rfl) dJ6_numberOfLeadingZeros_0f7a4_19 rfl ?_
    refine i_icmp_lt (tgt := 33) (q := 25) C (by omega) (by omega) dJ6_numberOfLeadingZeros_0f7a4_22 (by decide) rfl (fun c_22 => ?_) (fun c_22 => ?_)
    · skip
      refine i_iload_n (j := 1) (q := 34) C rfl rfl dJ6_numberOfLeadingZeros_0f7a4_33 rfl ?_
      refine i_sipush (q := 37) C (by decide) dJ6_numberOfLeadingZeros_0f7a4_34 rfl ?_
      refine i_icmp_lt (tgt := 48) (q := 40) C (by omega) (by omega) dJ6_numberOfLeadingZeros_0f7a4_37 (by decide) rfl (fun c_37 => ?_) (fun c_37 => ?_)
      · skip
        refine i_iload_n (j := 1) (q := 49) C rfl rfl dJ6_numberOfLeadingZeros_0f7a4_48 rfl ?_
        refine i_bipush (q := 51) C (by decide) dJ6_numberOfLeadingZeros_0f7a4_49 rfl ?_
        refine i_icmp_lt (tgt := 61) (q := 54) C (by omega) (by omega) dJ6_numberOfLeadingZeros_0f7a4_51 (by decide) rfl (fun c_51 => ?_) (fun c_51 => ?_)
        · skip
          refine i_iload_n (j := 1) (q := 62) C rfl rfl dJ6_numberOfLeadingZeros_0f7a4_61 rfl ?_
          refine i_iconst (q := 63) C dJ6_numberOfLeadingZeros_0f7a4_62 rfl ?_
          refine i_icmp_lt (tgt := 73) (q := 66) C (by omega) (by omega) dJ6_numberOfLeadingZeros_0f7a4_63 (by decide) rfl (fun c_63 => ?_) (fun c_63 => ?_)
          · skip
            refine i_iload_n (j := 0) (q := 74) C rfl rfl dJ6_numberOfLeadingZeros_0f7a4_73 rfl ?_
            refine i_iload_n (j := 1) (q := 75) C rfl rfl dJ6_numberOfLeadingZeros_0f7a4_74 rfl ?_
            refine i_iconst (q := 76) C dJ6_numberOfLeadingZeros_0f7a4_75 rfl ?_
            refine i_iushr (z := x / 2) (q := 77) C (zI_ush 1 (by omega) (by omega) (by decide)) dJ6_numberOfLeadingZeros_0f7a4_76 rfl ?_
            refine i_isub (q := 78) C dJ6_numberOfLeadingZeros_0f7a4_77 rfl ?_
            refine i_iret C hR dJ6_numberOfLeadingZeros_0f7a4_78 ?_
            exact ⟨by
              simp only [Option.some.injEq, Sum.inl.injEq]
              rw [if_neg (by omega)]
              by_cases hy : x / 2 = 0
              · rw [bl_lit (x := x) 0 (a := 1) (by decide) (by omega) (by omega)]; omega
              · rw [bl_lit (x := x) 1 (a := 2) (by decide) (by omega) (by omega)]; omega, rfl⟩
          · skip
            refine i_iinc (j := 0) (q := 69) (lv' := [(1, vI (31 + (-2))), (0, vI x)]) C rfl (by decide) rfl dJ6_numberOfLeadingZeros_0f7a4_66 rfl ?_
            refine i_iload_n (j := 1) (q := 70) C rfl rfl dJ6_numberOfLeadingZeros_0f7a4_69 rfl ?_
            refine i_iconst (q := 71) C dJ6_numberOfLeadingZeros_0f7a4_70 rfl ?_
            refine i_iushr (z := x / 4) (q := 72) C (zI_ush 2 (by omega) (by omega) (by decide)) dJ6_numberOfLeadingZeros_0f7a4_71 rfl ?_
            refine i_istore_n (q := 73) (lv' := [(0, vI (x / 4)), (1, vI (31 + (-2)))]) C rfl (by decide) rfl dJ6_numberOfLeadingZeros_0f7a4_72 rfl ?_
            refine i_iload_n (j := 1) (q := 74) C rfl rfl dJ6_numberOfLeadingZeros_0f7a4_73 rfl ?_
            refine i_iload_n (j := 0) (q := 75) C rfl rfl dJ6_numberOfLeadingZeros_0f7a4_74 rfl ?_
            refine i_iconst (q := 76) C dJ6_numberOfLeadingZeros_0f7a4_75 rfl ?_
            refine i_iushr (z := (x / 4) / 2) (q := 77) C (zI_ush 1 (by omega) (by omega) (by decide)) dJ6_numberOfLeadingZeros_0f7a4_76 rfl ?_
            refine i_isub (q := 78) C dJ6_numberOfLeadingZeros_0f7a4_77 rfl ?_
            refine i_iret C hR dJ6_numberOfLeadingZeros_0f7a4_78 ?_
            exact ⟨by
              simp only [Option.some.injEq, Sum.inl.injEq]
              rw [if_neg (by omega)]
              by_cases hy : (x / 4) / 2 = 0
              · rw [bl_lit (x := x) 2 (a := 4) (by decide) (by omega) (by omega)]; omega
              · rw [bl_lit (x := x) 3 (a := 8) (by decide) (by omega) (by omega)]; omega, rfl⟩
        · skip
          refine i_iinc (j := 0) (q := 57) (lv' := [(1, vI (31 + (-4))), (0, vI x)]) C rfl (by decide) rfl dJ6_numberOfLeadingZeros_0f7a4_54 rfl ?_
          refine i_iload_n (j := 1) (q := 58) C rfl rfl dJ6_numberOfLeadingZeros_0f7a4_57 rfl ?_
          refine i_iconst (q := 59) C dJ6_numberOfLeadingZeros_0f7a4_58 rfl ?_
          refine i_iushr (z := x / 16) (q := 60) C (zI_ush 4 (by omega) (by omega) (by decide)) dJ6_numberOfLeadingZeros_0f7a4_59 rfl ?_
          refine i_istore_n (q := 61) (lv' := [(0, vI (x / 16)), (1, vI (31 + (-4)))]) C rfl (by decide) rfl dJ6_numberOfLeadingZeros_0f7a4_60 rfl ?_
          refine i_iload_n (j := 0) (q := 62) C rfl rfl dJ6_numberOfLeadingZeros_0f7a4_61 rfl ?_
          refine i_iconst (q := 63) C dJ6_numberOfLeadingZeros_0f7a4_62 rfl ?_
          refine i_icmp_lt (tgt := 73) (q := 66) C (by omega) (by omega) dJ6_numberOfLeadingZeros_0f7a4_63 (by decide) rfl (fun c_63 => ?_) (fun c_63 => ?_)
          · skip
            refine i_iload_n (j := 1) (q := 74) C rfl rfl dJ6_numberOfLeadingZeros_0f7a4_73 rfl ?_
            refine i_iload_n (j := 0) (q := 75) C rfl rfl dJ6_numberOfLeadingZeros_0f7a4_74 rfl ?_
            refine i_iconst (q := 76) C dJ6_numberOfLeadingZeros_0f7a4_75 rfl ?_
            refine i_iushr (z := (x / 16) / 2) (q := 77) C (zI_ush 1 (by omega) (by omega) (by decide)) dJ6_numberOfLeadingZeros_0f7a4_76 rfl ?_
            refine i_isub (q := 78) C dJ6_numberOfLeadingZeros_0f7a4_77 rfl ?_
            refine i_iret C hR dJ6_numberOfLeadingZeros_0f7a4_78 ?_
            exact ⟨by
              simp only [Option.some.injEq, Sum.inl.injEq]
              rw [if_neg (by omega)]
              by_cases hy : (x / 16) / 2 = 0
              · rw [bl_lit (x := x) 4 (a := 16) (by decide) (by omega) (by omega)]; omega
              · rw [bl_lit (x := x) 5 (a := 32) (by decide) (by omega) (by omega)]; omega, rfl⟩
          · skip
            refine i_iinc (j := 1) (q := 69) (lv' := [(1, vI ((31 + (-4)) + (-2))), (0, vI (x / 16))]) C rfl (by decide) rfl dJ6_numberOfLeadingZeros_0f7a4_66 rfl ?_
            refine i_iload_n (j := 1) (q := 70) C rfl rfl dJ6_numberOfLeadingZeros_0f7a4_69 rfl ?_
            refine i_iconst (q := 71) C dJ6_numberOfLeadingZeros_0f7a4_70 rfl ?_
            refine i_iushr (z := (x / 16) / 4) (q := 72) C (zI_ush 2 (by omega) (by omega) (by decide)) dJ6_numberOfLeadingZeros_0f7a4_71 rfl ?_
            refine i_istore_n (q := 73) (lv' := [(0, vI ((x / 16) / 4)), (1, vI ((31 + (-4)) + (-2)))]) C rfl (by decide) rfl dJ6_numberOfLeadingZeros_0f7a4_72 rfl ?_
            refine i_iload_n (j := 1) (q := 74) C rfl rfl dJ6_numberOfLeadingZeros_0f7a4_73 rfl ?_
            refine i_iload_n (j := 0) (q := 75) C rfl rfl dJ6_numberOfLeadingZeros_0f7a4_74 rfl ?_
            refine i_iconst (q := 76) C dJ6_numberOfLeadingZeros_0f7a4_75 rfl ?_
            refine i_iushr (z := ((x / 16) / 4) / 2) (q := 77) C (zI_ush 1 (by omega) (by omega) (by decide)) dJ6_numberOfLeadingZeros_0f7a4_76 rfl ?_
            refine i_isub (q := 78) C dJ6_numberOfLeadingZeros_0f7a4_77 rfl ?_
            refine i_iret C hR dJ6_numberOfLeadingZeros_0f7a4_78 ?_
            exact ⟨by
              simp only [Option.some.injEq, Sum.inl.injEq]
              rw [if_neg (by omega)]
              by_cases hy : ((x / 16) / 4) / 2 = 0
              · rw [bl_lit (x := x) 6 (a := 64) (by decide) (by omega) (by omega)]; omega
              · rw [bl_lit (x := x) 7 (a := 128) (by decide) (by omega) (by omega)]; omega, rfl⟩
      · skip
        refine i_iinc (j := 0) (q := 43) (lv' := [(1, vI (31 + (-8))), (0, vI x)]) C rfl (by decide) rfl dJ6_numberOfLeadingZeros_0f7a4_40 rfl ?_
        refine i_iload_n (j := 1) (q := 44) C rfl rfl dJ6_numberOfLeadingZeros_0f7a4_43 rfl ?_
        refine i_bipush (q := 46) C (by decide) dJ6_numberOfLeadingZeros_0f7a4_44 rfl ?_
        refine i_iushr (z := x / 256) (q := 47) C (zI_ush 8 (by omega) (by omega) (by decide)) dJ6_numberOfLeadingZeros_0f7a4_46 rfl ?_
        refine i_istore_n (q := 48) (lv' := [(0, vI (x / 256)), (1, vI (31 + (-8)))]) C rfl (by decide) rfl dJ6_numberOfLeadingZeros_0f7a4_47 rfl ?_
        refine i_iload_n (j := 0) (q := 49) C rfl rfl dJ6_numberOfLeadingZeros_0f7a4_48 rfl ?_
        refine i_bipush (q := 51) C (by decide) dJ6_numberOfLeadingZeros_0f7a4_49 rfl ?_
        refine i_icmp_lt (tgt := 61) (q := 54) C (by omega) (by omega) dJ6_numberOfLeadingZeros_0f7a4_51 (by decide) rfl (fun c_51 => ?_) (fun c_51 => ?_)
        · skip
          refine i_iload_n (j := 0) (q := 62) C rfl rfl dJ6_numberOfLeadingZeros_0f7a4_61 rfl ?_
          refine i_iconst (q := 63) C dJ6_numberOfLeadingZeros_0f7a4_62 rfl ?_
          refine i_icmp_lt (tgt := 73) (q := 66) C (by omega) (by omega) dJ6_numberOfLeadingZeros_0f7a4_63 (by decide) rfl (fun c_63 => ?_) (fun c_63 => ?_)
          · skip
            refine i_iload_n (j := 1) (q := 74) C rfl rfl dJ6_numberOfLeadingZeros_0f7a4_73 rfl ?_
            refine i_iload_n (j := 0) (q := 75) C rfl rfl dJ6_numberOfLeadingZeros_0f7a4_74 rfl ?_
            refine i_iconst (q := 76) C dJ6_numberOfLeadingZeros_0f7a4_75 rfl ?_
            refine i_iushr (z := (x / 256) / 2) (q := 77) C (zI_ush 1 (by omega) (by omega) (by decide)) dJ6_numberOfLeadingZeros_0f7a4_76 rfl ?_
            refine i_isub (q := 78) C dJ6_numberOfLeadingZeros_0f7a4_77 rfl ?_
            refine i_iret C hR dJ6_numberOfLeadingZeros_0f7a4_78 ?_
            exact ⟨by
              simp only [Option.some.injEq, Sum.inl.injEq]
              rw [if_neg (by omega)]
              by_cases hy : (x / 256) / 2 = 0
              · rw [bl_lit (x := x) 8 (a := 256) (by decide) (by omega) (by omega)]; omega
              · rw [bl_lit (x := x) 9 (a := 512) (by decide) (by omega) (by omega)]; omega, rfl⟩
          · skip
            refine i_iinc (j := 1) (q := 69) (lv' := [(1, vI ((31 + (-8)) + (-2))), (0, vI (x / 256))]) C rfl (by decide) rfl dJ6_numberOfLeadingZeros_0f7a4_66 rfl ?_
            refine i_iload_n (j := 1) (q := 70) C rfl rfl dJ6_numberOfLeadingZeros_0f7a4_69 rfl ?_
            refine i_iconst (q := 71) C dJ6_numberOfLeadingZeros_0f7a4_70 rfl ?_
            refine i_iushr (z := (x / 256) / 4) (q := 72) C (zI_ush 2 (by omega) (by omega) (by decide)) dJ6_numberOfLeadingZeros_0f7a4_71 rfl ?_
            refine i_istore_n (q := 73) (lv' := [(0, vI ((x / 256) / 4)), (1, vI ((31 + (-8)) + (-2)))]) C rfl (by decide) rfl dJ6_numberOfLeadingZeros_0f7a4_72 rfl ?_
            refine i_iload_n (j := 1) (q := 74) C rfl rfl dJ6_numberOfLeadingZeros_0f7a4_73 rfl ?_
            refine i_iload_n (j := 0) (q := 75) C rfl rfl dJ6_numberOfLeadingZeros_0f7a4_74 rfl ?_
            refine i_iconst (q := 76) C dJ6_numberOfLeadingZeros_0f7a4_75 rfl ?_
            refine i_iushr (z := ((x / 256) / 4) / 2) (q := 77) C (zI_ush 1 (by omega) (by omega) (by decide)) dJ6_numberOfLeadingZeros_0f7a4_76 rfl ?_
            refine i_isub (q := 78) C dJ6_numberOfLeadingZeros_0f7a4_77 rfl ?_
            refine i_iret C hR dJ6_numberOfLeadingZeros_0f7a4_78 ?_
            exact ⟨by
              simp only [Option.some.injEq, Sum.inl.injEq]
              rw [if_neg (by omega)]
              by_cases hy : ((x / 256) / 4) / 2 = 0
              · rw [bl_lit (x := x) 10 (a := 1024) (by decide) (by omega) (by omega)]; omega
              · rw [bl_lit (x := x) 11 (a := 2048) (by decide) (by omega) (by omega)]; omega, rfl⟩
        · skip
          refine i_iinc (j := 1) (q := 57) (lv' := [(1, vI ((31 + (-8)) + (-4))), (0, vI (x / 256))]) C rfl (by decide) rfl dJ6_numberOfLeadingZeros_0f7a4_54 rfl ?_
          refine i_iload_n (j := 1) (q := 58) C rfl rfl dJ6_numberOfLeadingZeros_0f7a4_57 rfl ?_
          refine i_iconst (q := 59) C dJ6_numberOfLeadingZeros_0f7a4_58 rfl ?_
          refine i_iushr (z := (x / 256) / 16) (q := 60) C (zI_ush 4 (by omega) (by omega) (by decide)) dJ6_numberOfLeadingZeros_0f7a4_59 rfl ?_
          refine i_istore_n (q := 61) (lv' := [(0, vI ((x / 256) / 16)), (1, vI ((31 + (-8)) + (-4)))]) C rfl (by decide) rfl dJ6_numberOfLeadingZeros_0f7a4_60 rfl ?_
          refine i_iload_n (j := 0) (q := 62) C rfl rfl dJ6_numberOfLeadingZeros_0f7a4_61 rfl ?_
          refine i_iconst (q := 63) C dJ6_numberOfLeadingZeros_0f7a4_62 rfl ?_
          refine i_icmp_lt (tgt := 73) (q := 66) C (by omega) (by omega) dJ6_numberOfLeadingZeros_0f7a4_63 (by decide) rfl (fun c_63 => ?_) (fun c_63 => ?_)
          · skip
            refine i_iload_n (j := 1) (q := 74) C rfl rfl dJ6_numberOfLeadingZeros_0f7a4_73 rfl ?_
            refine i_iload_n (j := 0) (q := 75) C rfl rfl dJ6_numberOfLeadingZeros_0f7a4_74 rfl ?_
            refine i_iconst (q := 76) C dJ6_numberOfLeadingZeros_0f7a4_75 rfl ?_
            refine i_iushr (z := ((x / 256) / 16) / 2) (q := 77) C (zI_ush 1 (by omega) (by omega) (by decide)) dJ6_numberOfLeadingZeros_0f7a4_76 rfl ?_
            refine i_isub (q := 78) C dJ6_numberOfLeadingZeros_0f7a4_77 rfl ?_
            refine i_iret C hR dJ6_numberOfLeadingZeros_0f7a4_78 ?_
            exact ⟨by
              simp only [Option.some.injEq, Sum.inl.injEq]
              rw [if_neg (by omega)]
              by_cases hy : ((x / 256) / 16) / 2 = 0
              · rw [bl_lit (x := x) 12 (a := 4096) (by decide) (by omega) (by omega)]; omega
              · rw [bl_lit (x := x) 13 (a := 8192) (by decide) (by omega) (by omega)]; omega, rfl⟩
          · skip
            refine i_iinc (j := 1) (q := 69) (lv' := [(1, vI (((31 + (-8)) + (-4)) + (-2))), (0, vI ((x / 256) / 16))]) C rfl (by decide) rfl dJ6_numberOfLeadingZeros_0f7a4_66 rfl ?_
            refine i_iload_n (j := 1) (q := 70) C rfl rfl dJ6_numberOfLeadingZeros_0f7a4_69 rfl ?_
            refine i_iconst (q := 71) C dJ6_numberOfLeadingZeros_0f7a4_70 rfl ?_
            refine i_iushr (z := ((x / 256) / 16) / 4) (q := 72) C (zI_ush 2 (by omega) (by omega) (by decide)) dJ6_numberOfLeadingZeros_0f7a4_71 rfl ?_
            refine i_istore_n (q := 73) (lv' := [(0, vI (((x / 256) / 16) / 4)), (1, vI (((31 + (-8)) + (-4)) + (-2)))]) C rfl (by decide) rfl dJ6_numberOfLeadingZeros_0f7a4_72 rfl ?_
            refine i_iload_n (j := 1) (q := 74) C rfl rfl dJ6_numberOfLeadingZeros_0f7a4_73 rfl ?_
            refine i_iload_n (j := 0) (q := 75) C rfl rfl dJ6_numberOfLeadingZeros_0f7a4_74 rfl ?_
            refine i_iconst (q := 76) C dJ6_numberOfLeadingZeros_0f7a4_75 rfl ?_
            refine i_iushr (z := (((x / 256) / 16) / 4) / 2) (q := 77) C (zI_ush 1 (by omega) (by omega) (by decide)) dJ6_numberOfLeadingZeros_0f7a4_76 rfl ?_
            refine i_isub (q := 78) C dJ6_numberOfLeadingZeros_0f7a4_77 rfl ?_
            refine i_iret C hR dJ6_numberOfLeadingZeros_0f7a4_78 ?_
            exact ⟨by
              simp only [Option.some.injEq, Sum.inl.injEq]
              rw [if_neg (by omega)]
              by_cases hy : (((x / 256) / 16) / 4) / 2 = 0
              · rw [bl_lit (x := x) 14 (a := 16384) (by decide) (by omega) (by omega)]; omega
              · rw [bl_lit (x := x) 15 (a := 32768) (by decide) (by omega) (by omega)]; omega, rfl⟩
    · skip
      refine i_iinc (j := 0) (q := 28) (lv' := [(1, vI (31 + (-16))), (0, vI x)]) C rfl (by decide) rfl dJ6_numberOfLeadingZeros_0f7a4_25 rfl ?_
      refine i_iload_n (j := 1) (q := 29) C rfl rfl dJ6_numberOfLeadingZeros_0f7a4_28 rfl ?_
      refine i_bipush (q := 31) C (by decide) dJ6_numberOfLeadingZeros_0f7a4_29 rfl ?_
      refine i_iushr (z := x / 65536) (q := 32) C (zI_ush 16 (by omega) (by omega) (by decide)) dJ6_numberOfLeadingZeros_0f7a4_31 rfl ?_
      refine i_istore_n (q := 33) (lv' := [(0, vI (x / 65536)), (1, vI (31 + (-16)))]) C rfl (by decide) rfl dJ6_numberOfLeadingZeros_0f7a4_32 rfl ?_
      refine i_iload_n (j := 0) (q := 34) C rfl rfl dJ6_numberOfLeadingZeros_0f7a4_33 rfl ?_
      refine i_sipush (q := 37) C (by decide) dJ6_numberOfLeadingZeros_0f7a4_34 rfl ?_
      refine i_icmp_lt (tgt := 48) (q := 40) C (by omega) (by omega) dJ6_numberOfLeadingZeros_0f7a4_37 (by decide) rfl (fun c_37 => ?_) (fun c_37 => ?_)
      · skip
        refine i_iload_n (j := 0) (q := 49) C rfl rfl dJ6_numberOfLeadingZeros_0f7a4_48 rfl ?_
        refine i_bipush (q := 51) C (by decide) dJ6_numberOfLeadingZeros_0f7a4_49 rfl ?_
        refine i_icmp_lt (tgt := 61) (q := 54) C (by omega) (by omega) dJ6_numberOfLeadingZeros_0f7a4_51 (by decide) rfl (fun c_51 => ?_) (fun c_51 => ?_)
        · skip
          refine i_iload_n (j := 0) (q := 62) C rfl rfl dJ6_numberOfLeadingZeros_0f7a4_61 rfl ?_
          refine i_iconst (q := 63) C dJ6_numberOfLeadingZeros_0f7a4_62 rfl ?_
          refine i_icmp_lt (tgt := 73) (q := 66) C (by omega) (by omega) dJ6_numberOfLeadingZeros_0f7a4_63 (by decide) rfl (fun c_63 => ?_) (fun c_63 => ?_)
          · skip
            refine i_iload_n (j := 1) (q := 74) C rfl rfl dJ6_numberOfLeadingZeros_0f7a4_73 rfl ?_
            refine i_iload_n (j := 0) (q := 75) C rfl rfl dJ6_numberOfLeadingZeros_0f7a4_74 rfl ?_
            refine i_iconst (q := 76) C dJ6_numberOfLeadingZeros_0f7a4_75 rfl ?_
            refine i_iushr (z := (x / 65536) / 2) (q := 77) C (zI_ush 1 (by omega) (by omega) (by decide)) dJ6_numberOfLeadingZeros_0f7a4_76 rfl ?_
            refine i_isub (q := 78) C dJ6_numberOfLeadingZeros_0f7a4_77 rfl ?_
            refine i_iret C hR dJ6_numberOfLeadingZeros_0f7a4_78 ?_
            exact ⟨by
              simp only [Option.some.injEq, Sum.inl.injEq]
              rw [if_neg (by omega)]
              by_cases hy : (x / 65536) / 2 = 0
              · rw [bl_lit (x := x) 16 (a := 65536) (by decide) (by omega) (by omega)]; omega
              · rw [bl_lit (x := x) 17 (a := 131072) (by decide) (by omega) (by omega)]; omega, rfl⟩
          · skip
            refine i_iinc (j := 1) (q := 69) (lv' := [(1, vI ((31 + (-16)) + (-2))), (0, vI (x / 65536))]) C rfl (by decide) rfl dJ6_numberOfLeadingZeros_0f7a4_66 rfl ?_
            refine i_iload_n (j := 1) (q := 70) C rfl rfl dJ6_numberOfLeadingZeros_0f7a4_69 rfl ?_
            refine i_iconst (q := 71) C dJ6_numberOfLeadingZeros_0f7a4_70 rfl ?_
            refine i_iushr (z := (x / 65536) / 4) (q := 72) C (zI_ush 2 (by omega) (by omega) (by decide)) dJ6_numberOfLeadingZeros_0f7a4_71 rfl ?_
            refine i_istore_n (q := 73) (lv' := [(0, vI ((x / 65536) / 4)), (1, vI ((31 + (-16)) + (-2)))]) C rfl (by decide) rfl dJ6_numberOfLeadingZeros_0f7a4_72 rfl ?_
            refine i_iload_n (j := 1) (q := 74) C rfl rfl dJ6_numberOfLeadingZeros_0f7a4_73 rfl ?_
            refine i_iload_n (j := 0) (q := 75) C rfl rfl dJ6_numberOfLeadingZeros_0f7a4_74 rfl ?_
            refine i_iconst (q := 76) C dJ6_numberOfLeadingZeros_0f7a4_75 rfl ?_
            refine i_iushr (z := ((x / 65536) / 4) / 2) (q := 77) C (zI_ush 1 (by omega) (by omega) (by decide)) dJ6_numberOfLeadingZeros_0f7a4_76 rfl ?_
            refine i_isub (q := 78) C dJ6_numberOfLeadingZeros_0f7a4_77 rfl ?_
            refine i_iret C hR dJ6_numberOfLeadingZeros_0f7a4_78 ?_
            exact ⟨by
              simp only [Option.some.injEq, Sum.inl.injEq]
              rw [if_neg (by omega)]
              by_cases hy : ((x / 65536) / 4) / 2 = 0
              · rw [bl_lit (x := x) 18 (a := 262144) (by decide) (by omega) (by omega)]; omega
              · rw [bl_lit (x := x) 19 (a := 524288) (by decide) (by omega) (by omega)]; omega, rfl⟩
        · skip
          refine i_iinc (j := 1) (q := 57) (lv' := [(1, vI ((31 + (-16)) + (-4))), (0, vI (x / 65536))]) C rfl (by decide) rfl dJ6_numberOfLeadingZeros_0f7a4_54 rfl ?_
          refine i_iload_n (j := 1) (q := 58) C rfl rfl dJ6_numberOfLeadingZeros_0f7a4_57 rfl ?_
          refine i_iconst (q := 59) C dJ6_numberOfLeadingZeros_0f7a4_58 rfl ?_
          refine i_iushr (z := (x / 65536) / 16) (q := 60) C (zI_ush 4 (by omega) (by omega) (by decide)) dJ6_numberOfLeadingZeros_0f7a4_59 rfl ?_
          refine i_istore_n (q := 61) (lv' := [(0, vI ((x / 65536) / 16)), (1, vI ((31 + (-16)) + (-4)))]) C rfl (by decide) rfl dJ6_numberOfLeadingZeros_0f7a4_60 rfl ?_
          refine i_iload_n (j := 0) (q := 62) C rfl rfl dJ6_numberOfLeadingZeros_0f7a4_61 rfl ?_
          refine i_iconst (q := 63) C dJ6_numberOfLeadingZeros_0f7a4_62 rfl ?_
          refine i_icmp_lt (tgt := 73) (q := 66) C (by omega) (by omega) dJ6_numberOfLeadingZeros_0f7a4_63 (by decide) rfl (fun c_63 => ?_) (fun c_63 => ?_)
          · skip
            refine i_iload_n (j := 1) (q := 74) C rfl rfl dJ6_numberOfLeadingZeros_0f7a4_73 rfl ?_
            refine i_iload_n (j := 0) (q := 75) C rfl rfl dJ6_numberOfLeadingZeros_0f7a4_74 rfl ?_
            refine i_iconst (q := 76) C dJ6_numberOfLeadingZeros_0f7a4_75 rfl ?_
            refine i_iushr (z := ((x / 65536) / 16) / 2) (q := 77) C (zI_ush 1 (by omega) (by omega) (by decide)) dJ6_numberOfLeadingZeros_0f7a4_76 rfl ?_
            refine i_isub (q := 78) C dJ6_numberOfLeadingZeros_0f7a4_77 rfl ?_
            refine i_iret C hR dJ6_numberOfLeadingZeros_0f7a4_78 ?_
            exact ⟨by
              simp only [Option.some.injEq, Sum.inl.injEq]
              rw [if_neg (by omega)]
              by_cases hy : ((x / 65536) / 16) / 2 = 0
              · rw [bl_lit (x := x) 20 (a := 1048576) (by decide) (by omega) (by omega)]; omega
              · rw [bl_lit (x := x) 21 (a := 2097152) (by decide) (by omega) (by omega)]; omega, rfl⟩
          · skip
            refine i_iinc (j := 1) (q := 69) (lv' := [(1, vI (((31 + (-16)) + (-4)) + (-2))), (0, vI ((x / 65536) / 16))]) C rfl (by decide) rfl dJ6_numberOfLeadingZeros_0f7a4_66 rfl ?_
            refine i_iload_n (j := 1) (q := 70) C rfl rfl dJ6_numberOfLeadingZeros_0f7a4_69 rfl ?_
            refine i_iconst (q := 71) C dJ6_numberOfLeadingZeros_0f7a4_70 rfl ?_
            refine i_iushr (z := ((x / 65536) / 16) / 4) (q := 72) C (zI_ush 2 (by omega) (by omega) (by decide)) dJ6_numberOfLeadingZeros_0f7a4_71 rfl ?_
            refine i_istore_n (q := 73) (lv' := [(0, vI (((x / 65536) / 16) / 4)), (1, vI (((31 + (-16)) + (-4)) + (-2)))]) C rfl (by decide) rfl dJ6_numberOfLeadingZeros_0f7a4_72 rfl ?_
            refine i_iload_n (j := 1) (q := 74) C rfl rfl dJ6_numberOfLeadingZeros_0f7a4_73 rfl ?_
            refine i_iload_n (j := 0) (q := 75) C rfl rfl dJ6_numberOfLeadingZeros_0f7a4_74 rfl ?_
            refine i_iconst (q := 76) C dJ6_numberOfLeadingZeros_0f7a4_75 rfl ?_
            refine i_iushr (z := (((x / 65536) / 16) / 4) / 2) (q := 77) C (zI_ush 1 (by omega) (by omega) (by decide)) dJ6_numberOfLeadingZeros_0f7a4_76 rfl ?_
            refine i_isub (q := 78) C dJ6_numberOfLeadingZeros_0f7a4_77 rfl ?_
            refine i_iret C hR dJ6_numberOfLeadingZeros_0f7a4_78 ?_
            exact ⟨by
              simp only [Option.some.injEq, Sum.inl.injEq]
              rw [if_neg (by omega)]
              by_cases hy : (((x / 65536) / 16) / 4) / 2 = 0
              · rw [bl_lit (x := x) 22 (a := 4194304) (by decide) (by omega) (by omega)]; omega
              · rw [bl_lit (x := x) 23 (a := 8388608) (by decide) (by omega) (by omega)]; omega, rfl⟩
      · skip
        refine i_iinc (j := 1) (q := 43) (lv' := [(1, vI ((31 + (-16)) + (-8))), (0, vI (x / 65536))]) C rfl (by decide) rfl dJ6_numberOfLeadingZeros_0f7a4_40 rfl ?_
        refine i_iload_n (j := 1) (q := 44) C rfl rfl dJ6_numberOfLeadingZeros_0f7a4_43 rfl ?_
        refine i_bipush (q := 46) C (by decide) dJ6_numberOfLeadingZeros_0f7a4_44 rfl ?_
        refine i_iushr (z := (x / 65536) / 256) (q := 47) C (zI_ush 8 (by omega) (by omega) (by decide)) dJ6_numberOfLeadingZeros_0f7a4_46 rfl ?_
        refine i_istore_n (q := 48) (lv' := [(0, vI ((x / 65536) / 256)), (1, vI ((31 + (-16)) + (-8)))]) C rfl (by decide) rfl dJ6_numberOfLeadingZeros_0f7a4_47 rfl ?_
        refine i_iload_n (j := 0) (q := 49) C rfl rfl dJ6_numberOfLeadingZeros_0f7a4_48 rfl ?_
        refine i_bipush (q := 51) C (by decide) dJ6_numberOfLeadingZeros_0f7a4_49 rfl ?_
        refine i_icmp_lt (tgt := 61) (q := 54) C (by omega) (by omega) dJ6_numberOfLeadingZeros_0f7a4_51 (by decide) rfl (fun c_51 => ?_) (fun c_51 => ?_)
        · skip
          refine i_iload_n (j := 0) (q := 62) C rfl rfl dJ6_numberOfLeadingZeros_0f7a4_61 rfl ?_
          refine i_iconst (q := 63) C dJ6_numberOfLeadingZeros_0f7a4_62 rfl ?_
          refine i_icmp_lt (tgt := 73) (q := 66) C (by omega) (by omega) dJ6_numberOfLeadingZeros_0f7a4_63 (by decide) rfl (fun c_63 => ?_) (fun c_63 => ?_)
          · skip
            refine i_iload_n (j := 1) (q := 74) C rfl rfl dJ6_numberOfLeadingZeros_0f7a4_73 rfl ?_
            refine i_iload_n (j := 0) (q := 75) C rfl rfl dJ6_numberOfLeadingZeros_0f7a4_74 rfl ?_
            refine i_iconst (q := 76) C dJ6_numberOfLeadingZeros_0f7a4_75 rfl ?_
            refine i_iushr (z := ((x / 65536) / 256) / 2) (q := 77) C (zI_ush 1 (by omega) (by omega) (by decide)) dJ6_numberOfLeadingZeros_0f7a4_76 rfl ?_
            refine i_isub (q := 78) C dJ6_numberOfLeadingZeros_0f7a4_77 rfl ?_
            refine i_iret C hR dJ6_numberOfLeadingZeros_0f7a4_78 ?_
            exact ⟨by
              simp only [Option.some.injEq, Sum.inl.injEq]
              rw [if_neg (by omega)]
              by_cases hy : ((x / 65536) / 256) / 2 = 0
              · rw [bl_lit (x := x) 24 (a := 16777216) (by decide) (by omega) (by omega)]; omega
              · rw [bl_lit (x := x) 25 (a := 33554432) (by decide) (by omega) (by omega)]; omega, rfl⟩
          · skip
            refine i_iinc (j := 1) (q := 69) (lv' := [(1, vI (((31 + (-16)) + (-8)) + (-2))), (0, vI ((x / 65536) / 256))]) C rfl (by decide) rfl dJ6_numberOfLeadingZeros_0f7a4_66 rfl ?_
            refine i_iload_n (j := 1) (q := 70) C rfl rfl dJ6_numberOfLeadingZeros_0f7a4_69 rfl ?_
            refine i_iconst (q := 71) C dJ6_numberOfLeadingZeros_0f7a4_70 rfl ?_
            refine i_iushr (z := ((x / 65536) / 256) / 4) (q := 72) C (zI_ush 2 (by omega) (by omega) (by decide)) dJ6_numberOfLeadingZeros_0f7a4_71 rfl ?_
            refine i_istore_n (q := 73) (lv' := [(0, vI (((x / 65536) / 256) / 4)), (1, vI (((31 + (-16)) + (-8)) + (-2)))]) C rfl (by decide) rfl dJ6_numberOfLeadingZeros_0f7a4_72 rfl ?_
            refine i_iload_n (j := 1) (q := 74) C rfl rfl dJ6_numberOfLeadingZeros_0f7a4_73 rfl ?_
            refine i_iload_n (j := 0) (q := 75) C rfl rfl dJ6_numberOfLeadingZeros_0f7a4_74 rfl ?_
            refine i_iconst (q := 76) C dJ6_numberOfLeadingZeros_0f7a4_75 rfl ?_
            refine i_iushr (z := (((x / 65536) / 256) / 4) / 2) (q := 77) C (zI_ush 1 (by omega) (by omega) (by decide)) dJ6_numberOfLeadingZeros_0f7a4_76 rfl ?_
            refine i_isub (q := 78) C dJ6_numberOfLeadingZeros_0f7a4_77 rfl ?_
            refine i_iret C hR dJ6_numberOfLeadingZeros_0f7a4_78 ?_
            exact ⟨by
              simp only [Option.some.injEq, Sum.inl.injEq]
              rw [if_neg (by omega)]
              by_cases hy : (((x / 65536) / 256) / 4) / 2 = 0
              · rw [bl_lit (x := x) 26 (a := 67108864) (by decide) (by omega) (by omega)]; omega
              · rw [bl_lit (x := x) 27 (a := 134217728) (by decide) (by omega) (by omega)]; omega, rfl⟩
        · skip
          refine i_iinc (j := 1) (q := 57) (lv' := [(1, vI (((31 + (-16)) + (-8)) + (-4))), (0, vI ((x / 65536) / 256))]) C rfl (by decide) rfl dJ6_numberOfLeadingZeros_0f7a4_54 rfl ?_
          refine i_iload_n (j := 1) (q := 58) C rfl rfl dJ6_numberOfLeadingZeros_0f7a4_57 rfl ?_
          refine i_iconst (q := 59) C dJ6_numberOfLeadingZeros_0f7a4_58 rfl ?_
          refine i_iushr (z := ((x / 65536) / 256) / 16) (q := 60) C (zI_ush 4 (by omega) (by omega) (by decide)) dJ6_numberOfLeadingZeros_0f7a4_59 rfl ?_
          refine i_istore_n (q := 61) (lv' := [(0, vI (((x / 65536) / 256) / 16)), (1, vI (((31 + (-16)) + (-8)) + (-4)))]) C rfl (by decide) rfl dJ6_numberOfLeadingZeros_0f7a4_60 rfl ?_
          refine i_iload_n (j := 0) (q := 62) C rfl rfl dJ6_numberOfLeadingZeros_0f7a4_61 rfl ?_
          refine i_iconst (q := 63) C dJ6_numberOfLeadingZeros_0f7a4_62 rfl ?_
          refine i_icmp_lt (tgt := 73) (q := 66) C (by omega) (by omega) dJ6_numberOfLeadingZeros_0f7a4_63 (by decide) rfl (fun c_63 => ?_) (fun c_63 => ?_)
          · skip
            refine i_iload_n (j := 1) (q := 74) C rfl rfl dJ6_numberOfLeadingZeros_0f7a4_73 rfl ?_
            refine i_iload_n (j := 0) (q := 75) C rfl rfl dJ6_numberOfLeadingZeros_0f7a4_74 rfl ?_
            refine i_iconst (q := 76) C dJ6_numberOfLeadingZeros_0f7a4_75 rfl ?_
            refine i_iushr (z := (((x / 65536) / 256) / 16) / 2) (q := 77) C (zI_ush 1 (by omega) (by omega) (by decide)) dJ6_numberOfLeadingZeros_0f7a4_76 rfl ?_
            refine i_isub (q := 78) C dJ6_numberOfLeadingZeros_0f7a4_77 rfl ?_
            refine i_iret C hR dJ6_numberOfLeadingZeros_0f7a4_78 ?_
            exact ⟨by
              simp only [Option.some.injEq, Sum.inl.injEq]
              rw [if_neg (by omega)]
              by_cases hy : (((x / 65536) / 256) / 16) / 2 = 0
              · rw [bl_lit (x := x) 28 (a := 268435456) (by decide) (by omega) (by omega)]; omega
              · rw [bl_lit (x := x) 29 (a := 536870912) (by decide) (by omega) (by omega)]; omega, rfl⟩
          · skip
            refine i_iinc (j := 1) (q := 69) (lv' := [(1, vI ((((31 + (-16)) + (-8)) + (-4)) + (-2))), (0, vI (((x / 65536) / 256) / 16))]) C rfl (by decide) rfl dJ6_numberOfLeadingZeros_0f7a4_66 rfl ?_
            refine i_iload_n (j := 1) (q := 70) C rfl rfl dJ6_numberOfLeadingZeros_0f7a4_69 rfl ?_
            refine i_iconst (q := 71) C dJ6_numberOfLeadingZeros_0f7a4_70 rfl ?_
            refine i_iushr (z := (((x / 65536) / 256) / 16) / 4) (q := 72) C (zI_ush 2 (by omega) (by omega) (by decide)) dJ6_numberOfLeadingZeros_0f7a4_71 rfl ?_
            refine i_istore_n (q := 73) (lv' := [(0, vI ((((x / 65536) / 256) / 16) / 4)), (1, vI ((((31 + (-16)) + (-8)) + (-4)) + (-2)))]) C rfl (by decide) rfl dJ6_numberOfLeadingZeros_0f7a4_72 rfl ?_
            refine i_iload_n (j := 1) (q := 74) C rfl rfl dJ6_numberOfLeadingZeros_0f7a4_73 rfl ?_
            refine i_iload_n (j := 0) (q := 75) C rfl rfl dJ6_numberOfLeadingZeros_0f7a4_74 rfl ?_
            refine i_iconst (q := 76) C dJ6_numberOfLeadingZeros_0f7a4_75 rfl ?_
            refine i_iushr (z := ((((x / 65536) / 256) / 16) / 4) / 2) (q := 77) C (zI_ush 1 (by omega) (by omega) (by decide)) dJ6_numberOfLeadingZeros_0f7a4_76 rfl ?_
            refine i_isub (q := 78) C dJ6_numberOfLeadingZeros_0f7a4_77 rfl ?_
            refine i_iret C hR dJ6_numberOfLeadingZeros_0f7a4_78 ?_
            exact ⟨by
              simp only [Option.some.injEq, Sum.inl.injEq]
              rw [if_neg (by omega)]
              by_cases hy : ((((x / 65536) / 256) / 16) / 4) / 2 = 0
              · rw [bl_lit (x := x) 30 (a := 1073741824) (by decide) (by omega) (by omega)]; omega
              · rw [bl_lit (x := x) 31 (a := 2147483648) (by decide) (by omega) (by omega)]; omega, rfl⟩
  · skip
    refine i_iload_n (j := 0) (q := 5) C rfl rfl dJ6_numberOfLeadingZeros_0f7a4_4 rfl ?_
    refine i_if_ne (tgt := 13) (q := 8) C (by omega) dJ6_numberOfLeadingZeros_0f7a4_5 (by decide) rfl (fun c_5 => ?_) (fun c_5 => ?_)
    · skip
      refine i_iconst (q := 14) C dJ6_numberOfLeadingZeros_0f7a4_13 rfl ?_
      refine i_iret C hR dJ6_numberOfLeadingZeros_0f7a4_14 ?_
      exact ⟨by
        simp only [Option.some.injEq, Sum.inl.injEq]
        rw [if_pos (by omega)], rfl⟩
    · skip
      refine i_bipush (q := 10) C (by decide) dJ6_numberOfLeadingZeros_0f7a4_8 rfl ?_
      refine i_goto (q := 14) C dJ6_numberOfLeadingZeros_0f7a4_10 (by decide) ?_
      refine i_iret C hR dJ6_numberOfLeadingZeros_0f7a4_14 ?_
      exact ⟨by
        simp only [Option.some.injEq, Sum.inl.injEq]
        rw [if_neg (by omega)]
        unfold bl
        rw [if_pos (by omega)]
        omega, rfl⟩

theorem hd_J6_numberOfLeadingZeros_0f7a4 : yJ6_numberOfLeadingZeros_0f7a4.cls ≠ "java/lang/invoke/MethodHandle" ∧ yJ6_numberOfLeadingZeros_0f7a4.cls ≠ "java/lang/invoke/VarHandle" ∧ (parseMethodDescriptor yJ6_numberOfLeadingZeros_0f7a4.desc).map (fun d => d.parameters.length) = some 1 := by decide +kernel
set_option maxHeartbeats 400000 in
set_option maxRecDepth 100000 in
theorem c_J13_numberOfLeadingZeros_95d88 (K : KT) (l : Launch) (u : Int) (hu : 0 ≤ u ∧ u < 4611686018427387904) : Mt K l yJ13_numberOfLeadingZeros_95d88 wsJ13_numberOfLeadingZeros_95d88 ({ frames := 1, cells := 0, slots := 0, locals := 21 }) [vJ u] [] 0 0 (fun v w => v = some (vI (64 - bl u)) ∧ w = []) := by
  refine Mt.of (own := RJ13) (cc := cJ13_numberOfLeadingZeros_95d88) (maxL := 3) (ret := (some .int)) (lv0 := [(0, vJ u)]) (by decide) rfl rfl (Nat.le_of_ble_eq_true rfl) rfl (fun X C hR hNm => ?_)
  refine i_lload_n (j := 0) (q := 1) C rfl rfl dJ13_numberOfLeadingZeros_95d88_0 rfl ?_
  refine i_bipush (q := 3) C (by decide) dJ13_numberOfLeadingZeros_95d88_1 rfl ?_
  refine i_lushr (z := u / 4294967296) (q := 4) C (zL_shr 32 rfl (by omega) (by omega) (by decide)) dJ13_numberOfLeadingZeros_95d88_3 rfl ?_
  refine i_l2i (q := 5) C dJ13_numberOfLeadingZeros_95d88_4 rfl ?_
  refine i_istore_n (q := 6) (lv' := [(2, vI (u / 4294967296)), (0, vJ u)]) C rfl (by decide) rfl dJ13_numberOfLeadingZeros_95d88_5 rfl ?_
  refine i_iload_n (j := 0) (q := 7) C rfl rfl dJ13_numberOfLeadingZeros_95d88_6 rfl ?_
  refine i_if_ne (tgt := 21) (q := 10) C (by omega) dJ13_numberOfLeadingZeros_95d88_7 (by decide) rfl (fun c_7 => ?_) (fun c_7 => ?_)
  · skip
    refine i_iload_n (j := 0) (q := 22) C rfl rfl dJ13_numberOfLeadingZeros_95d88_21 rfl ?_
    refine i_callS (wr := []) (As := [vI (u / 4294967296)]) (st := []) (q := 25) C (c_J6_numberOfLeadingZeros_0f7a4 K l (u / 4294967296) (by first | assumption | omega)) gJ13_numberOfLeadingZeros_95d88_J6_numberOfLeadingZeros_0f7a4 rfl hd_J6_numberOfLeadingZeros_0f7a4 ⟨Nat.le_of_ble_eq_true rfl, Nat.le_of_ble_eq_true rfl⟩ ⟨rfl, rfl⟩ ⟨Nat.le_of_ble_eq_true rfl, Nat.le_of_ble_eq_true rfl⟩ (permBy [] (by decide) rfl rfl) rfl (Nat.le_of_ble_eq_true rfl) dJ13_numberOfLeadingZeros_95d88_22 rfl (fun v w hq => ?_)
    obtain ⟨rfl, rfl⟩ := hq
    show V X 0 0 25 [(2, vI (u / 4294967296)), (0, vJ u)] [vI (if (u / 4294967296) < 0 then 0 else 32 - bl (u / 4294967296))] []
    refine i_iret C hR dJ13_numberOfLeadingZeros_95d88_25 ?_
    exact ⟨by
      simp only [Option.some.injEq, Sum.inl.injEq]
      rw [if_neg (by omega), bl_hi (w := u) (by omega)]
      omega, rfl⟩
  · skip
    refine i_bipush (q := 12) C (by decide) dJ13_numberOfLeadingZeros_95d88_10 rfl ?_
    refine i_lload_n (j := 1) (q := 13) C rfl rfl dJ13_numberOfLeadingZeros_95d88_12 rfl ?_
    refine i_l2i (q := 14) C dJ13_numberOfLeadingZeros_95d88_13 rfl ?_
    refine V.wrap (b := if u < 2147483648 then u else u - 4294967296) (by split; (rfl); (exact (zI_wrap u 1).trans (by congr 1))) ?_
    refine i_callS (wr := []) (As := [vI (if u < 2147483648 then u else u - 4294967296)]) (st := [vI 32]) (q := 17) C (c_J6_numberOfLeadingZeros_0f7a4 K l (if u < 2147483648 then u else u - 4294967296) (by split <;> omega)) gJ13_numberOfLeadingZeros_95d88_J6_numberOfLeadingZeros_0f7a4 rfl hd_J6_numberOfLeadingZeros_0f7a4 ⟨Nat.le_of_ble_eq_true rfl, Nat.le_of_ble_eq_true rfl⟩ ⟨rfl, rfl⟩ ⟨Nat.le_of_ble_eq_true rfl, Nat.le_of_ble_eq_true rfl⟩ (permBy [] (by decide) rfl rfl) rfl (Nat.le_of_ble_eq_true rfl) dJ13_numberOfLeadingZeros_95d88_14 rfl (fun v w hq => ?_)
    obtain ⟨rfl, rfl⟩ := hq
    show V X 0 0 17 [(2, vI (u / 4294967296)), (0, vJ u)] [vI (if (if u < 2147483648 then u else u - 4294967296) < 0 then 0 else 32 - bl (if u < 2147483648 then u else u - 4294967296)), vI 32] []
    refine i_iadd (q := 18) C dJ13_numberOfLeadingZeros_95d88_17 rfl ?_
    refine i_goto (q := 25) C dJ13_numberOfLeadingZeros_95d88_18 (by decide) ?_
    refine i_iret C hR dJ13_numberOfLeadingZeros_95d88_25 ?_
    exact ⟨by
      simp only [Option.some.injEq, Sum.inl.injEq]
      by_cases h31 : u < 2147483648
      · rw [if_pos h31, if_neg (by omega)]; omega
      · rw [if_neg h31, if_pos (by omega), bl_lit (x := u) 31 (a := 2147483648) (by decide) (by omega) (by omega)]; omega, rfl⟩

set_option maxHeartbeats 400000 in
set_option maxRecDepth 100000 in
theorem c_J6_numberOfTrailingZeros_0f7a4 (K : KT) (l : Launch) (x : Int) (t : Nat) (q : Int) (hx : rI x) (ht : t < 32) (hq : x = 2 ^ t * (2 * q + 1)) : Mt K l yJ6_numberOfTrailingZeros_0f7a4 wsJ6_numberOfTrailingZeros_0f7a4 ({ frames := 0, cells := 0, slots := 0, locals := 0 }) [vI x] [] 0 0 (fun v w => v = some (vI (((t : Nat) : Int))) ∧ w = []) := by
  refine Mt.of (own := RJ6) (cc := cJ6_numberOfTrailingZeros_0f7a4) (maxL := 2) (ret := (some .int)) (lv0 := [(0, vI x)]) (by decide) rfl rfl (Nat.le_of_ble_eq_true rfl) rfl (fun X C hR hNm => ?_)
  have hp2 : (1 : Int) ≤ 2 ^ t := by
    have := p2le (a := 0) (b := t) (by omega)
    simpa using this
  have hp3 : (2 : Int) ^ t ≤ 2147483648 := by
    have := p2le (a := t) (b := 31) (by omega)
    simpa using this
  obtain ⟨y, hy⟩ : ∃ y : Int, y = 2 ^ t - 1 := ⟨_, rfl⟩
  have hy1 : 0 ≤ y ∧ y < 2147483648 := by rw [hy]; exact ⟨by have := hp2; omega, by have := hp3; omega⟩
  refine i_iload_n (j := 0) (q := 1) C rfl rfl dJ6_numberOfTrailingZeros_0f7a4_0 rfl ?_
  refine i_iconst (q := 2) C dJ6_numberOfTrailingZeros_0f7a4_1 rfl ?_
  refine i_ixor (z := -x - 1) (q := 3) C (zI_not x) dJ6_numberOfTrailingZeros_0f7a4_2 rfl ?_
  refine i_iload_n (j := 0) (q := 4) C rfl rfl dJ6_numberOfTrailingZeros_0f7a4_3 rfl ?_
  refine i_iconst (q := 5) C dJ6_numberOfTrailingZeros_0f7a4_4 rfl ?_
  refine i_isub (q := 6) C dJ6_numberOfTrailingZeros_0f7a4_5 rfl ?_
  refine i_iand (z := y) (q := 7) C (by rw [hy]; exact tz_and ht hq) dJ6_numberOfTrailingZeros_0f7a4_6 rfl ?_
  refine i_istore_n (q := 8) (lv' := [(0, vI y)]) C rfl (by decide) rfl dJ6_numberOfTrailingZeros_0f7a4_7 rfl ?_
  refine i_iload_n (j := 0) (q := 9) C rfl rfl dJ6_numberOfTrailingZeros_0f7a4_8 rfl ?_
  refine i_if_gt (tgt := 17) (q := 12) C (by omega) dJ6_numberOfTrailingZeros_0f7a4_9 (by decide) rfl (fun c_9 => ?_) (fun c_9 => ?_)
  · skip
    refine i_iconst (q := 18) C dJ6_numberOfTrailingZeros_0f7a4_17 rfl ?_
    refine i_istore_n (q := 19) (lv' := [(1, vI 1), (0, vI y)]) C rfl (by decide) rfl dJ6_numberOfTrailingZeros_0f7a4_18 rfl ?_
    refine i_iload_n (j := 1) (q := 20) C rfl rfl dJ6_numberOfTrailingZeros_0f7a4_19 rfl ?_
    refine i_ldcw (z := 65536) (q := 23) C (List.mem_of_getElem? (i := 1) rfl) dJ6_numberOfTrailingZeros_0f7a4_20 rfl ?_
    refine i_icmp_le (tgt := 34) (q := 26) C (by omega) (by omega) dJ6_numberOfTrailingZeros_0f7a4_23 (by decide) rfl (fun c_23 => ?_) (fun c_23 => ?_)
    · skip
      refine i_iload_n (j := 1) (q := 35) C rfl rfl dJ6_numberOfTrailingZeros_0f7a4_34 rfl ?_
      refine i_sipush (q := 38) C (by decide) dJ6_numberOfTrailingZeros_0f7a4_35 rfl ?_
      refine i_icmp_le (tgt := 49) (q := 41) C (by omega) (by omega) dJ6_numberOfTrailingZeros_0f7a4_38 (by decide) rfl (fun c_38 => ?_) (fun c_38 => ?_)
      · skip
        refine i_iload_n (j := 1) (q := 50) C rfl rfl dJ6_numberOfTrailingZeros_0f7a4_49 rfl ?_
        refine i_bipush (q := 52) C (by decide) dJ6_numberOfTrailingZeros_0f7a4_50 rfl ?_
        refine i_icmp_le (tgt := 62) (q := 55) C (by omega) (by omega) dJ6_numberOfTrailingZeros_0f7a4_52 (by decide) rfl (fun c_52 => ?_) (fun c_52 => ?_)
        · skip
          refine i_iload_n (j := 1) (q := 63) C rfl rfl dJ6_numberOfTrailingZeros_0f7a4_62 rfl ?_
          refine i_iconst (q := 64) C dJ6_numberOfTrailingZeros_0f7a4_63 rfl ?_
          refine i_icmp_le (tgt := 74) (q := 67) C (by omega) (by omega) dJ6_numberOfTrailingZeros_0f7a4_64 (by decide) rfl (fun c_64 => ?_) (fun c_64 => ?_)
          · skip
            refine i_iload_n (j := 0) (q := 75) C rfl rfl dJ6_numberOfTrailingZeros_0f7a4_74 rfl ?_
            refine i_iload_n (j := 1) (q := 76) C rfl rfl dJ6_numberOfTrailingZeros_0f7a4_75 rfl ?_
            refine i_iconst (q := 77) C dJ6_numberOfTrailingZeros_0f7a4_76 rfl ?_
            refine i_iushr (z := y / 2) (q := 78) C (zI_ush 1 (by omega) (by omega) (by decide)) dJ6_numberOfTrailingZeros_0f7a4_77 rfl ?_
            refine i_iadd (q := 79) C dJ6_numberOfTrailingZeros_0f7a4_78 rfl ?_
            refine i_iret C hR dJ6_numberOfTrailingZeros_0f7a4_79 ?_
            have hy0 : 1 ≤ y := by omega
            have lo := tz_lo (t := t) 0 (A := 1) (by decide) (by rw [← hy]; omega)
            exact ⟨by
              simp only [Option.some.injEq, Sum.inl.injEq]
              have hi := tz_hi (t := t) 3 (B := 8) (by decide) (by rw [← hy]; omega)
              rcases (show t = 1 ∨ t = 2 ∨ t = 3 by omega) with e | e | e
              · rw [e, show (2 : Int) ^ 1 = 2 by decide] at hy; omega
              · rw [e, show (2 : Int) ^ 2 = 4 by decide] at hy; omega
              · rw [e, show (2 : Int) ^ 3 = 8 by decide] at hy; omega, rfl⟩
          · skip
            refine i_iinc (j := 0) (q := 70) (lv' := [(1, vI (1 + 2)), (0, vI y)]) C rfl (by decide) rfl dJ6_numberOfTrailingZeros_0f7a4_67 rfl ?_
            refine i_iload_n (j := 1) (q := 71) C rfl rfl dJ6_numberOfTrailingZeros_0f7a4_70 rfl ?_
            refine i_iconst (q := 72) C dJ6_numberOfTrailingZeros_0f7a4_71 rfl ?_
            refine i_iushr (z := y / 4) (q := 73) C (zI_ush 2 (by omega) (by omega) (by decide)) dJ6_numberOfTrailingZeros_0f7a4_72 rfl ?_
            refine i_istore_n (q := 74) (lv' := [(0, vI (y / 4)), (1, vI (1 + 2))]) C rfl (by decide) rfl dJ6_numberOfTrailingZeros_0f7a4_73 rfl ?_
            refine i_iload_n (j := 1) (q := 75) C rfl rfl dJ6_numberOfTrailingZeros_0f7a4_74 rfl ?_
            refine i_iload_n (j := 0) (q := 76) C rfl rfl dJ6_numberOfTrailingZeros_0f7a4_75 rfl ?_
            refine i_iconst (q := 77) C dJ6_numberOfTrailingZeros_0f7a4_76 rfl ?_
            refine i_iushr (z := (y / 4) / 2) (q := 78) C (zI_ush 1 (by omega) (by omega) (by decide)) dJ6_numberOfTrailingZeros_0f7a4_77 rfl ?_
            refine i_iadd (q := 79) C dJ6_numberOfTrailingZeros_0f7a4_78 rfl ?_
            refine i_iret C hR dJ6_numberOfTrailingZeros_0f7a4_79 ?_
            have hy0 : 1 ≤ (y / 4) := by omega
            have lo := tz_lo (t := t) 2 (A := 4) (by decide) (by rw [← hy]; omega)
            exact ⟨by
              simp only [Option.some.injEq, Sum.inl.injEq]
              have hi := tz_hi (t := t) 5 (B := 32) (by decide) (by rw [← hy]; omega)
              rcases (show t = 3 ∨ t = 4 ∨ t = 5 by omega) with e | e | e
              · rw [e, show (2 : Int) ^ 3 = 8 by decide] at hy; omega
              · rw [e, show (2 : Int) ^ 4 = 16 by decide] at hy; omega
              · rw [e, show (2 : Int) ^ 5 = 32 by decide] at hy; omega, rfl⟩
        · skip
          refine i_iinc (j := 0) (q := 58) (lv' := [(1, vI (1 + 4)), (0, vI y)]) C rfl (by decide) rfl dJ6_numberOfTrailingZeros_0f7a4_55 rfl ?_
          refine i_iload_n (j := 1) (q := 59) C rfl rfl dJ6_numberOfTrailingZeros_0f7a4_58 rfl ?_
          refine i_iconst (q := 60) C dJ6_numberOfTrailingZeros_0f7a4_59 rfl ?_
          refine i_iushr (z := y / 16) (q := 61) C (zI_ush 4 (by omega) (by omega) (by decide)) dJ6_numberOfTrailingZeros_0f7a4_60 rfl ?_
          refine i_istore_n (q := 62) (lv' := [(0, vI (y / 16)), (1, vI (1 + 4))]) C rfl (by decide) rfl dJ6_numberOfTrailingZeros_0f7a4_61 rfl ?_
          refine i_iload_n (j := 0) (q := 63) C rfl rfl dJ6_numberOfTrailingZeros_0f7a4_62 rfl ?_
          refine i_iconst (q := 64) C dJ6_numberOfTrailingZeros_0f7a4_63 rfl ?_
          refine i_icmp_le (tgt := 74) (q := 67) C (by omega) (by omega) dJ6_numberOfTrailingZeros_0f7a4_64 (by decide) rfl (fun c_64 => ?_) (fun c_64 => ?_)
          · skip
            refine i_iload_n (j := 1) (q := 75) C rfl rfl dJ6_numberOfTrailingZeros_0f7a4_74 rfl ?_
            refine i_iload_n (j := 0) (q := 76) C rfl rfl dJ6_numberOfTrailingZeros_0f7a4_75 rfl ?_
            refine i_iconst (q := 77) C dJ6_numberOfTrailingZeros_0f7a4_76 rfl ?_
            refine i_iushr (z := (y / 16) / 2) (q := 78) C (zI_ush 1 (by omega) (by omega) (by decide)) dJ6_numberOfTrailingZeros_0f7a4_77 rfl ?_
            refine i_iadd (q := 79) C dJ6_numberOfTrailingZeros_0f7a4_78 rfl ?_
            refine i_iret C hR dJ6_numberOfTrailingZeros_0f7a4_79 ?_
            have hy0 : 1 ≤ (y / 16) := by omega
            have lo := tz_lo (t := t) 4 (A := 16) (by decide) (by rw [← hy]; omega)
            exact ⟨by
              simp only [Option.some.injEq, Sum.inl.injEq]
              have hi := tz_hi (t := t) 7 (B := 128) (by decide) (by rw [← hy]; omega)
              rcases (show t = 5 ∨ t = 6 ∨ t = 7 by omega) with e | e | e
              · rw [e, show (2 : Int) ^ 5 = 32 by decide] at hy; omega
              · rw [e, show (2 : Int) ^ 6 = 64 by decide] at hy; omega
              · rw [e, show (2 : Int) ^ 7 = 128 by decide] at hy; omega, rfl⟩
          · skip
            refine i_iinc (j := 1) (q := 70) (lv' := [(1, vI ((1 + 4) + 2)), (0, vI (y / 16))]) C rfl (by decide) rfl dJ6_numberOfTrailingZeros_0f7a4_67 rfl ?_
            refine i_iload_n (j := 1) (q := 71) C rfl rfl dJ6_numberOfTrailingZeros_0f7a4_70 rfl ?_
            refine i_iconst (q := 72) C dJ6_numberOfTrailingZeros_0f7a4_71 rfl ?_
            refine i_iushr (z := (y / 16) / 4) (q := 73) C (zI_ush 2 (by omega) (by omega) (by decide)) dJ6_numberOfTrailingZeros_0f7a4_72 rfl ?_
            refine i_istore_n (q := 74) (lv' := [(0, vI ((y / 16) / 4)), (1, vI ((1 + 4) + 2))]) C rfl (by decide) rfl dJ6_numberOfTrailingZeros_0f7a4_73 rfl ?_
            refine i_iload_n (j := 1) (q := 75) C rfl rfl dJ6_numberOfTrailingZeros_0f7a4_74 rfl ?_
            refine i_iload_n (j := 0) (q := 76) C rfl rfl dJ6_numberOfTrailingZeros_0f7a4_75 rfl ?_
            refine i_iconst (q := 77) C dJ6_numberOfTrailingZeros_0f7a4_76 rfl ?_
            refine i_iushr (z := ((y / 16) / 4) / 2) (q := 78) C (zI_ush 1 (by omega) (by omega) (by decide)) dJ6_numberOfTrailingZeros_0f7a4_77 rfl ?_
            refine i_iadd (q := 79) C dJ6_numberOfTrailingZeros_0f7a4_78 rfl ?_
            refine i_iret C hR dJ6_numberOfTrailingZeros_0f7a4_79 ?_
            have hy0 : 1 ≤ ((y / 16) / 4) := by omega
            have lo := tz_lo (t := t) 6 (A := 64) (by decide) (by rw [← hy]; omega)
            exact ⟨by
              simp only [Option.some.injEq, Sum.inl.injEq]
              have hi := tz_hi (t := t) 9 (B := 512) (by decide) (by rw [← hy]; omega)
              rcases (show t = 7 ∨ t = 8 ∨ t = 9 by omega) with e | e | e
              · rw [e, show (2 : Int) ^ 7 = 128 by decide] at hy; omega
              · rw [e, show (2 : Int) ^ 8 = 256 by decide] at hy; omega
              · rw [e, show (2 : Int) ^ 9 = 512 by decide] at hy; omega, rfl⟩
      · skip
        refine i_iinc (j := 0) (q := 44) (lv' := [(1, vI (1 + 8)), (0, vI y)]) C rfl (by decide) rfl dJ6_numberOfTrailingZeros_0f7a4_41 rfl ?_
        refine i_iload_n (j := 1) (q := 45) C rfl rfl dJ6_numberOfTrailingZeros_0f7a4_44 rfl ?_
        refine i_bipush (q := 47) C (by decide) dJ6_numberOfTrailingZeros_0f7a4_45 rfl ?_
        refine i_iushr (z := y / 256) (q := 48) C (zI_ush 8 (by omega) (by omega) (by decide)) dJ6_numberOfTrailingZeros_0f7a4_47 rfl ?_
        refine i_istore_n (q := 49) (lv' := [(0, vI (y / 256)), (1, vI (1 + 8))]) C rfl (by decide) rfl dJ6_numberOfTrailingZeros_0f7a4_48 rfl ?_
        refine i_iload_n (j := 0) (q := 50) C rfl rfl dJ6_numberOfTrailingZeros_0f7a4_49 rfl ?_
        refine i_bipush (q := 52) C (by decide) dJ6_numberOfTrailingZeros_0f7a4_50 rfl ?_
        refine i_icmp_le (tgt := 62) (q := 55) C (by omega) (by omega) dJ6_numberOfTrailingZeros_0f7a4_52 (by decide) rfl (fun c_52 => ?_) (fun c_52 => ?_)
        · skip
          refine i_iload_n (j := 0) (q := 63) C rfl rfl dJ6_numberOfTrailingZeros_0f7a4_62 rfl ?_
          refine i_iconst (q := 64) C dJ6_numberOfTrailingZeros_0f7a4_63 rfl ?_
          refine i_icmp_le (tgt := 74) (q := 67) C (by omega) (by omega) dJ6_numberOfTrailingZeros_0f7a4_64 (by decide) rfl (fun c_64 => ?_) (fun c_64 => ?_)
          · skip
            refine i_iload_n (j := 1) (q := 75) C rfl rfl dJ6_numberOfTrailingZeros_0f7a4_74 rfl ?_
            refine i_iload_n (j := 0) (q := 76) C rfl rfl dJ6_numberOfTrailingZeros_0f7a4_75 rfl ?_
            refine i_iconst (q := 77) C dJ6_numberOfTrailingZeros_0f7a4_76 rfl ?_
            refine i_iushr (z := (y / 256) / 2) (q := 78) C (zI_ush 1 (by omega) (by omega) (by decide)) dJ6_numberOfTrailingZeros_0f7a4_77 rfl ?_
            refine i_iadd (q := 79) C dJ6_numberOfTrailingZeros_0f7a4_78 rfl ?_
            refine i_iret C hR dJ6_numberOfTrailingZeros_0f7a4_79 ?_
            have hy0 : 1 ≤ (y / 256) := by omega
            have lo := tz_lo (t := t) 8 (A := 256) (by decide) (by rw [← hy]; omega)
            exact ⟨by
              simp only [Option.some.injEq, Sum.inl.injEq]
              have hi := tz_hi (t := t) 11 (B := 2048) (by decide) (by rw [← hy]; omega)
              rcases (show t = 9 ∨ t = 10 ∨ t = 11 by omega) with e | e | e
              · rw [e, show (2 : Int) ^ 9 = 512 by decide] at hy; omega
              · rw [e, show (2 : Int) ^ 10 = 1024 by decide] at hy; omega
              · rw [e, show (2 : Int) ^ 11 = 2048 by decide] at hy; omega, rfl⟩
          · skip
            refine i_iinc (j := 1) (q := 70) (lv' := [(1, vI ((1 + 8) + 2)), (0, vI (y / 256))]) C rfl (by decide) rfl dJ6_numberOfTrailingZeros_0f7a4_67 rfl ?_
            refine i_iload_n (j := 1) (q := 71) C rfl rfl dJ6_numberOfTrailingZeros_0f7a4_70 rfl ?_
            refine i_iconst (q := 72) C dJ6_numberOfTrailingZeros_0f7a4_71 rfl ?_
            refine i_iushr (z := (y / 256) / 4) (q := 73) C (zI_ush 2 (by omega) (by omega) (by decide)) dJ6_numberOfTrailingZeros_0f7a4_72 rfl ?_
            refine i_istore_n (q := 74) (lv' := [(0, vI ((y / 256) / 4)), (1, vI ((1 + 8) + 2))]) C rfl (by decide) rfl dJ6_numberOfTrailingZeros_0f7a4_73 rfl ?_
            refine i_iload_n (j := 1) (q := 75) C rfl rfl dJ6_numberOfTrailingZeros_0f7a4_74 rfl ?_
            refine i_iload_n (j := 0) (q := 76) C rfl rfl dJ6_numberOfTrailingZeros_0f7a4_75 rfl ?_
            refine i_iconst (q := 77) C dJ6_numberOfTrailingZeros_0f7a4_76 rfl ?_
            refine i_iushr (z := ((y / 256) / 4) / 2) (q := 78) C (zI_ush 1 (by omega) (by omega) (by decide)) dJ6_numberOfTrailingZeros_0f7a4_77 rfl ?_
            refine i_iadd (q := 79) C dJ6_numberOfTrailingZeros_0f7a4_78 rfl ?_
            refine i_iret C hR dJ6_numberOfTrailingZeros_0f7a4_79 ?_
            have hy0 : 1 ≤ ((y / 256) / 4) := by omega
            have lo := tz_lo (t := t) 10 (A := 1024) (by decide) (by rw [← hy]; omega)
            exact ⟨by
              simp only [Option.some.injEq, Sum.inl.injEq]
              have hi := tz_hi (t := t) 13 (B := 8192) (by decide) (by rw [← hy]; omega)
              rcases (show t = 11 ∨ t = 12 ∨ t = 13 by omega) with e | e | e
              · rw [e, show (2 : Int) ^ 11 = 2048 by decide] at hy; omega
              · rw [e, show (2 : Int) ^ 12 = 4096 by decide] at hy; omega
              · rw [e, show (2 : Int) ^ 13 = 8192 by decide] at hy; omega, rfl⟩
        · skip
          refine i_iinc (j := 1) (q := 58) (lv' := [(1, vI ((1 + 8) + 4)), (0, vI (y / 256))]) C rfl (by decide) rfl dJ6_numberOfTrailingZeros_0f7a4_55 rfl ?_
          refine i_iload_n (j := 1) (q := 59) C rfl rfl dJ6_numberOfTrailingZeros_0f7a4_58 rfl ?_
          refine i_iconst (q := 60) C dJ6_numberOfTrailingZeros_0f7a4_59 rfl ?_
          refine i_iushr (z := (y / 256) / 16) (q := 61) C (zI_ush 4 (by omega) (by omega) (by decide)) dJ6_numberOfTrailingZeros_0f7a4_60 rfl ?_
          refine i_istore_n (q := 62) (lv' := [(0, vI ((y / 256) / 16)), (1, vI ((1 + 8) + 4))]) C rfl (by decide) rfl dJ6_numberOfTrailingZeros_0f7a4_61 rfl ?_
          refine i_iload_n (j := 0) (q := 63) C rfl rfl dJ6_numberOfTrailingZeros_0f7a4_62 rfl ?_
          refine i_iconst (q := 64) C dJ6_numberOfTrailingZeros_0f7a4_63 rfl ?_
          refine i_icmp_le (tgt := 74) (q := 67) C (by omega) (by omega) dJ6_numberOfTrailingZeros_0f7a4_64 (by decide) rfl (fun c_64 => ?_) (fun c_64 => ?_)
          · skip
            refine i_iload_n (j := 1) (q := 75) C rfl rfl dJ6_numberOfTrailingZeros_0f7a4_74 rfl ?_
            refine i_iload_n (j := 0) (q := 76) C rfl rfl dJ6_numberOfTrailingZeros_0f7a4_75 rfl ?_
            refine i_iconst (q := 77) C dJ6_numberOfTrailingZeros_0f7a4_76 rfl ?_
            refine i_iushr (z := ((y / 256) / 16) / 2) (q := 78) C (zI_ush 1 (by omega) (by omega) (by decide)) dJ6_numberOfTrailingZeros_0f7a4_77 rfl ?_
            refine i_iadd (q := 79) C dJ6_numberOfTrailingZeros_0f7a4_78 rfl ?_
            refine i_iret C hR dJ6_numberOfTrailingZeros_0f7a4_79 ?_
            have hy0 : 1 ≤ ((y / 256) / 16) := by omega
            have lo := tz_lo (t := t) 12 (A := 4096) (by decide) (by rw [← hy]; omega)
            exact ⟨by
              simp only [Option.some.injEq, Sum.inl.injEq]
              have hi := tz_hi (t := t) 15 (B := 32768) (by decide) (by rw [← hy]; omega)
              rcases (show t = 13 ∨ t = 14 ∨ t = 15 by omega) with e | e | e
              · rw [e, show (2 : Int) ^ 13 = 8192 by decide] at hy; omega
              · rw [e, show (2 : Int) ^ 14 = 16384 by decide] at hy; omega
              · rw [e, show (2 : Int) ^ 15 = 32768 by decide] at hy; omega, rfl⟩
          · skip
            refine i_iinc (j := 1) (q := 70) (lv' := [(1, vI (((1 + 8) + 4) + 2)), (0, vI ((y / 256) / 16))]) C rfl (by decide) rfl dJ6_numberOfTrailingZeros_0f7a4_67 rfl ?_
            refine i_iload_n (j := 1) (q := 71) C rfl rfl dJ6_numberOfTrailingZeros_0f7a4_70 rfl ?_
            refine i_iconst (q := 72) C dJ6_numberOfTrailingZeros_0f7a4_71 rfl ?_
            refine i_iushr (z := ((y / 256) / 16) / 4) (q := 73) C (zI_ush 2 (by omega) (by omega) (by decide)) dJ6_numberOfTrailingZeros_0f7a4_72 rfl ?_
            refine i_istore_n (q := 74) (lv' := [(0, vI (((y / 256) / 16) / 4)), (1, vI (((1 + 8) + 4) + 2))]) C rfl (by decide) rfl dJ6_numberOfTrailingZeros_0f7a4_73 rfl ?_
            refine i_iload_n (j := 1) (q := 75) C rfl rfl dJ6_numberOfTrailingZeros_0f7a4_74 rfl ?_
            refine i_iload_n (j := 0) (q := 76) C rfl rfl dJ6_numberOfTrailingZeros_0f7a4_75 rfl ?_
            refine i_iconst (q := 77) C dJ6_numberOfTrailingZeros_0f7a4_76 rfl ?_
            refine i_iushr (z := (((y / 256) / 16) / 4) / 2) (q := 78) C (zI_ush 1 (by omega) (by omega) (by decide)) dJ6_numberOfTrailingZeros_0f7a4_77 rfl ?_
            refine i_iadd (q := 79) C dJ6_numberOfTrailingZeros_0f7a4_78 rfl ?_
            refine i_iret C hR dJ6_numberOfTrailingZeros_0f7a4_79 ?_
            have hy0 : 1 ≤ (((y / 256) / 16) / 4) := by omega
            have lo := tz_lo (t := t) 14 (A := 16384) (by decide) (by rw [← hy]; omega)
            exact ⟨by
              simp only [Option.some.injEq, Sum.inl.injEq]
              have hi := tz_hi (t := t) 17 (B := 131072) (by decide) (by rw [← hy]; omega)
              rcases (show t = 15 ∨ t = 16 ∨ t = 17 by omega) with e | e | e
              · rw [e, show (2 : Int) ^ 15 = 32768 by decide] at hy; omega
              · rw [e, show (2 : Int) ^ 16 = 65536 by decide] at hy; omega
              · rw [e, show (2 : Int) ^ 17 = 131072 by decide] at hy; omega, rfl⟩
    · skip
      refine i_iinc (j := 0) (q := 29) (lv' := [(1, vI (1 + 16)), (0, vI y)]) C rfl (by decide) rfl dJ6_numberOfTrailingZeros_0f7a4_26 rfl ?_
      refine i_iload_n (j := 1) (q := 30) C rfl rfl dJ6_numberOfTrailingZeros_0f7a4_29 rfl ?_
      refine i_bipush (q := 32) C (by decide) dJ6_numberOfTrailingZeros_0f7a4_30 rfl ?_
      refine i_iushr (z := y / 65536) (q := 33) C (zI_ush 16 (by omega) (by omega) (by decide)) dJ6_numberOfTrailingZeros_0f7a4_32 rfl ?_
      refine i_istore_n (q := 34) (lv' := [(0, vI (y / 65536)), (1, vI (1 + 16))]) C rfl (by decide) rfl dJ6_numberOfTrailingZeros_0f7a4_33 rfl ?_
      refine i_iload_n (j := 0) (q := 35) C rfl rfl dJ6_numberOfTrailingZeros_0f7a4_34 rfl ?_
      refine i_sipush (q := 38) C (by decide) dJ6_numberOfTrailingZeros_0f7a4_35 rfl ?_
      refine i_icmp_le (tgt := 49) (q := 41) C (by omega) (by omega) dJ6_numberOfTrailingZeros_0f7a4_38 (by decide) rfl (fun c_38 => ?_) (fun c_38 => ?_)
      · skip
        refine i_iload_n (j := 0) (q := 50) C rfl rfl dJ6_numberOfTrailingZeros_0f7a4_49 rfl ?_
        refine i_bipush (q := 52) C (by decide) dJ6_numberOfTrailingZeros_0f7a4_50 rfl ?_
        refine i_icmp_le (tgt := 62) (q := 55) C (by omega) (by omega) dJ6_numberOfTrailingZeros_0f7a4_52 (by decide) rfl (fun c_52 => ?_) (fun c_52 => ?_)
        · skip
          refine i_iload_n (j := 0) (q := 63) C rfl rfl dJ6_numberOfTrailingZeros_0f7a4_62 rfl ?_
          refine i_iconst (q := 64) C dJ6_numberOfTrailingZeros_0f7a4_63 rfl ?_
          refine i_icmp_le (tgt := 74) (q := 67) C (by omega) (by omega) dJ6_numberOfTrailingZeros_0f7a4_64 (by decide) rfl (fun c_64 => ?_) (fun c_64 => ?_)
          · skip
            refine i_iload_n (j := 1) (q := 75) C rfl rfl dJ6_numberOfTrailingZeros_0f7a4_74 rfl ?_
            refine i_iload_n (j := 0) (q := 76) C rfl rfl dJ6_numberOfTrailingZeros_0f7a4_75 rfl ?_
            refine i_iconst (q := 77) C dJ6_numberOfTrailingZeros_0f7a4_76 rfl ?_
            refine i_iushr (z := (y / 65536) / 2) (q := 78) C (zI_ush 1 (by omega) (by omega) (by decide)) dJ6_numberOfTrailingZeros_0f7a4_77 rfl ?_
            refine i_iadd (q := 79) C dJ6_numberOfTrailingZeros_0f7a4_78 rfl ?_
            refine i_iret C hR dJ6_numberOfTrailingZeros_0f7a4_79 ?_
            have hy0 : 1 ≤ (y / 65536) := by omega
            have lo := tz_lo (t := t) 16 (A := 65536) (by decide) (by rw [← hy]; omega)
            exact ⟨by
              simp only [Option.some.injEq, Sum.inl.injEq]
              have hi := tz_hi (t := t) 19 (B := 524288) (by decide) (by rw [← hy]; omega)
              rcases (show t = 17 ∨ t = 18 ∨ t = 19 by omega) with e | e | e
              · rw [e, show (2 : Int) ^ 17 = 131072 by decide] at hy; omega
              · rw [e, show (2 : Int) ^ 18 = 262144 by decide] at hy; omega
              · rw [e, show (2 : Int) ^ 19 = 524288 by decide] at hy; omega, rfl⟩
          · skip
            refine i_iinc (j := 1) (q := 70) (lv' := [(1, vI ((1 + 16) + 2)), (0, vI (y / 65536))]) C rfl (by decide) rfl dJ6_numberOfTrailingZeros_0f7a4_67 rfl ?_
            refine i_iload_n (j := 1) (q := 71) C rfl rfl dJ6_numberOfTrailingZeros_0f7a4_70 rfl ?_
            refine i_iconst (q := 72) C dJ6_numberOfTrailingZeros_0f7a4_71 rfl ?_
            refine i_iushr (z := (y / 65536) / 4) (q := 73) C (zI_ush 2 (by omega) (by omega) (by decide)) dJ6_numberOfTrailingZeros_0f7a4_72 rfl ?_
            refine i_istore_n (q := 74) (lv' := [(0, vI ((y / 65536) / 4)), (1, vI ((1 + 16) + 2))]) C rfl (by decide) rfl dJ6_numberOfTrailingZeros_0f7a4_73 rfl ?_
            refine i_iload_n (j := 1) (q := 75) C rfl rfl dJ6_numberOfTrailingZeros_0f7a4_74 rfl ?_
            refine i_iload_n (j := 0) (q := 76) C rfl rfl dJ6_numberOfTrailingZeros_0f7a4_75 rfl ?_
            refine i_iconst (q := 77) C dJ6_numberOfTrailingZeros_0f7a4_76 rfl ?_
            refine i_iushr (z := ((y / 65536) / 4) / 2) (q := 78) C (zI_ush 1 (by omega) (by omega) (by decide)) dJ6_numberOfTrailingZeros_0f7a4_77 rfl ?_
            refine i_iadd (q := 79) C dJ6_numberOfTrailingZeros_0f7a4_78 rfl ?_
            refine i_iret C hR dJ6_numberOfTrailingZeros_0f7a4_79 ?_
            have hy0 : 1 ≤ ((y / 65536) / 4) := by omega
            have lo := tz_lo (t := t) 18 (A := 262144) (by decide) (by rw [← hy]; omega)
            exact ⟨by
              simp only [Option.some.injEq, Sum.inl.injEq]
              have hi := tz_hi (t := t) 21 (B := 2097152) (by decide) (by rw [← hy]; omega)
              rcases (show t = 19 ∨ t = 20 ∨ t = 21 by omega) with e | e | e
              · rw [e, show (2 : Int) ^ 19 = 524288 by decide] at hy; omega
              · rw [e, show (2 : Int) ^ 20 = 1048576 by decide] at hy; omega
              · rw [e, show (2 : Int) ^ 21 = 2097152 by decide] at hy; omega, rfl⟩
        · skip
          refine i_iinc (j := 1) (q := 58) (lv' := [(1, vI ((1 + 16) + 4)), (0, vI (y / 65536))]) C rfl (by decide) rfl dJ6_numberOfTrailingZeros_0f7a4_55 rfl ?_
          refine i_iload_n (j := 1) (q := 59) C rfl rfl dJ6_numberOfTrailingZeros_0f7a4_58 rfl ?_
          refine i_iconst (q := 60) C dJ6_numberOfTrailingZeros_0f7a4_59 rfl ?_
          refine i_iushr (z := (y / 65536) / 16) (q := 61) C (zI_ush 4 (by omega) (by omega) (by decide)) dJ6_numberOfTrailingZeros_0f7a4_60 rfl ?_
          refine i_istore_n (q := 62) (lv' := [(0, vI ((y / 65536) / 16)), (1, vI ((1 + 16) + 4))]) C rfl (by decide) rfl dJ6_numberOfTrailingZeros_0f7a4_61 rfl ?_
          refine i_iload_n (j := 0) (q := 63) C rfl rfl dJ6_numberOfTrailingZeros_0f7a4_62 rfl ?_
          refine i_iconst (q := 64) C dJ6_numberOfTrailingZeros_0f7a4_63 rfl ?_
          refine i_icmp_le (tgt := 74) (q := 67) C (by omega) (by omega) dJ6_numberOfTrailingZeros_0f7a4_64 (by decide) rfl (fun c_64 => ?_) (fun c_64 => ?_)
          · skip
            refine i_iload_n (j := 1) (q := 75) C rfl rfl dJ6_numberOfTrailingZeros_0f7a4_74 rfl ?_
            refine i_iload_n (j := 0) (q := 76) C rfl rfl dJ6_numberOfTrailingZeros_0f7a4_75 rfl ?_
            refine i_iconst (q := 77) C dJ6_numberOfTrailingZeros_0f7a4_76 rfl ?_
            refine i_iushr (z := ((y / 65536) / 16) / 2) (q := 78) C (zI_ush 1 (by omega) (by omega) (by decide)) dJ6_numberOfTrailingZeros_0f7a4_77 rfl ?_
            refine i_iadd (q := 79) C dJ6_numberOfTrailingZeros_0f7a4_78 rfl ?_
            refine i_iret C hR dJ6_numberOfTrailingZeros_0f7a4_79 ?_
            have hy0 : 1 ≤ ((y / 65536) / 16) := by omega
            have lo := tz_lo (t := t) 20 (A := 1048576) (by decide) (by rw [← hy]; omega)
            exact ⟨by
              simp only [Option.some.injEq, Sum.inl.injEq]
              have hi := tz_hi (t := t) 23 (B := 8388608) (by decide) (by rw [← hy]; omega)
              rcases (show t = 21 ∨ t = 22 ∨ t = 23 by omega) with e | e | e
              · rw [e, show (2 : Int) ^ 21 = 2097152 by decide] at hy; omega
              · rw [e, show (2 : Int) ^ 22 = 4194304 by decide] at hy; omega
              · rw [e, show (2 : Int) ^ 23 = 8388608 by decide] at hy; omega, rfl⟩
          · skip
            refine i_iinc (j := 1) (q := 70) (lv' := [(1, vI (((1 + 16) + 4) + 2)), (0, vI ((y / 65536) / 16))]) C rfl (by decide) rfl dJ6_numberOfTrailingZeros_0f7a4_67 rfl ?_
            refine i_iload_n (j := 1) (q := 71) C rfl rfl dJ6_numberOfTrailingZeros_0f7a4_70 rfl ?_
            refine i_iconst (q := 72) C dJ6_numberOfTrailingZeros_0f7a4_71 rfl ?_
            refine i_iushr (z := ((y / 65536) / 16) / 4) (q := 73) C (zI_ush 2 (by omega) (by omega) (by decide)) dJ6_numberOfTrailingZeros_0f7a4_72 rfl ?_
            refine i_istore_n (q := 74) (lv' := [(0, vI (((y / 65536) / 16) / 4)), (1, vI (((1 + 16) + 4) + 2))]) C rfl (by decide) rfl dJ6_numberOfTrailingZeros_0f7a4_73 rfl ?_
            refine i_iload_n (j := 1) (q := 75) C rfl rfl dJ6_numberOfTrailingZeros_0f7a4_74 rfl ?_
            refine i_iload_n (j := 0) (q := 76) C rfl rfl dJ6_numberOfTrailingZeros_0f7a4_75 rfl ?_
            refine i_iconst (q := 77) C dJ6_numberOfTrailingZeros_0f7a4_76 rfl ?_
            refine i_iushr (z := (((y / 65536) / 16) / 4) / 2) (q := 78) C (zI_ush 1 (by omega) (by omega) (by decide)) dJ6_numberOfTrailingZeros_0f7a4_77 rfl ?_
            refine i_iadd (q := 79) C dJ6_numberOfTrailingZeros_0f7a4_78 rfl ?_
            refine i_iret C hR dJ6_numberOfTrailingZeros_0f7a4_79 ?_
            have hy0 : 1 ≤ (((y / 65536) / 16) / 4) := by omega
            have lo := tz_lo (t := t) 22 (A := 4194304) (by decide) (by rw [← hy]; omega)
            exact ⟨by
              simp only [Option.some.injEq, Sum.inl.injEq]
              have hi := tz_hi (t := t) 25 (B := 33554432) (by decide) (by rw [← hy]; omega)
              rcases (show t = 23 ∨ t = 24 ∨ t = 25 by omega) with e | e | e
              · rw [e, show (2 : Int) ^ 23 = 8388608 by decide] at hy; omega
              · rw [e, show (2 : Int) ^ 24 = 16777216 by decide] at hy; omega
              · rw [e, show (2 : Int) ^ 25 = 33554432 by decide] at hy; omega, rfl⟩
      · skip
        refine i_iinc (j := 1) (q := 44) (lv' := [(1, vI ((1 + 16) + 8)), (0, vI (y / 65536))]) C rfl (by decide) rfl dJ6_numberOfTrailingZeros_0f7a4_41 rfl ?_
        refine i_iload_n (j := 1) (q := 45) C rfl rfl dJ6_numberOfTrailingZeros_0f7a4_44 rfl ?_
        refine i_bipush (q := 47) C (by decide) dJ6_numberOfTrailingZeros_0f7a4_45 rfl ?_
        refine i_iushr (z := (y / 65536) / 256) (q := 48) C (zI_ush 8 (by omega) (by omega) (by decide)) dJ6_numberOfTrailingZeros_0f7a4_47 rfl ?_
        refine i_istore_n (q := 49) (lv' := [(0, vI ((y / 65536) / 256)), (1, vI ((1 + 16) + 8))]) C rfl (by decide) rfl dJ6_numberOfTrailingZeros_0f7a4_48 rfl ?_
        refine i_iload_n (j := 0) (q := 50) C rfl rfl dJ6_numberOfTrailingZeros_0f7a4_49 rfl ?_
        refine i_bipush (q := 52) C (by decide) dJ6_numberOfTrailingZeros_0f7a4_50 rfl ?_
        refine i_icmp_le (tgt := 62) (q := 55) C (by omega) (by omega) dJ6_numberOfTrailingZeros_0f7a4_52 (by decide) rfl (fun c_52 => ?_) (fun c_52 => ?_)
        · skip
          refine i_iload_n (j := 0) (q := 63) C rfl rfl dJ6_numberOfTrailingZeros_0f7a4_62 rfl ?_
          refine i_iconst (q := 64) C dJ6_numberOfTrailingZeros_0f7a4_63 rfl ?_
          refine i_icmp_le (tgt := 74) (q := 67) C (by omega) (by omega) dJ6_numberOfTrailingZeros_0f7a4_64 (by decide) rfl (fun c_64 => ?_) (fun c_64 => ?_)
          · skip
            refine i_iload_n (j := 1) (q := 75) C rfl rfl dJ6_numberOfTrailingZeros_0f7a4_74 rfl ?_
            refine i_iload_n (j := 0) (q := 76) C rfl rfl dJ6_numberOfTrailingZeros_0f7a4_75 rfl ?_
            refine i_iconst (q := 77) C dJ6_numberOfTrailingZeros_0f7a4_76 rfl ?_
            refine i_iushr (z := ((y / 65536) / 256) / 2) (q := 78) C (zI_ush 1 (by omega) (by omega) (by decide)) dJ6_numberOfTrailingZeros_0f7a4_77 rfl ?_
            refine i_iadd (q := 79) C dJ6_numberOfTrailingZeros_0f7a4_78 rfl ?_
            refine i_iret C hR dJ6_numberOfTrailingZeros_0f7a4_79 ?_
            have hy0 : 1 ≤ ((y / 65536) / 256) := by omega
            have lo := tz_lo (t := t) 24 (A := 16777216) (by decide) (by rw [← hy]; omega)
            exact ⟨by
              simp only [Option.some.injEq, Sum.inl.injEq]
              have hi := tz_hi (t := t) 27 (B := 134217728) (by decide) (by rw [← hy]; omega)
              rcases (show t = 25 ∨ t = 26 ∨ t = 27 by omega) with e | e | e
              · rw [e, show (2 : Int) ^ 25 = 33554432 by decide] at hy; omega
              · rw [e, show (2 : Int) ^ 26 = 67108864 by decide] at hy; omega
              · rw [e, show (2 : Int) ^ 27 = 134217728 by decide] at hy; omega, rfl⟩
          · skip
            refine i_iinc (j := 1) (q := 70) (lv' := [(1, vI (((1 + 16) + 8) + 2)), (0, vI ((y / 65536) / 256))]) C rfl (by decide) rfl dJ6_numberOfTrailingZeros_0f7a4_67 rfl ?_
            refine i_iload_n (j := 1) (q := 71) C rfl rfl dJ6_numberOfTrailingZeros_0f7a4_70 rfl ?_
            refine i_iconst (q := 72) C dJ6_numberOfTrailingZeros_0f7a4_71 rfl ?_
            refine i_iushr (z := ((y / 65536) / 256) / 4) (q := 73) C (zI_ush 2 (by omega) (by omega) (by decide)) dJ6_numberOfTrailingZeros_0f7a4_72 rfl ?_
            refine i_istore_n (q := 74) (lv' := [(0, vI (((y / 65536) / 256) / 4)), (1, vI (((1 + 16) + 8) + 2))]) C rfl (by decide) rfl dJ6_numberOfTrailingZeros_0f7a4_73 rfl ?_
            refine i_iload_n (j := 1) (q := 75) C rfl rfl dJ6_numberOfTrailingZeros_0f7a4_74 rfl ?_
            refine i_iload_n (j := 0) (q := 76) C rfl rfl dJ6_numberOfTrailingZeros_0f7a4_75 rfl ?_
            refine i_iconst (q := 77) C dJ6_numberOfTrailingZeros_0f7a4_76 rfl ?_
            refine i_iushr (z := (((y / 65536) / 256) / 4) / 2) (q := 78) C (zI_ush 1 (by omega) (by omega) (by decide)) dJ6_numberOfTrailingZeros_0f7a4_77 rfl ?_
            refine i_iadd (q := 79) C dJ6_numberOfTrailingZeros_0f7a4_78 rfl ?_
            refine i_iret C hR dJ6_numberOfTrailingZeros_0f7a4_79 ?_
            have hy0 : 1 ≤ (((y / 65536) / 256) / 4) := by omega
            have lo := tz_lo (t := t) 26 (A := 67108864) (by decide) (by rw [← hy]; omega)
            exact ⟨by
              simp only [Option.some.injEq, Sum.inl.injEq]
              have hi := tz_hi (t := t) 29 (B := 536870912) (by decide) (by rw [← hy]; omega)
              rcases (show t = 27 ∨ t = 28 ∨ t = 29 by omega) with e | e | e
              · rw [e, show (2 : Int) ^ 27 = 134217728 by decide] at hy; omega
              · rw [e, show (2 : Int) ^ 28 = 268435456 by decide] at hy; omega
              · rw [e, show (2 : Int) ^ 29 = 536870912 by decide] at hy; omega, rfl⟩
        · skip
          refine i_iinc (j := 1) (q := 58) (lv' := [(1, vI (((1 + 16) + 8) + 4)), (0, vI ((y / 65536) / 256))]) C rfl (by decide) rfl dJ6_numberOfTrailingZeros_0f7a4_55 rfl ?_
          refine i_iload_n (j := 1) (q := 59) C rfl rfl dJ6_numberOfTrailingZeros_0f7a4_58 rfl ?_
          refine i_iconst (q := 60) C dJ6_numberOfTrailingZeros_0f7a4_59 rfl ?_
          refine i_iushr (z := ((y / 65536) / 256) / 16) (q := 61) C (zI_ush 4 (by omega) (by omega) (by decide)) dJ6_numberOfTrailingZeros_0f7a4_60 rfl ?_
          refine i_istore_n (q := 62) (lv' := [(0, vI (((y / 65536) / 256) / 16)), (1, vI (((1 + 16) + 8) + 4))]) C rfl (by decide) rfl dJ6_numberOfTrailingZeros_0f7a4_61 rfl ?_
          refine i_iload_n (j := 0) (q := 63) C rfl rfl dJ6_numberOfTrailingZeros_0f7a4_62 rfl ?_
          refine i_iconst (q := 64) C dJ6_numberOfTrailingZeros_0f7a4_63 rfl ?_
          refine i_icmp_le (tgt := 74) (q := 67) C (by omega) (by omega) dJ6_numberOfTrailingZeros_0f7a4_64 (by decide) rfl (fun c_64 => ?_) (fun c_64 => ?_)
          · skip
            refine i_iload_n (j := 1) (q := 75) C rfl rfl dJ6_numberOfTrailingZeros_0f7a4_74 rfl ?_
            refine i_iload_n (j := 0) (q := 76) C rfl rfl dJ6_numberOfTrailingZeros_0f7a4_75 rfl ?_
            refine i_iconst (q := 77) C dJ6_numberOfTrailingZeros_0f7a4_76 rfl ?_
            refine i_iushr (z := (((y / 65536) / 256) / 16) / 2) (q := 78) C (zI_ush 1 (by omega) (by omega) (by decide)) dJ6_numberOfTrailingZeros_0f7a4_77 rfl ?_
            refine i_iadd (q := 79) C dJ6_numberOfTrailingZeros_0f7a4_78 rfl ?_
            refine i_iret C hR dJ6_numberOfTrailingZeros_0f7a4_79 ?_
            have hy0 : 1 ≤ (((y / 65536) / 256) / 16) := by omega
            have lo := tz_lo (t := t) 28 (A := 268435456) (by decide) (by rw [← hy]; omega)
            exact ⟨by
              simp only [Option.some.injEq, Sum.inl.injEq]
              have hi := tz_hi (t := t) 31 (B := 2147483648) (by decide) (by rw [← hy]; omega)
              rcases (show t = 29 ∨ t = 30 ∨ t = 31 by omega) with e | e | e
              · rw [e, show (2 : Int) ^ 29 = 536870912 by decide] at hy; omega
              · rw [e, show (2 : Int) ^ 30 = 1073741824 by decide] at hy; omega
              · rw [e, show (2 : Int) ^ 31 = 2147483648 by decide] at hy; omega, rfl⟩
          · skip
            refine i_iinc (j := 1) (q := 70) (lv' := [(1, vI ((((1 + 16) + 8) + 4) + 2)), (0, vI (((y / 65536) / 256) / 16))]) C rfl (by decide) rfl dJ6_numberOfTrailingZeros_0f7a4_67 rfl ?_
            refine i_iload_n (j := 1) (q := 71) C rfl rfl dJ6_numberOfTrailingZeros_0f7a4_70 rfl ?_
            refine i_iconst (q := 72) C dJ6_numberOfTrailingZeros_0f7a4_71 rfl ?_
            refine i_iushr (z := (((y / 65536) / 256) / 16) / 4) (q := 73) C (zI_ush 2 (by omega) (by omega) (by decide)) dJ6_numberOfTrailingZeros_0f7a4_72 rfl ?_
            refine i_istore_n (q := 74) (lv' := [(0, vI ((((y / 65536) / 256) / 16) / 4)), (1, vI ((((1 + 16) + 8) + 4) + 2))]) C rfl (by decide) rfl dJ6_numberOfTrailingZeros_0f7a4_73 rfl ?_
            refine i_iload_n (j := 1) (q := 75) C rfl rfl dJ6_numberOfTrailingZeros_0f7a4_74 rfl ?_
            refine i_iload_n (j := 0) (q := 76) C rfl rfl dJ6_numberOfTrailingZeros_0f7a4_75 rfl ?_
            refine i_iconst (q := 77) C dJ6_numberOfTrailingZeros_0f7a4_76 rfl ?_
            refine i_iushr (z := ((((y / 65536) / 256) / 16) / 4) / 2) (q := 78) C (zI_ush 1 (by omega) (by omega) (by decide)) dJ6_numberOfTrailingZeros_0f7a4_77 rfl ?_
            refine i_iadd (q := 79) C dJ6_numberOfTrailingZeros_0f7a4_78 rfl ?_
            refine i_iret C hR dJ6_numberOfTrailingZeros_0f7a4_79 ?_
            have hy0 : 1 ≤ ((((y / 65536) / 256) / 16) / 4) := by omega
            have lo := tz_lo (t := t) 30 (A := 1073741824) (by decide) (by rw [← hy]; omega)
            exact ⟨by
              simp only [Option.some.injEq, Sum.inl.injEq]
              have hi := tz_hi (t := t) 33 (B := 8589934592) (by decide) (by rw [← hy]; omega)
              rcases (show t = 31 ∨ t = 32 ∨ t = 33 by omega) with e | e | e
              · rw [e, show (2 : Int) ^ 31 = 2147483648 by decide] at hy; omega
              · rw [e, show (2 : Int) ^ 32 = 4294967296 by decide] at hy; omega
              · rw [e, show (2 : Int) ^ 33 = 8589934592 by decide] at hy; omega, rfl⟩
  · skip
    refine i_iload_n (j := 0) (q := 13) C rfl rfl dJ6_numberOfTrailingZeros_0f7a4_12 rfl ?_
    refine i_bipush (q := 15) C (by decide) dJ6_numberOfTrailingZeros_0f7a4_13 rfl ?_
    refine i_iand (z := 0) (q := 16) C (by rw [show y = 0 by omega]; decide) dJ6_numberOfTrailingZeros_0f7a4_15 rfl ?_
    refine i_iret C hR dJ6_numberOfTrailingZeros_0f7a4_16 ?_
    have ht0 : t = 0 := by
      rcases Nat.eq_zero_or_pos t with h | h
      · exact h
      · have h9 := p2le (a := 1) (b := t) h
        rw [show (2 : Int) ^ 1 = 2 by decide] at h9
        omega
    exact ⟨by rw [ht0]; rfl, rfl⟩

theorem hd_J6_numberOfTrailingZeros_0f7a4 : yJ6_numberOfTrailingZeros_0f7a4.cls ≠ "java/lang/invoke/MethodHandle" ∧ yJ6_numberOfTrailingZeros_0f7a4.cls ≠ "java/lang/invoke/VarHandle" ∧ (parseMethodDescriptor yJ6_numberOfTrailingZeros_0f7a4.desc).map (fun d => d.parameters.length) = some 1 := by decide +kernel
set_option maxHeartbeats 400000 in
set_option maxRecDepth 100000 in
theorem c_J13_numberOfTrailingZeros_95d88 (K : KT) (l : Launch) (u : Int) (t : Nat) (q : Int) (hu : 0 < u ∧ u < 4611686018427387904) (ht : t < 62) (hq : u = 2 ^ t * (2 * q + 1)) : Mt K l yJ13_numberOfTrailingZeros_95d88 wsJ13_numberOfTrailingZeros_95d88 ({ frames := 1, cells := 0, slots := 0, locals := 21 }) [vJ u] [] 0 0 (fun v w => v = some (vI (((t : Nat) : Int))) ∧ w = []) := by
  refine Mt.of (own := RJ13) (cc := cJ13_numberOfTrailingZeros_95d88) (maxL := 3) (ret := (some .int)) (lv0 := [(0, vJ u)]) (by decide) rfl rfl (Nat.le_of_ble_eq_true rfl) rfl (fun X C hR hNm => ?_)
  refine i_lload_n (j := 0) (q := 1) C rfl rfl dJ13_numberOfTrailingZeros_95d88_0 rfl ?_
  refine i_l2i (q := 2) C dJ13_numberOfTrailingZeros_95d88_1 rfl ?_
  refine V.wrap (b := u - 4294967296 * ((u + 2147483648) / 4294967296)) (zI_wrap u _) ?_
  refine i_istore_n (q := 3) (lv' := [(2, vI (u - 4294967296 * ((u + 2147483648) / 4294967296))), (0, vJ u)]) C rfl (by decide) rfl dJ13_numberOfTrailingZeros_95d88_2 rfl ?_
  refine i_iload_n (j := 0) (q := 4) C rfl rfl dJ13_numberOfTrailingZeros_95d88_3 rfl ?_
  refine i_if_ne (tgt := 21) (q := 7) C (by omega) dJ13_numberOfTrailingZeros_95d88_4 (by decide) rfl (fun c_4 => ?_) (fun c_4 => ?_)
  · skip
    obtain ⟨ht32, q2, hq2⟩ := tz_low hq ht c_4
    refine i_iload_n (j := 0) (q := 22) C rfl rfl dJ13_numberOfTrailingZeros_95d88_21 rfl ?_
    refine i_callS (wr := []) (As := [vI (u - 4294967296 * ((u + 2147483648) / 4294967296))]) (st := []) (q := 25) C (c_J6_numberOfTrailingZeros_0f7a4 K l (u - 4294967296 * ((u + 2147483648) / 4294967296)) (t) (q2) (by first | assumption | omega) (ht32) (hq2)) gJ13_numberOfTrailingZeros_95d88_J6_numberOfTrailingZeros_0f7a4 rfl hd_J6_numberOfTrailingZeros_0f7a4 ⟨Nat.le_of_ble_eq_true rfl, Nat.le_of_ble_eq_true rfl⟩ ⟨rfl, rfl⟩ ⟨Nat.le_of_ble_eq_true rfl, Nat.le_of_ble_eq_true rfl⟩ (permBy [] (by decide) rfl rfl) rfl (Nat.le_of_ble_eq_true rfl) dJ13_numberOfTrailingZeros_95d88_22 rfl (fun v w hq => ?_)
    obtain ⟨rfl, rfl⟩ := hq
    show V X 0 0 25 [(2, vI (u - 4294967296 * ((u + 2147483648) / 4294967296))), (0, vJ u)] [vI ((t : Nat) : Int)] []
    refine i_iret C hR dJ13_numberOfTrailingZeros_95d88_25 ?_
    exact ⟨by first | rfl | (simp only [Option.some.injEq, Sum.inl.injEq]; omega), rfl⟩
  · skip
    obtain ⟨ht32, hq2⟩ := tz_high hq ht (by omega) c_4
    refine i_bipush (q := 9) C (by decide) dJ13_numberOfTrailingZeros_95d88_7 rfl ?_
    refine i_lload_n (j := 1) (q := 10) C rfl rfl dJ13_numberOfTrailingZeros_95d88_9 rfl ?_
    refine i_bipush (q := 12) C (by decide) dJ13_numberOfTrailingZeros_95d88_10 rfl ?_
    refine i_lushr (z := u / 4294967296) (q := 13) C (zL_shr 32 rfl (by omega) (by omega) (by decide)) dJ13_numberOfTrailingZeros_95d88_12 rfl ?_
    refine i_l2i (q := 14) C dJ13_numberOfTrailingZeros_95d88_13 rfl ?_
    refine i_callS (wr := []) (As := [vI (u / 4294967296)]) (st := [vI 32]) (q := 17) C (c_J6_numberOfTrailingZeros_0f7a4 K l (u / 4294967296) (t - 32) (q) (by first | assumption | omega) (by omega) (hq2)) gJ13_numberOfTrailingZeros_95d88_J6_numberOfTrailingZeros_0f7a4 rfl hd_J6_numberOfTrailingZeros_0f7a4 ⟨Nat.le_of_ble_eq_true rfl, Nat.le_of_ble_eq_true rfl⟩ ⟨rfl, rfl⟩ ⟨Nat.le_of_ble_eq_true rfl, Nat.le_of_ble_eq_true rfl⟩ (permBy [] (by decide) rfl rfl) rfl (Nat.le_of_ble_eq_true rfl) dJ13_numberOfTrailingZeros_95d88_14 rfl (fun v w hq => ?_)
    obtain ⟨rfl, rfl⟩ := hq
    show V X 0 0 17 [(2, vI (u - 4294967296 * ((u + 2147483648) / 4294967296))), (0, vJ u)] [vI (((t - 32) : Nat) : Int), vI 32] []
    refine i_iadd (q := 18) C dJ13_numberOfTrailingZeros_95d88_17 rfl ?_
    refine i_goto (q := 25) C dJ13_numberOfTrailingZeros_95d88_18 (by decide) ?_
    refine i_iret C hR dJ13_numberOfTrailingZeros_95d88_25 ?_
    exact ⟨by first | rfl | (simp only [Option.some.injEq, Sum.inl.injEq]; omega), rfl⟩
