theorem hd_X3_readVerb : yX3_readVerb.cls = RX3 ∧ yX3_readVerb.cls ≠ "java/lang/invoke/MethodHandle" ∧ yX3_readVerb.cls ≠ "java/lang/invoke/VarHandle" ∧ (parseMethodDescriptor yX3_readVerb.desc).map (fun d => d.parameters.length) = some 0 := by decide +kernel
theorem lk_X3_readOrder_19 : Cond.fieldLink RX3 19 (TX3 2).1 (TX3 2).2.1 (TX3 2).2.2.1 ∈ wsX3_readOrder := List.mem_of_getElem? (i := 1) rfl
theorem hi_X3_readOrder_X3 : ∀ w ∈ u_ws RX3 TX3 9, w ∈ wsX3_readOrder := by decide +kernel
theorem lk_X3_readOrder_22 : Cond.fieldLink RX3 22 (TX3 3).1 (TX3 3).2.1 (TX3 3).2.2.1 ∈ wsX3_readOrder := List.mem_of_getElem? (i := 2) rfl
theorem hd_X3_readEnd : yX3_readEnd.cls = RX3 ∧ yX3_readEnd.cls ≠ "java/lang/invoke/MethodHandle" ∧ yX3_readEnd.cls ≠ "java/lang/invoke/VarHandle" ∧ (parseMethodDescriptor yX3_readEnd.desc).map (fun d => d.parameters.length) = some 0 := by decide +kernel
theorem lk_X3_readOrder_29 : Cond.fieldLink RX3 29 (TX3 5).1 (TX3 5).2.1 (TX3 5).2.2.1 ∈ wsX3_readOrder := List.mem_of_getElem? (i := 4) rfl
theorem hd_X3_readNumber : yX3_readNumber.cls = RX3 ∧ yX3_readNumber.cls ≠ "java/lang/invoke/MethodHandle" ∧ yX3_readNumber.cls ≠ "java/lang/invoke/VarHandle" ∧ (parseMethodDescriptor yX3_readNumber.desc).map (fun d => d.parameters.length) = some 1 := by decide +kernel
theorem lk_X3_readOrder_26 : Cond.fieldLink RX3 26 (TX3 4).1 (TX3 4).2.1 (TX3 4).2.2.1 ∈ wsX3_readOrder := List.mem_of_getElem? (i := 3) rfl
theorem hd_X3_hasNumber : yX3_hasNumber.cls ≠ "java/lang/invoke/MethodHandle" ∧ yX3_hasNumber.cls ≠ "java/lang/invoke/VarHandle" ∧ (parseMethodDescriptor yX3_hasNumber.desc).map (fun d => d.parameters.length) = some 1 := by decide +kernel
theorem hd_X3_mostNumber : yX3_mostNumber.cls ≠ "java/lang/invoke/MethodHandle" ∧ yX3_mostNumber.cls ≠ "java/lang/invoke/VarHandle" ∧ (parseMethodDescriptor yX3_mostNumber.desc).map (fun d => d.parameters.length) = some 1 := by decide +kernel
theorem hd_X3_hasWord : yX3_hasWord.cls ≠ "java/lang/invoke/MethodHandle" ∧ yX3_hasWord.cls ≠ "java/lang/invoke/VarHandle" ∧ (parseMethodDescriptor yX3_hasWord.desc).map (fun d => d.parameters.length) = some 1 := by decide +kernel
theorem hd_X3_readWord : yX3_readWord.cls = RX3 ∧ yX3_readWord.cls ≠ "java/lang/invoke/MethodHandle" ∧ yX3_readWord.cls ≠ "java/lang/invoke/VarHandle" ∧ (parseMethodDescriptor yX3_readWord.desc).map (fun d => d.parameters.length) = some 0 := by decide +kernel
set_option maxHeartbeats 400000 in
set_option maxRecDepth 100000 in
theorem c_X3_readOrder (K : KT) (l : Launch) (ao : Nat → Nat) (by_ : Int → Int) (ve : Int → Int) (ow : Int → Int) (fi : Int → Int) (se : Int → Int) (le : Int) (oc : Int) (pl : Int) (fa : Int) (ix : Int) (hle : 0 ≤ le ∧ le ≤ 120) (hby : ∀ k, 0 ≤ k → k < le → 0 ≤ by_ k ∧ by_ k ≤ 127) (hpl : 0 ≤ pl ∧ pl ≤ le) (hfa : fa = -1) (hix : 0 ≤ ix ∧ ix < 24) : Mt K l yX3_readOrder wsX3_readOrder ({ frames := 6, cells := 0, slots := 0, locals := 132 }) [vP (ao 0), vI ix] [odW ao (by_, ve, ow, fi, se, le, oc, pl, fa)] 0 0 (fun v w => ∃ w3 : Int, ∃ a3 : Int, ∃ b3 : Int, ∃ pl3 : Int, ∃ fa3 : Int, v = none ∧ w = [odW ao (by_, up ve ix ((pV (rg by_ le) pl).2.2 - 1), up ow ix w3, up fi ix a3, up se ix b3, le, oc, pl3, fa3)] ∧ (gd fa3 pl3 (s3 (rg by_ le) pl).1 (s3 (rg by_ le) pl).2) ∧ (0 ≤ pl3 ∧ pl3 ≤ le) ∧ ((s3 (rg by_ le) pl).1 = 0 → w3 = ((pck ((sW (rg by_ le) pl).2.2) : Nat) : Int) ∧ a3 = (s1 (rg by_ le) pl).2.2 ∧ b3 = (s2 (rg by_ le) pl).2.2)) := by
  refine Mt.of (own := RX3) (cc := cX3_readOrder) (maxL := 3) (ret := none) (lv0 := [(0, vP (ao 0)), (1, vI ix)]) (by decide) rfl rfl (Nat.le_of_ble_eq_true rfl) rfl (fun X C hR hNm => ?_)
  have hTl : (((rg by_ le).length : Nat) : Int) = le := by rw [rg_len]; omega
  have iV := pV_in (T := (rg by_ le)) (p := pl) hpl.1 (by omega)
  have iW := sW_in (T := (rg by_ le)) (p := pl) hpl.1 (by omega)
  have i1 := s1_in (T := (rg by_ le)) (p := pl) hpl.1 (by omega)
  have i2 := s2_in (T := (rg by_ le)) (p := pl) hpl.1 (by omega)
  have i3 := s3_in (T := (rg by_ le)) (p := pl) hpl.1 (by omega)
  rw [hTl] at iV iW i1 i2 i3
  have gv : gd (if (pV (rg by_ le) pl).1 = 0 then -1 else (pV (rg by_ le) pl).2.1) (pV (rg by_ le) pl).2.1 (pV (rg by_ le) pl).1 (pV (rg by_ le) pl).2.1 := by
    rcases iV.1 with e | e
    · rw [if_pos e]; exact Or.inl ⟨rfl, e, rfl⟩
    · rw [if_neg (by omega)]; exact Or.inr ⟨e, rfl, iV.2.1.1⟩
  refine i_aload_n (j := 0) (q := 1) C rfl rfl dX3_readOrder_0 rfl ?_
  refine i_callV (wr := []) (As := []) (st := []) (i := 0) (j := 0) (q := 4) C (c_X3_readVerb K l (ao) (by_) (ve) (ow) (fi) (se) (le) (oc) (pl) (fa) (by first | assumption | omega) (by first | assumption | omega) (by first | assumption | omega) (by first | assumption | omega)) gX3_readOrder_X3_readVerb rfl hd_X3_readVerb ⟨Nat.le_of_ble_eq_true rfl, Nat.le_of_ble_eq_true rfl⟩ ⟨rfl, rfl⟩ ⟨Nat.le_of_ble_eq_true rfl, Nat.le_of_ble_eq_true rfl⟩ (permBy [0] (by decide) rfl rfl) rfl rfl rfl rfl (Nat.le_of_ble_eq_true rfl) dX3_readOrder_1 rfl (fun v w hq => ?_)
  obtain ⟨rfl, rfl⟩ := hq
  show V X 0 0 4 [(0, vP (ao 0)), (1, vI ix)] [vI ((pV (rg by_ le) pl).2.2 - 1)] [odW ao (by_, ve, ow, fi, se, le, oc, (pV (rg by_ le) pl).2.1, if (pV (rg by_ le) pl).1 = 0 then -1 else (pV (rg by_ le) pl).2.1)]
  refine i_istore_n (q := 5) (lv' := [(2, vI ((pV (rg by_ le) pl).2.2 - 1)), (0, vP (ao 0)), (1, vI ix)]) C rfl (by decide) rfl dX3_readOrder_4 rfl ?_
  refine i_aload_n (j := 1) (q := 6) C rfl rfl dX3_readOrder_5 rfl ?_
  refine i_get (i := 0) (j := 0) (f := 2) (q := 9) C rfl rfl rfl hi_X3_readOrder_X3 (by decide) lk_X3_readOrder_19 rfl dX3_readOrder_6 rfl ?_
  refine i_iload_n (j := 2) (q := 10) C rfl rfl dX3_readOrder_9 rfl ?_
  refine i_iload_n (j := 0) (q := 11) C rfl rfl dX3_readOrder_10 rfl ?_
  refine i_iast (i := 0) (j := 2) (q := 12) (cs' := [odW ao (by_, up ve ix ((pV (rg by_ le) pl).2.2 - 1), ow, fi, se, le, oc, (pV (rg by_ le) pl).2.1, if (pV (rg by_ le) pl).1 = 0 then -1 else (pV (rg by_ le) pl).2.1)]) C rfl rfl (by omega) dX3_readOrder_11 rfl rfl ?_
  refine i_aload_n (j := 1) (q := 13) C rfl rfl dX3_readOrder_12 rfl ?_
  refine i_get (i := 0) (j := 0) (f := 3) (q := 16) C rfl rfl rfl hi_X3_readOrder_X3 (by decide) lk_X3_readOrder_22 rfl dX3_readOrder_13 rfl ?_
  refine i_iload_n (j := 2) (q := 17) C rfl rfl dX3_readOrder_16 rfl ?_
  have join_32 : ∀ (w2 : Int) (p2 : Int) (f2 : Int), (gd f2 p2 (sW (rg by_ le) pl).1 (sW (rg by_ le) pl).2.1 ∧ (0 ≤ p2 ∧ p2 ≤ le) ∧ ((sW (rg by_ le) pl).1 = 0 → w2 = ((pck ((sW (rg by_ le) pl).2.2) : Nat) : Int))) → V X 0 0 32 [(0, vP (ao 0)), (1, vI ix), (2, vI ((pV (rg by_ le) pl).2.2 - 1))] [vJ w2, vI ix, vP (ao 3)] [odW ao (by_, up ve ix ((pV (rg by_ le) pl).2.2 - 1), ow, fi, se, le, oc, p2, f2)] := by
    intro w2 p2 f2 h2
    refine i_last (i := 0) (j := 3) (q := 33) (cs' := [odW ao (by_, up ve ix ((pV (rg by_ le) pl).2.2 - 1), up ow ix w2, fi, se, le, oc, p2, f2)]) C rfl rfl (by omega) dX3_readOrder_32 rfl rfl ?_
    have join_57 : ∀ (r1 : Int) (p3 : Int) (f3 : Int), (gd f3 p3 (s1 (rg by_ le) pl).1 (s1 (rg by_ le) pl).2.1 ∧ (0 ≤ p3 ∧ p3 ≤ le) ∧ ((s1 (rg by_ le) pl).1 = 0 → r1 = (s1 (rg by_ le) pl).2.2)) → V X 0 0 57 [(0, vP (ao 0)), (1, vI ix), (2, vI ((pV (rg by_ le) pl).2.2 - 1))] [vI r1, vI ix, vP (ao 4)] [odW ao (by_, up ve ix ((pV (rg by_ le) pl).2.2 - 1), up ow ix w2, fi, se, le, oc, p3, f3)] := by
      intro r1 p3 f3 h3
      refine i_iast (i := 0) (j := 4) (q := 58) (cs' := [odW ao (by_, up ve ix ((pV (rg by_ le) pl).2.2 - 1), up ow ix w2, up fi ix r1, se, le, oc, p3, f3)]) C rfl rfl (by omega) dX3_readOrder_57 rfl rfl ?_
      have join_77 : ∀ (r2 : Int) (p4 : Int) (f4 : Int), (gd f4 p4 (s2 (rg by_ le) pl).1 (s2 (rg by_ le) pl).2.1 ∧ (0 ≤ p4 ∧ p4 ≤ le) ∧ ((s2 (rg by_ le) pl).1 = 0 → r2 = (s2 (rg by_ le) pl).2.2)) → V X 0 0 77 [(0, vP (ao 0)), (1, vI ix), (2, vI ((pV (rg by_ le) pl).2.2 - 1))] [vI r2, vI ix, vP (ao 5)] [odW ao (by_, up ve ix ((pV (rg by_ le) pl).2.2 - 1), up ow ix w2, up fi ix r1, se, le, oc, p4, f4)] := by
        intro r2 p4 f4 h4
        refine i_iast (i := 0) (j := 5) (q := 78) (cs' := [odW ao (by_, up ve ix ((pV (rg by_ le) pl).2.2 - 1), up ow ix w2, up fi ix r1, up se ix r2, le, oc, p4, f4)]) C rfl rfl (by omega) dX3_readOrder_77 rfl rfl ?_
        refine i_aload_n (j := 0) (q := 79) C rfl rfl dX3_readOrder_78 rfl ?_
        refine i_callV (wr := []) (As := []) (st := []) (i := 0) (j := 0) (q := 82) C (c_X3_readEnd K l (ao) (by_) (up ve ix ((pV (rg by_ le) pl).2.2 - 1)) (up ow ix w2) (up fi ix r1) (up se ix r2) (le) (oc) (p4) (f4) (by first | assumption | omega) (by first | assumption | omega) (h4.2.1) (by rcases h4.1 with h | h <;> omega)) gX3_readOrder_X3_readEnd rfl hd_X3_readEnd ⟨Nat.le_of_ble_eq_true rfl, Nat.le_of_ble_eq_true rfl⟩ ⟨rfl, rfl⟩ ⟨Nat.le_of_ble_eq_true rfl, Nat.le_of_ble_eq_true rfl⟩ (permBy [0] (by decide) rfl rfl) rfl rfl rfl rfl (Nat.le_of_ble_eq_true rfl) dX3_readOrder_79 rfl (fun v w hq => ?_)
        obtain ⟨rfl, rfl⟩ := hq
        show V X 0 0 82 [(0, vP (ao 0)), (1, vI ix), (2, vI ((pV (rg by_ le) pl).2.2 - 1))] [] [odW ao (by_, up ve ix ((pV (rg by_ le) pl).2.2 - 1), up ow ix w2, up fi ix r1, up se ix r2, le, oc, (pE (rg by_ le) p4).2, ff f4 (pE (rg by_ le) p4).1 (pE (rg by_ le) p4).2)]
        refine i_vret C hR dX3_readOrder_82 ?_
        have hn := pE_in (T := (rg by_ le)) (p := p4) (by omega) (by omega)
        rw [hTl] at hn
        have hg := gd_ff h4.1 hn.1 hn.2.1
        refine ⟨w2, r1, r2, _, _, rfl, rfl, ?_, hn.2, fun z => ⟨h2.2.2 (by omega), h3.2.2 (by omega), h4.2.2 (by omega)⟩⟩
        rcases i2.1 with e | e
        · have ep : p4 = (s2 (rg by_ le) pl).2.1 := by rcases h4.1 with h | h <;> omega
          have hs : s3 (rg by_ le) pl = pE (rg by_ le) p4 := by unfold s3; rw [ep, if_pos e]
          rw [if_pos e, if_pos e] at hg
          rw [hs]; exact hg
        · have hs : s3 (rg by_ le) pl = ((s2 (rg by_ le) pl).1, (s2 (rg by_ le) pl).2.1) := by unfold s3; rw [if_neg (by omega)]
          rw [if_neg (by omega), if_neg (by omega)] at hg
          rw [hs]; exact hg
      refine i_aload_n (j := 0) (q := 59) C rfl rfl dX3_readOrder_58 rfl ?_
      refine i_get (i := 0) (j := 0) (f := 5) (q := 62) C rfl rfl rfl hi_X3_readOrder_X3 (by decide) lk_X3_readOrder_29 rfl dX3_readOrder_59 rfl ?_
      refine i_iload_n (j := 1) (q := 63) C rfl rfl dX3_readOrder_62 rfl ?_
      refine i_iload_n (j := 2) (q := 64) C rfl rfl dX3_readOrder_63 rfl ?_
      refine i_if_ne (tgt := 76) (q := 67) C (by omega) dX3_readOrder_64 (by decide) rfl (fun c_64 => ?_) (fun c_64 => ?_)
      · skip
        refine i_iconst (q := 77) C dX3_readOrder_76 rfl ?_
        exact join_77 (0) (p3) (f3) (by
          have hs : s2 (rg by_ le) pl = ((s1 (rg by_ le) pl).1, (s1 (rg by_ le) pl).2.1, 0) := by unfold s2; rw [if_neg (by omega)]
          rw [hs]
          exact ⟨h3.1, h3.2.1, fun _ => rfl⟩)
      · skip
        refine i_aload_n (j := 0) (q := 68) C rfl rfl dX3_readOrder_67 rfl ?_
        refine i_bipush (q := 70) C (by decide) dX3_readOrder_68 rfl ?_
        refine i_callV (wr := []) (As := [vI 9]) (st := [vI ix, vP (ao 5)]) (i := 0) (j := 0) (q := 73) C (c_X3_readNumber K l (ao) (by_) (up ve ix ((pV (rg by_ le) pl).2.2 - 1)) (up ow ix w2) (up fi ix r1) (se) (le) (oc) (p3) (f3) (9) (by first | assumption | omega) (by first | assumption | omega) (h3.2.1) (by rcases h3.1 with h | h <;> omega) (by omega)) gX3_readOrder_X3_readNumber rfl hd_X3_readNumber ⟨Nat.le_of_ble_eq_true rfl, Nat.le_of_ble_eq_true rfl⟩ ⟨rfl, rfl⟩ ⟨Nat.le_of_ble_eq_true rfl, Nat.le_of_ble_eq_true rfl⟩ (permBy [0] (by decide) rfl rfl) rfl rfl rfl rfl (Nat.le_of_ble_eq_true rfl) dX3_readOrder_70 rfl (fun v w hq => ?_)
        obtain ⟨rfl, rfl⟩ := hq
        show V X 0 0 73 [(0, vP (ao 0)), (1, vI ix), (2, vI ((pV (rg by_ le) pl).2.2 - 1))] [vI ((pN 9 (rg by_ le) p3).2.2), vI ix, vP (ao 5)] [odW ao (by_, up ve ix ((pV (rg by_ le) pl).2.2 - 1), up ow ix w2, up fi ix r1, se, le, oc, (pN 9 (rg by_ le) p3).2.1, ff f3 (pN 9 (rg by_ le) p3).1 (pN 9 (rg by_ le) p3).2.1)]
        refine i_goto (q := 77) C dX3_readOrder_73 (by decide) ?_
        exact join_77 ((pN 9 (rg by_ le) p3).2.2) ((pN 9 (rg by_ le) p3).2.1) (ff f3 (pN 9 (rg by_ le) p3).1 (pN 9 (rg by_ le) p3).2.1) (by
          have hn := pN_in (T := (rg by_ le)) (p := p3) 9 (by omega) (by omega)
          rw [hTl] at hn
          have hg := gd_ff h3.1 hn.1 hn.2.1
          rcases i1.1 with e | e
          · have ep : p3 = (s1 (rg by_ le) pl).2.1 := by rcases h3.1 with h | h <;> omega
            have hs : s2 (rg by_ le) pl = pN 9 (rg by_ le) p3 := by
              unfold s2
              rw [ep, if_pos ⟨e, by omega⟩]
            rw [if_pos e, if_pos e] at hg
            rw [hs]
            exact ⟨hg, hn.2, fun _ => rfl⟩
          · have hs : s2 (rg by_ le) pl = ((s1 (rg by_ le) pl).1, (s1 (rg by_ le) pl).2.1, 0) := by unfold s2; rw [if_neg (by omega)]
            rw [if_neg (by omega), if_neg (by omega)] at hg
            rw [hs]
            exact ⟨hg, hn.2, fun z => by simp only at z; omega⟩)
    refine i_aload_n (j := 0) (q := 34) C rfl rfl dX3_readOrder_33 rfl ?_
    refine i_get (i := 0) (j := 0) (f := 4) (q := 37) C rfl rfl rfl hi_X3_readOrder_X3 (by decide) lk_X3_readOrder_26 rfl dX3_readOrder_34 rfl ?_
    refine i_iload_n (j := 1) (q := 38) C rfl rfl dX3_readOrder_37 rfl ?_
    refine i_iload_n (j := 2) (q := 39) C rfl rfl dX3_readOrder_38 rfl ?_
    refine i_callS (wr := [odW ao (by_, up ve ix ((pV (rg by_ le) pl).2.2 - 1), up ow ix w2, fi, se, le, oc, p2, f2)]) (As := [vI ((pV (rg by_ le) pl).2.2 - 1)]) (st := [vI ix, vP (ao 4)]) (q := 42) C (c_X3_hasNumber K l ((pV (rg by_ le) pl).2.2 - 1) (by omega)) gX3_readOrder_X3_hasNumber rfl hd_X3_hasNumber ⟨Nat.le_of_ble_eq_true rfl, Nat.le_of_ble_eq_true rfl⟩ ⟨rfl, rfl⟩ ⟨Nat.le_of_ble_eq_true rfl, Nat.le_of_ble_eq_true rfl⟩ (permBy [0] (by decide) rfl rfl) rfl (Nat.le_of_ble_eq_true rfl) dX3_readOrder_39 rfl (fun v w hq => ?_)
    obtain ⟨rfl, rfl⟩ := hq
    show V X 0 0 42 [(0, vP (ao 0)), (1, vI ix), (2, vI ((pV (rg by_ le) pl).2.2 - 1))] [vI (if ((pV (rg by_ le) pl).2.2 - 1) = 0 ∨ ((pV (rg by_ le) pl).2.2 - 1) = 2 ∨ ((pV (rg by_ le) pl).2.2 - 1) = 4 ∨ ((pV (rg by_ le) pl).2.2 - 1) = 5 then 1 else 0), vI ix, vP (ao 4)] [odW ao (by_, up ve ix ((pV (rg by_ le) pl).2.2 - 1), up ow ix w2, fi, se, le, oc, p2, f2)]
    refine i_if_eq (tgt := 56) (q := 45) C (if01) dX3_readOrder_42 (by decide) rfl (fun c_42 => ?_) (fun c_42 => ?_)
    · skip
      have h_42 := if0 c_42
      refine i_iconst (q := 57) C dX3_readOrder_56 rfl ?_
      exact join_57 (0) (p2) (f2) (by
        have hs : s1 (rg by_ le) pl = ((sW (rg by_ le) pl).1, (sW (rg by_ le) pl).2.1, 0) := by unfold s1; rw [if_neg (fun z => h_42 (by omega)), if_neg (fun z => h_42 (by omega))]
        rw [hs]
        exact ⟨h2.1, h2.2.1, fun _ => rfl⟩)
    · skip
      have h_42 := ifn0 c_42
      refine i_aload_n (j := 0) (q := 46) C rfl rfl dX3_readOrder_45 rfl ?_
      refine i_iload_n (j := 2) (q := 47) C rfl rfl dX3_readOrder_46 rfl ?_
      refine i_callS (wr := [odW ao (by_, up ve ix ((pV (rg by_ le) pl).2.2 - 1), up ow ix w2, fi, se, le, oc, p2, f2)]) (As := [vI ((pV (rg by_ le) pl).2.2 - 1)]) (st := [vP (ao 0), vI ix, vP (ao 4)]) (q := 50) C (c_X3_mostNumber K l ((pV (rg by_ le) pl).2.2 - 1) (by omega)) gX3_readOrder_X3_mostNumber rfl hd_X3_mostNumber ⟨Nat.le_of_ble_eq_true rfl, Nat.le_of_ble_eq_true rfl⟩ ⟨rfl, rfl⟩ ⟨Nat.le_of_ble_eq_true rfl, Nat.le_of_ble_eq_true rfl⟩ (permBy [0] (by decide) rfl rfl) rfl (Nat.le_of_ble_eq_true rfl) dX3_readOrder_47 rfl (fun v w hq => ?_)
      obtain ⟨rfl, rfl⟩ := hq
      show V X 0 0 50 [(0, vP (ao 0)), (1, vI ix), (2, vI ((pV (rg by_ le) pl).2.2 - 1))] [vI (if ((pV (rg by_ le) pl).2.2 - 1) = 4 then 4 else 1000), vP (ao 0), vI ix, vP (ao 4)] [odW ao (by_, up ve ix ((pV (rg by_ le) pl).2.2 - 1), up ow ix w2, fi, se, le, oc, p2, f2)]
      refine i_callV (wr := []) (As := [vI (if ((pV (rg by_ le) pl).2.2 - 1) = 4 then 4 else 1000)]) (st := [vI ix, vP (ao 4)]) (i := 0) (j := 0) (q := 53) C (c_X3_readNumber K l (ao) (by_) (up ve ix ((pV (rg by_ le) pl).2.2 - 1)) (up ow ix w2) (fi) (se) (le) (oc) (p2) (f2) (if ((pV (rg by_ le) pl).2.2 - 1) = 4 then 4 else 1000) (by first | assumption | omega) (by first | assumption | omega) (h2.2.1) (by rcases h2.1 with h | h <;> omega) (by split <;> omega)) gX3_readOrder_X3_readNumber rfl hd_X3_readNumber ⟨Nat.le_of_ble_eq_true rfl, Nat.le_of_ble_eq_true rfl⟩ ⟨rfl, rfl⟩ ⟨Nat.le_of_ble_eq_true rfl, Nat.le_of_ble_eq_true rfl⟩ (permBy [0] (by decide) rfl rfl) rfl rfl rfl rfl (Nat.le_of_ble_eq_true rfl) dX3_readOrder_50 rfl (fun v w hq => ?_)
      obtain ⟨rfl, rfl⟩ := hq
      show V X 0 0 53 [(0, vP (ao 0)), (1, vI ix), (2, vI ((pV (rg by_ le) pl).2.2 - 1))] [vI ((pN (if ((pV (rg by_ le) pl).2.2 - 1) = 4 then 4 else 1000) (rg by_ le) p2).2.2), vI ix, vP (ao 4)] [odW ao (by_, up ve ix ((pV (rg by_ le) pl).2.2 - 1), up ow ix w2, fi, se, le, oc, (pN (if ((pV (rg by_ le) pl).2.2 - 1) = 4 then 4 else 1000) (rg by_ le) p2).2.1, ff f2 (pN (if ((pV (rg by_ le) pl).2.2 - 1) = 4 then 4 else 1000) (rg by_ le) p2).1 (pN (if ((pV (rg by_ le) pl).2.2 - 1) = 4 then 4 else 1000) (rg by_ le) p2).2.1)]
      refine i_goto (q := 57) C dX3_readOrder_53 (by decide) ?_
      exact join_57 ((pN (if ((pV (rg by_ le) pl).2.2 - 1) = 4 then 4 else 1000) (rg by_ le) p2).2.2) ((pN (if ((pV (rg by_ le) pl).2.2 - 1) = 4 then 4 else 1000) (rg by_ le) p2).2.1) (ff f2 (pN (if ((pV (rg by_ le) pl).2.2 - 1) = 4 then 4 else 1000) (rg by_ le) p2).1 (pN (if ((pV (rg by_ le) pl).2.2 - 1) = 4 then 4 else 1000) (rg by_ le) p2).2.1) (by
        have hn := pN_in (T := (rg by_ le)) (p := p2) (if (pV (rg by_ le) pl).2.2 - 1 = 4 then 4 else 1000) (by omega) (by omega)
        rw [hTl] at hn
        have hg := gd_ff h2.1 hn.1 hn.2.1
        rcases iW.1 with e | e
        · have ep : p2 = (sW (rg by_ le) pl).2.1 := by rcases h2.1 with h | h <;> omega
          have hs : s1 (rg by_ le) pl = pN (if (pV (rg by_ le) pl).2.2 - 1 = 4 then 4 else 1000) (rg by_ le) p2 := by
            unfold s1
            rw [ep]
            by_cases e5 : (pV (rg by_ le) pl).2.2 - 1 = 4
            · rw [if_neg (by omega), if_pos ⟨e, by omega⟩, if_pos e5]
            · rw [if_pos ⟨e, by omega⟩, if_neg e5]
          rw [if_pos e, if_pos e] at hg
          rw [hs]
          exact ⟨hg, hn.2, fun _ => rfl⟩
        · have hs : s1 (rg by_ le) pl = ((sW (rg by_ le) pl).1, (sW (rg by_ le) pl).2.1, 0) := by unfold s1; rw [if_neg (by omega), if_neg (by omega)]
          have hne : ¬ (sW (rg by_ le) pl).1 = 0 := by omega
          rw [if_neg hne, if_neg hne] at hg
          rw [hs]
          exact ⟨hg, hn.2, fun z => absurd z hne⟩)
  refine i_iload_n (j := 0) (q := 18) C rfl rfl dX3_readOrder_17 rfl ?_
  refine i_callS (wr := [odW ao (by_, up ve ix ((pV (rg by_ le) pl).2.2 - 1), ow, fi, se, le, oc, (pV (rg by_ le) pl).2.1, if (pV (rg by_ le) pl).1 = 0 then -1 else (pV (rg by_ le) pl).2.1)]) (As := [vI ((pV (rg by_ le) pl).2.2 - 1)]) (st := [vI ix, vP (ao 3)]) (q := 21) C (c_X3_hasWord K l ((pV (rg by_ le) pl).2.2 - 1) (by omega)) gX3_readOrder_X3_hasWord rfl hd_X3_hasWord ⟨Nat.le_of_ble_eq_true rfl, Nat.le_of_ble_eq_true rfl⟩ ⟨rfl, rfl⟩ ⟨Nat.le_of_ble_eq_true rfl, Nat.le_of_ble_eq_true rfl⟩ (permBy [0] (by decide) rfl rfl) rfl (Nat.le_of_ble_eq_true rfl) dX3_readOrder_18 rfl (fun v w hq => ?_)
  obtain ⟨rfl, rfl⟩ := hq
  show V X 0 0 21 [(2, vI ((pV (rg by_ le) pl).2.2 - 1)), (0, vP (ao 0)), (1, vI ix)] [vI (if ((pV (rg by_ le) pl).2.2 - 1) = 0 ∨ ((pV (rg by_ le) pl).2.2 - 1) = 1 ∨ ((pV (rg by_ le) pl).2.2 - 1) = 2 ∨ ((pV (rg by_ le) pl).2.2 - 1) = 3 then 1 else 0), vI ix, vP (ao 3)] [odW ao (by_, up ve ix ((pV (rg by_ le) pl).2.2 - 1), ow, fi, se, le, oc, (pV (rg by_ le) pl).2.1, if (pV (rg by_ le) pl).1 = 0 then -1 else (pV (rg by_ le) pl).2.1)]
  refine i_if_eq (tgt := 31) (q := 24) C (if01) dX3_readOrder_21 (by decide) rfl (fun c_21 => ?_) (fun c_21 => ?_)
  · skip
    have h_21 := if0 c_21
    refine i_lconst (z := 0) (q := 32) C (by decide) dX3_readOrder_31 rfl ?_
    refine V.lv [1, 2, 0] rfl ?_
    exact join_32 (0) ((pV (rg by_ le) pl).2.1) (if (pV (rg by_ le) pl).1 = 0 then -1 else (pV (rg by_ le) pl).2.1) (by
      have hs : sW (rg by_ le) pl = ((pV (rg by_ le) pl).1, (pV (rg by_ le) pl).2.1, []) := by unfold sW; rw [if_neg (fun z => h_21 (by omega))]
      rw [hs]
      exact ⟨gv, iV.2.1, fun _ => rfl⟩)
  · skip
    have h_21 := ifn0 c_21
    refine i_aload_n (j := 1) (q := 25) C rfl rfl dX3_readOrder_24 rfl ?_
    refine i_callV (wr := []) (As := []) (st := [vI ix, vP (ao 3)]) (i := 0) (j := 0) (q := 28) C (c_X3_readWord K l (ao) (by_) (up ve ix ((pV (rg by_ le) pl).2.2 - 1)) (ow) (fi) (se) (le) (oc) ((pV (rg by_ le) pl).2.1) (if (pV (rg by_ le) pl).1 = 0 then -1 else (pV (rg by_ le) pl).2.1) (by first | assumption | omega) (by first | assumption | omega) (by omega) (by rcases gv with h | h <;> omega)) gX3_readOrder_X3_readWord rfl hd_X3_readWord ⟨Nat.le_of_ble_eq_true rfl, Nat.le_of_ble_eq_true rfl⟩ ⟨rfl, rfl⟩ ⟨Nat.le_of_ble_eq_true rfl, Nat.le_of_ble_eq_true rfl⟩ (permBy [0] (by decide) rfl rfl) rfl rfl rfl rfl (Nat.le_of_ble_eq_true rfl) dX3_readOrder_25 rfl (fun v w hq => ?_)
    obtain ⟨rfl, rfl⟩ := hq
    show V X 0 0 28 [(2, vI ((pV (rg by_ le) pl).2.2 - 1)), (0, vP (ao 0)), (1, vI ix)] [vJ (((pck ((pW (rg by_ le) ((pV (rg by_ le) pl).2.1)).2.2) : Nat) : Int)), vI ix, vP (ao 3)] [odW ao (by_, up ve ix ((pV (rg by_ le) pl).2.2 - 1), ow, fi, se, le, oc, (pW (rg by_ le) ((pV (rg by_ le) pl).2.1)).2.1, ff (if (pV (rg by_ le) pl).1 = 0 then -1 else (pV (rg by_ le) pl).2.1) (pW (rg by_ le) ((pV (rg by_ le) pl).2.1)).1 (pW (rg by_ le) ((pV (rg by_ le) pl).2.1)).2.1)]
    refine i_goto (q := 32) C dX3_readOrder_28 (by decide) ?_
    refine V.lv [1, 2, 0] rfl ?_
    exact join_32 (((pck ((pW (rg by_ le) ((pV (rg by_ le) pl).2.1)).2.2) : Nat) : Int)) ((pW (rg by_ le) ((pV (rg by_ le) pl).2.1)).2.1) (ff (if (pV (rg by_ le) pl).1 = 0 then -1 else (pV (rg by_ le) pl).2.1) (pW (rg by_ le) ((pV (rg by_ le) pl).2.1)).1 (pW (rg by_ le) ((pV (rg by_ le) pl).2.1)).2.1) (by
      have v0 : (pV (rg by_ le) pl).1 = 0 := by omega
      have hs : sW (rg by_ le) pl = pW (rg by_ le) ((pV (rg by_ le) pl).2.1) := by unfold sW; rw [if_pos ⟨v0, by omega⟩]
      have hw := pW_in (T := (rg by_ le)) (p := (pV (rg by_ le) pl).2.1) iV.2.1.1 (by omega)
      rw [hTl] at hw
      have hg := gd_ff gv hw.1 hw.2.1.1
      simp only [if_pos v0] at hg
      rw [hs]
      simp only [if_pos v0]
      exact ⟨hg, hw.2.1, fun _ => by first | rfl | trivial⟩)

theorem lk_X3_readAll_32 : Cond.fieldLink RX3 32 (TX3 6).1 (TX3 6).2.1 (TX3 6).2.2.1 ∈ wsX3_readAll := List.mem_of_getElem? (i := 1) rfl
theorem hi_X3_readAll_X3 : ∀ w ∈ u_ws RX3 TX3 9, w ∈ wsX3_readAll := by decide +kernel
theorem lk_X3_readAll_35 : Cond.fieldLink RX3 35 (TX3 7).1 (TX3 7).2.1 (TX3 7).2.2.1 ∈ wsX3_readAll := List.mem_of_getElem? (i := 2) rfl
theorem lk_X3_readAll_38 : Cond.fieldLink RX3 38 (TX3 8).1 (TX3 8).2.1 (TX3 8).2.2.1 ∈ wsX3_readAll := List.mem_of_getElem? (i := 3) rfl
theorem hd_X3_readOrder : yX3_readOrder.cls = RX3 ∧ yX3_readOrder.cls ≠ "java/lang/invoke/MethodHandle" ∧ yX3_readOrder.cls ≠ "java/lang/invoke/VarHandle" ∧ (parseMethodDescriptor yX3_readOrder.desc).map (fun d => d.parameters.length) = some 1 := by decide +kernel
theorem lk_X3_readAll_15 : Cond.fieldLink RX3 15 (TX3 1).1 (TX3 1).2.1 (TX3 1).2.2.1 ∈ wsX3_readAll := List.mem_of_getElem? (i := 4) rfl
set_option maxHeartbeats 400000 in
set_option maxRecDepth 100000 in
theorem c_X3_readAll (K : KT) (l : Launch) (ao : Nat → Nat) (by_ : Int → Int) (ve : Int → Int) (ow : Int → Int) (fi : Int → Int) (se : Int → Int) (le : Int) (oc : Int) (pl : Int) (fa : Int) (hle : 0 ≤ le ∧ le ≤ 120) (hby : ∀ k, 0 ≤ k → k < le → 0 ≤ by_ k ∧ by_ k ≤ 127) : Mt K l yX3_readAll wsX3_readAll ({ frames := 7, cells := 0, slots := 0, locals := 154 }) [vP (ao 0)] [odW ao (by_, ve, ow, fi, se, le, oc, pl, fa)] 0 0 (fun v w => ∃ ve3 : Int → Int, ∃ ow3 : Int → Int, ∃ fi3 : Int → Int, ∃ se3 : Int → Int, ∃ oc3 : Int, ∃ pl3 : Int, ∃ fa3 : Int, v = some (vI fa3) ∧ w = [odW ao (by_, ve3, ow3, fi3, se3, le, oc3, pl3, fa3)] ∧ ((pA (rg by_ le) 24 0 []).1 = fa3) ∧ (fa3 = -1 → (((pA (rg by_ le) 24 0 []).2.length : Nat) : Int) = oc3 ∧ oc3 ≤ 24 ∧ cor (pA (rg by_ le) 24 0 []).2 ve3 ow3 fi3 se3 ∧ (∀ q ∈ (pA (rg by_ le) 24 0 []).2, okOr q)) ∧ (-1 ≤ fa3 ∧ fa3 ≤ 120)) := by
  refine Mt.of (own := RX3) (cc := cX3_readAll) (maxL := 3) (ret := (some .int)) (lv0 := [(0, vP (ao 0))]) (by decide) rfl rfl (Nat.le_of_ble_eq_true rfl) rfl (fun X C hR hNm => ?_)
  have hTl : (((rg by_ le).length : Nat) : Int) = le := by rw [rg_len]; omega
  refine i_aload_n (j := 0) (q := 1) C rfl rfl dX3_readAll_0 rfl ?_
  refine i_iconst (q := 2) C dX3_readAll_1 rfl ?_
  refine i_putI (i := 0) (j := 0) (f := 6) (q := 5) (cs' := [odW ao (by_, ve, ow, fi, se, le, 0, pl, fa)]) C rfl rfl rfl hi_X3_readAll_X3 tyX3 tyX3_ok nmX3 (by decide) (Nat.le_of_ble_eq_true rfl) lk_X3_readAll_32 rfl rfl dX3_readAll_2 rfl rfl ?_
  refine i_aload_n (j := 0) (q := 6) C rfl rfl dX3_readAll_5 rfl ?_
  refine i_iconst (q := 7) C dX3_readAll_6 rfl ?_
  refine i_putI (i := 0) (j := 0) (f := 7) (q := 10) (cs' := [odW ao (by_, ve, ow, fi, se, le, 0, 0, fa)]) C rfl rfl rfl hi_X3_readAll_X3 tyX3 tyX3_ok nmX3 (by decide) (Nat.le_of_ble_eq_true rfl) lk_X3_readAll_35 rfl rfl dX3_readAll_7 rfl rfl ?_
  refine i_aload_n (j := 0) (q := 11) C rfl rfl dX3_readAll_10 rfl ?_
  refine i_iconst (q := 12) C dX3_readAll_11 rfl ?_
  refine i_putI (i := 0) (j := 0) (f := 8) (q := 15) (cs' := [odW ao (by_, ve, ow, fi, se, le, 0, 0, (-1))]) C rfl rfl rfl hi_X3_readAll_X3 tyX3 tyX3_ok nmX3 (by decide) (Nat.le_of_ble_eq_true rfl) lk_X3_readAll_38 rfl rfl dX3_readAll_12 rfl rfl ?_
  refine i_iconst (q := 16) C dX3_readAll_15 rfl ?_
  refine i_istore_n (q := 17) (lv' := [(1, vI 1), (0, vP (ao 0))]) C rfl (by decide) rfl dX3_readAll_16 rfl ?_
  refine i_iconst (q := 18) C dX3_readAll_17 rfl ?_
  refine i_istore_n (q := 19) (lv' := [(2, vI 0), (1, vI 1), (0, vP (ao 0))]) C rfl (by decide) rfl dX3_readAll_18 rfl ?_
  have loop_19 : ∀ (fuel : Nat) (a : Int) (n : Int) (p : Int) (f : Int) (L : List Or3) (ve4 : Int → Int) (ow4 : Int → Int) (fi4 : Int → Int) (se4 : Int → Int), ((24 - n).toNat) < fuel → (a = 0 ∨ a = 1) → (0 ≤ n ∧ n ≤ 24) → (0 ≤ p ∧ p ≤ le) → ((f = -1 ∧ a = 1 ∧ (((L.length : Nat) : Int) = n ∧ cor L ve4 ow4 fi4 se4 ∧ (∀ q ∈ L, okOr q)) ∧ pA (rg by_ le) 24 0 [] = pA (rg by_ le) (24 - n.toNat) p L) ∨ (f = -1 ∧ a = 0 ∧ (((L.length : Nat) : Int) = n ∧ cor L ve4 ow4 fi4 se4 ∧ (∀ q ∈ L, okOr q)) ∧ pA (rg by_ le) 24 0 [] = (-1, L)) ∨ ((0 ≤ f ∧ f ≤ le) ∧ (pA (rg by_ le) 24 0 []).1 = f)) → V X 0 0 19 [(0, vP (ao 0)), (1, vI a), (2, vI n)] [] [odW ao (by_, ve4, ow4, fi4, se4, le, n, p, f)] := by
    intro fuel
    induction fuel with
    | zero => intro a n p f L ve4 ow4 fi4 se4 hz; exact absurd hz (Nat.not_lt_zero _)
    | succ fuel ih_19 =>
      intro a n p f L ve4 ow4 fi4 se4 hfu_19 ha hn hp hv
      refine i_iload_n (j := 2) (q := 20) C rfl rfl dX3_readAll_19 rfl ?_
      refine i_bipush (q := 22) C (by decide) dX3_readAll_20 rfl ?_
      refine i_icmp_ge (tgt := 76) (q := 25) C (by omega) (by omega) dX3_readAll_22 (by decide) rfl (fun c_22 => ?_) (fun c_22 => ?_)
      · skip
        refine i_aload_n (j := 0) (q := 77) C rfl rfl dX3_readAll_76 rfl ?_
        refine i_get (i := 0) (j := 0) (f := 8) (q := 80) C rfl rfl rfl hi_X3_readAll_X3 (by decide) lk_X3_readAll_38 rfl dX3_readAll_77 rfl ?_
        refine i_iret C hR dX3_readAll_80 ?_
        refine ⟨ve4, ow4, fi4, se4, n, p, f, rfl, rfl, ?_, ?_, ?_⟩
        · rcases hv with h | h | h
          · rw [h.2.2.2, show 24 - n.toNat = 0 by omega]; exact h.1.symm
          · rw [h.2.2.2]; exact h.1.symm
          · exact h.2
        · intro z
          rcases hv with h | h | h
          · rw [h.2.2.2, show 24 - n.toNat = 0 by omega]; exact ⟨h.2.2.1.1, hn.2, h.2.2.1.2.1, h.2.2.1.2.2⟩
          · rw [h.2.2.2]; exact ⟨h.2.2.1.1, hn.2, h.2.2.1.2.1, h.2.2.1.2.2⟩
          · omega
        · rcases hv with h | h | h <;> omega
      · skip
        refine i_iload_n (j := 1) (q := 26) C rfl rfl dX3_readAll_25 rfl ?_
        refine i_if_eq (tgt := 76) (q := 29) C (by omega) dX3_readAll_26 (by decide) rfl (fun c_26 => ?_) (fun c_26 => ?_)
        · skip
          refine i_aload_n (j := 0) (q := 77) C rfl rfl dX3_readAll_76 rfl ?_
          refine i_get (i := 0) (j := 0) (f := 8) (q := 80) C rfl rfl rfl hi_X3_readAll_X3 (by decide) lk_X3_readAll_38 rfl dX3_readAll_77 rfl ?_
          refine i_iret C hR dX3_readAll_80 ?_
          refine ⟨ve4, ow4, fi4, se4, n, p, f, rfl, rfl, ?_, ?_, ?_⟩
          · rcases hv with h | h | h
            · omega
            · rw [h.2.2.2]; exact h.1.symm
            · exact h.2
          · intro z
            rcases hv with h | h | h
            · omega
            · rw [h.2.2.2]; exact ⟨h.2.2.1.1, hn.2, h.2.2.1.2.1, h.2.2.1.2.2⟩
            · omega
          · rcases hv with h | h | h <;> omega
        · skip
          refine i_aload_n (j := 0) (q := 30) C rfl rfl dX3_readAll_29 rfl ?_
          refine i_get (i := 0) (j := 0) (f := 8) (q := 33) C rfl rfl rfl hi_X3_readAll_X3 (by decide) lk_X3_readAll_38 rfl dX3_readAll_30 rfl ?_
          refine i_iconst (q := 34) C dX3_readAll_33 rfl ?_
          refine i_icmp_ne (tgt := 76) (q := 37) C (by rcases hv with h | h | h <;> omega) (by omega) dX3_readAll_34 (by decide) rfl (fun c_34 => ?_) (fun c_34 => ?_)
          · skip
            refine i_aload_n (j := 0) (q := 77) C rfl rfl dX3_readAll_76 rfl ?_
            refine i_get (i := 0) (j := 0) (f := 8) (q := 80) C rfl rfl rfl hi_X3_readAll_X3 (by decide) lk_X3_readAll_38 rfl dX3_readAll_77 rfl ?_
            refine i_iret C hR dX3_readAll_80 ?_
            refine ⟨ve4, ow4, fi4, se4, n, p, f, rfl, rfl, ?_, fun z => absurd z c_34, ?_⟩
            · rcases hv with h | h | h
              · exact absurd h.1 c_34
              · exact absurd h.1 c_34
              · exact h.2
            · rcases hv with h | h | h <;> omega
          · skip
            refine i_aload_n (j := 0) (q := 38) C rfl rfl dX3_readAll_37 rfl ?_
            have hA : (((L.length : Nat) : Int) = n ∧ cor L ve4 ow4 fi4 se4 ∧ (∀ q ∈ L, okOr q)) ∧ pA (rg by_ le) 24 0 [] = pA (rg by_ le) (24 - n.toNat) p L := by
              rcases hv with h | h | h
              · exact h.2.2
              · exact absurd h.2.1 c_26
              · omega
            obtain ⟨⟨hL, hcor, hoks⟩, hpa⟩ := hA
            obtain ⟨kk, hkk⟩ : ∃ kk, 24 - n.toNat = kk + 1 := ⟨24 - n.toNat - 1, by omega⟩
            rw [hkk, pA_s (rg by_ le) kk p L] at hpa
            have hsb := s3_b (T := (rg by_ le)) (p := p) (by omega) (by omega)
            rw [hTl] at hsb
            refine i_iload_n (j := 2) (q := 39) C rfl rfl dX3_readAll_38 rfl ?_
            refine i_callV (wr := []) (As := [vI n]) (st := []) (i := 0) (j := 0) (q := 42) C (c_X3_readOrder K l (ao) (by_) (ve4) (ow4) (fi4) (se4) (le) (n) (p) (f) (n) (by first | assumption | omega) (by first | assumption | omega) (hp) (c_34) (by omega)) gX3_readAll_X3_readOrder rfl hd_X3_readOrder ⟨Nat.le_of_ble_eq_true rfl, Nat.le_of_ble_eq_true rfl⟩ ⟨rfl, rfl⟩ ⟨Nat.le_of_ble_eq_true rfl, Nat.le_of_ble_eq_true rfl⟩ (permBy [0] (by decide) rfl rfl) rfl rfl rfl rfl (Nat.le_of_ble_eq_true rfl) dX3_readAll_39 rfl (fun v w hq => ?_)
            obtain ⟨w3_39, a3_39, b3_39, pl3_39, fa3_39, rfl, rfl, hg_39, hp_39, ho_39⟩ := hq
            show V X 0 0 42 [(0, vP (ao 0)), (1, vI a), (2, vI n)] [] [odW ao (by_, up ve4 n ((pV (rg by_ le) p).2.2 - 1), up ow4 n w3_39, up fi4 n a3_39, up se4 n b3_39, le, n, pl3_39, fa3_39)]
            refine i_aload_n (j := 0) (q := 43) C rfl rfl dX3_readAll_42 rfl ?_
            refine i_iload_n (j := 2) (q := 44) C rfl rfl dX3_readAll_43 rfl ?_
            refine i_iconst (q := 45) C dX3_readAll_44 rfl ?_
            refine i_iadd (q := 46) C dX3_readAll_45 rfl ?_
            refine i_putI (i := 0) (j := 0) (f := 6) (q := 49) (cs' := [odW ao (by_, up ve4 n ((pV (rg by_ le) p).2.2 - 1), up ow4 n w3_39, up fi4 n a3_39, up se4 n b3_39, le, n + 1, pl3_39, fa3_39)]) C rfl rfl rfl hi_X3_readAll_X3 tyX3 tyX3_ok nmX3 (by decide) (Nat.le_of_ble_eq_true rfl) lk_X3_readAll_32 rfl rfl dX3_readAll_46 rfl rfl ?_
            refine i_aload_n (j := 0) (q := 50) C rfl rfl dX3_readAll_49 rfl ?_
            refine i_callV (wr := []) (As := []) (st := []) (i := 0) (j := 0) (q := 53) C (c_X3_skipBlanks K l (ao) (by_) (up ve4 n ((pV (rg by_ le) p).2.2 - 1)) (up ow4 n w3_39) (up fi4 n a3_39) (up se4 n b3_39) (le) (n + 1) (pl3_39) (fa3_39) (by first | assumption | omega) (by first | assumption | omega) (hp_39)) gX3_readAll_X3_skipBlanks rfl hd_X3_skipBlanks ⟨Nat.le_of_ble_eq_true rfl, Nat.le_of_ble_eq_true rfl⟩ ⟨rfl, rfl⟩ ⟨Nat.le_of_ble_eq_true rfl, Nat.le_of_ble_eq_true rfl⟩ (permBy [0] (by decide) rfl rfl) rfl rfl rfl rfl (Nat.le_of_ble_eq_true rfl) dX3_readAll_50 rfl (fun v w hq => ?_)
            obtain ⟨rfl, rfl⟩ := hq
            show V X 0 0 53 [(0, vP (ao 0)), (1, vI a), (2, vI n)] [] [odW ao (by_, up ve4 n ((pV (rg by_ le) p).2.2 - 1), up ow4 n w3_39, up fi4 n a3_39, up se4 n b3_39, le, n + 1, nb (rg by_ le) pl3_39, fa3_39)]
            have hnb9 := nb_b (rg by_ le) (p := pl3_39) (by omega) (by omega)
            rw [hTl] at hnb9
            refine i_aload_n (j := 0) (q := 54) C rfl rfl dX3_readAll_53 rfl ?_
            have join_69 : ∀ (b2 : Int), ((b2 = 1 ∧ nb (rg by_ le) pl3_39 < le) ∨ (b2 = 0 ∧ le ≤ nb (rg by_ le) pl3_39)) → V X 0 0 69 [(0, vP (ao 0)), (1, vI a), (2, vI n)] [vI b2] [odW ao (by_, up ve4 n ((pV (rg by_ le) p).2.2 - 1), up ow4 n w3_39, up fi4 n a3_39, up se4 n b3_39, le, n + 1, nb (rg by_ le) pl3_39, fa3_39)] := by
              intro b2 hb2
              refine i_istore_n (q := 70) (lv' := [(1, vI b2), (0, vP (ao 0)), (2, vI n)]) C rfl (by decide) rfl dX3_readAll_69 rfl ?_
              refine i_iinc (j := 2) (q := 73) (lv' := [(2, vI (n + 1)), (1, vI b2), (0, vP (ao 0))]) C rfl (by decide) rfl dX3_readAll_70 rfl ?_
              refine i_goto (q := 19) C dX3_readAll_73 (by decide) ?_
              refine V.lv [2, 1, 0] rfl ?_
              exact ih_19 (b2) (n + 1) (nb (rg by_ le) pl3_39) (fa3_39) (L ++ [oR (rg by_ le) p]) (up ve4 n ((pV (rg by_ le) p).2.2 - 1)) (up ow4 n w3_39) (up fi4 n a3_39) (up se4 n b3_39) (by omega) (by omega) (by omega) (by omega) (by
                rcases hg_39 with ⟨e1, e2, e3⟩ | ⟨e1, e2, e3⟩
                · have ho9 := ho_39 e2
                  have hok9 : ∀ q ∈ L ++ [oR (rg by_ le) p], okOr q := fun q hq => by
                    rw [List.mem_append] at hq
                    rcases hq with hq | hq
                    · exact hoks q hq
                    · rw [List.mem_singleton.mp hq]
                      rcases hsb with h | h
                      · exact h.2.2
                      · omega
                  rw [if_pos e2, ← e3] at hpa
                  rcases hb2 with h9 | h9
                  · refine Or.inl ⟨e1, h9.1, ⟨by simp; omega, cor_app (r := oR (rg by_ le) p) hcor hL ho9.1 ho9.2.1 ho9.2.2, hok9⟩, ?_⟩
                    rw [hpa, if_pos (by omega), show 24 - (n + 1).toNat = kk by omega]
                  · refine Or.inr (Or.inl ⟨e1, h9.1, ⟨by simp; omega, cor_app (r := oR (rg by_ le) p) hcor hL ho9.1 ho9.2.1 ho9.2.2, hok9⟩, ?_⟩)
                    rw [hpa, if_neg (by omega)]
                · rw [if_neg (by omega)] at hpa
                  exact Or.inr (Or.inr ⟨by rcases hsb with h | h <;> omega, by rw [hpa]; exact e2.symm⟩))
            refine i_get (i := 0) (j := 0) (f := 7) (q := 57) C rfl rfl rfl hi_X3_readAll_X3 (by decide) lk_X3_readAll_35 rfl dX3_readAll_54 rfl ?_
            refine i_aload_n (j := 0) (q := 58) C rfl rfl dX3_readAll_57 rfl ?_
            refine i_get (i := 0) (j := 0) (f := 1) (q := 61) C rfl rfl rfl hi_X3_readAll_X3 (by decide) lk_X3_readAll_15 rfl dX3_readAll_58 rfl ?_
            refine i_icmp_ge (tgt := 68) (q := 64) C (by omega) (by omega) dX3_readAll_61 (by decide) rfl (fun c_61 => ?_) (fun c_61 => ?_)
            · skip
              refine i_iconst (q := 69) C dX3_readAll_68 rfl ?_
              exact join_69 (0) (by omega)
            · skip
              refine i_iconst (q := 65) C dX3_readAll_64 rfl ?_
              refine i_goto (q := 69) C dX3_readAll_65 (by decide) ?_
              exact join_69 (1) (by omega)
  refine V.lv [2, 1, 0] rfl ?_
  exact loop_19 _ (1) (0) (0) ((-1)) ([]) (ve) (ow) (fi) (se) (Nat.lt_succ_self _) (by omega) (by omega) (by omega) (Or.inl ⟨rfl, rfl, ⟨rfl, fun i r h => by simp at h, fun q hq => by simp at hq⟩, rfl⟩)
