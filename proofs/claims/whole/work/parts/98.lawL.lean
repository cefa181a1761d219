set_option maxHeartbeats 2000000 in
set_option maxRecDepth 100000 in
theorem law_loop {X : Cxt} {K : KT} {l : Launch} {b L : Nat} {xs : Nat → Int32} {ax : Nat → Nat} {ab : Nat → Nat} {ap : Nat → Nat} {al : Nat → Nat} {ao : Nat → Nat} {ak : Int → Nat → Nat} {am : Nat → Nat} (C : Cx X K l room_1 cL_law RL wsL_law 4) (hX : Scr X b L xs) (hE : LwE X b) (hL : L ≤ 1536) : ∀ (fuel : Nat) (N : Int) (nu : Int → Int) (wo : Int → Int) (sc : Int → Int) (me : Int → Int) (us : Int → Int) (la : Int → Int) (ct : Int) (gv : Int) (kd : Int) (sl : Int) (Bs : Int → Bk) (nx : Int) (pc : Int) (td : Int) (ck : Int) (ba : Int) (no : Int) (fu : Int) (by_ : Int → Int) (le : Int) (so : Int → Int) (ra : Int → Int) (lc : Int) (ve : Int → Int) (ow : Int → Int) (fi : Int → Int) (se : Int → Int) (oc : Int) (pl : Int) (fa : Int) (st8 : Int → Int) (bk8 : Int → Int) (un8 : Int) (ck8 : Int) (ty8 : Int → Int) (tm8 : Int) (tx8 : Int → Int) (ln8 : Int) (rf8 : Int → Int) (dg8 : Int) (dn8 : Int → Int) (rk8 : Int → Int) (pl8 : Int) (iw8 : Int) (wd8 : Int → Int) (wm8 : Int) (od8 : Int → Int) (oc8 : Int) (A : AS), (512 - N).toNat < fuel → 0 ≤ N → 3 * N ≤ (L : Int) → okC N nu wo sc me us la ct gv kd sl Bs nx pc td ck ba no fu by_ le A → okM N st8 bk8 un8 ck8 ty8 tm8 tx8 ln8 rf8 → absM st8 bk8 un8 ck8 ty8 tm8 tx8 ln8 rf8 = A → V X 113 40870 18 [(0, vP b), (1, vP (ax 0)), (2, vP (am 0)), (3, vI (3 * N))] [] [boW ax ab ap al ao (td, ck, ba, no, fu), bkW ab (nu, wo, sc, me, us, la, ct, gv, kd, sl), paW ap ak (nx, pc), kbW ak Bs, liW al (so, ra, lc), odW ao (by_, ve, ow, fi, se, le, oc, pl, fa), mdW am (st8, bk8, un8, ck8, ty8, tm8, tx8, ln8, rf8, dg8, dn8, rk8, pl8, iw8, wd8, wm8, od8, oc8)] := by
  intro fuel
  induction fuel with
  | zero => intro N nu wo sc me us la ct gv kd sl Bs nx pc td ck ba no fu by_ le so ra lc ve ow fi se oc pl fa st8 bk8 un8 ck8 ty8 tm8 tx8 ln8 rf8 dg8 dn8 rk8 pl8 iw8 wd8 wm8 od8 oc8 A hz; exact absurd hz (Nat.not_lt_zero _)
  | succ fuel ih =>
    intro N nu wo sc me us la ct gv kd sl Bs nx pc td ck ba no fu by_ le so ra lc ve ow fi se oc pl fa st8 bk8 un8 ck8 ty8 tm8 tx8 ln8 rf8 dg8 dn8 rk8 pl8 iw8 wd8 wm8 od8 oc8 A hf h0 h3 hC hM hAB
    obtain ⟨o, h, t, ckA, tx, baA, noA, fuA⟩ := A
    have e1 : ck = ckA := hC.2.2.2.2.1.1
    have e2 : ba = baA := hC.2.2.2.2.2.2.1.1
    have e3 : no = noA := hC.2.2.2.2.2.2.2.1.1
    have e4 : fu = fuA := hC.2.2.2.2.2.2.2.2.1
    have e5 : td = ((pck t : Nat) : Int) := hC.2.2.2.1.2.2
    subst e1 e2 e3 e4 e5
    obtain ⟨i, hie⟩ : ∃ i : Int, i = 3 * N := ⟨_, rfl⟩
    rw [← hie] at h3 ⊢
    have fin : (i + 3 ≤ (L : Int)) → Fin9 X ax ab ap al ao ak am [(0, vP b), (1, vP (ax 0)), (2, vP (am 0)), (3, vI i)] (N + 1) := by
      intro h9 nu' wo' sc' me' us' la' ct' gv' kd' sl' Bs' nx' pc' td' ck' ba' no' fu' by_' le' so' ra' lc' ve' ow' fi' se' oc' pl' fa' st8' bk8' un8' ck8' ty8' tm8' tx8' ln8' rf8' dg8' dn8' rk8' pl8' iw8' wd8' wm8' od8' oc8' A' g1 g2 g3
      refine i_iinc (j := 3) (q := 863) (lv' := [(3, vI (i + 3)), (0, vP b), (1, vP (ax 0)), (2, vP (am 0))]) C rfl (by decide) rfl dL_law_860 rfl ?_
      refine i_goto (q := 18) C dL_law_863 (by decide) ?_
      refine V.lv [1, 2, 3, 0] (lv' := [(0, vP b), (1, vP (ax 0)), (2, vP (am 0)), (3, vI (3 * (N + 1)))]) (by rw [show 3 * (N + 1) = i + 3 by omega]; rfl) ?_
      exact ih (N + 1) nu' wo' sc' me' us' la' ct' gv' kd' sl' Bs' nx' pc' td' ck' ba' no' fu' by_' le' so' ra' lc' ve' ow' fi' se' oc' pl' fa' st8' bk8' un8' ck8' ty8' tm8' tx8' ln8' rf8' dg8' dn8' rk8' pl8' iw8' wd8' wm8' od8' oc8' A' (by omega) (by omega) (by omega) g1 g2 g3
    refine i_iload_n (j := 3) (q := 19) C rfl rfl dL_law_18 rfl ?_
    refine i_aload_n (j := 0) (q := 20) C rfl rfl dL_law_19 rfl ?_
    refine i_sln (q := 21) C hX dL_law_20 rfl ?_
    refine i_iconst (q := 22) C dL_law_21 rfl ?_
    refine i_isub (q := 23) C dL_law_22 rfl ?_
    refine i_icmp_gt (tgt := 866) (q := 26) C (by omega) (by omega) dL_law_23 (by decide) rfl (fun c_23 => ?_) (fun c_23 => ?_)
    · refine i_iconst (q := 867) C dL_law_866 rfl ?_
      exact i_lwend C hE (by decide) (by decide) dL_law_867
    have hi : i = 3 * N ∧ 0 ≤ N ∧ i + 3 ≤ (L : Int) := ⟨hie, h0, by omega⟩
    have fin := fin hi.2.2
    refine i_aload_n (j := 0) (q := 27) C rfl rfl dL_law_26 rfl ?_
    refine i_iload_n (j := 3) (q := 28) C rfl rfl dL_law_27 rfl ?_
    refine i_sld (q := 29) C hX (by omega) dL_law_28 rfl ?_
    refine i_bipush (q := 31) C (by decide) dL_law_29 rfl ?_
    obtain ⟨z, hz⟩ : ∃ z : Int, z = (xs i.toNat &&& 63).toInt := ⟨_, rfl⟩
    refine i_iand (z := z) (q := 32) C (by rw [hz, zI_of, zI_of]; rfl) dL_law_31 rfl ?_
    have hzr : rI z := by rw [hz]; exact zI_rI _
    by_cases e_0 : z = 0
    · refine i_tsIn (q := 180) 0 C e_0 dL_law_32 (by decide) rfl (by decide) ?_
      exact lc_start C hX hL hi hC hM hAB fin
    by_cases e_1 : z = 1
    · refine i_tsIn (q := 193) 1 C e_1 dL_law_32 (by decide) rfl (by decide) ?_
      exact lc_type C hX hL hi hC hM hAB fin
    by_cases e_2 : z = 2
    · refine i_tsIn (q := 216) 2 C e_2 dL_law_32 (by decide) rfl (by decide) ?_
      exact lc_rub C hX hL hi hC hM hAB fin
    by_cases e_3 : z = 3
    · refine i_tsIn (q := 229) 3 C e_3 dL_law_32 (by decide) rfl (by decide) ?_
      exact lc_types C hX hL hi hC hM hAB fin
    by_cases e_4 : z = 4
    · refine i_tsIn (q := 262) 4 C e_4 dL_law_32 (by decide) rfl (by decide) ?_
      exact lc_clear C hX hL hi hC hM hAB fin
    by_cases e_5 : z = 5
    · refine i_tsIn (q := 275) 5 C e_5 dL_law_32 (by decide) rfl (by decide) ?_
      exact lc_adds C hX hL hi hC hM hAB fin
    by_cases e_6 : z = 6
    · refine i_tsIn (q := 308) 6 C e_6 dL_law_32 (by decide) rfl (by decide) ?_
      exact lc_of C hX hL hi hC hM hAB fin
    by_cases e_7 : z = 7
    · refine i_tsIn (q := 341) 7 C e_7 dL_law_32 (by decide) rfl (by decide) ?_
      exact lc_letter C hX hL hi hC hM hAB fin
    by_cases e_8 : z = 8
    · refine i_tsIn (q := 374) 8 C e_8 dL_law_32 (by decide) rfl (by decide) ?_
      exact lc_use C hX hL hi hC hM hAB fin
    by_cases e_9 : z = 9
    · refine i_tsIn (q := 397) 9 C e_9 dL_law_32 (by decide) rfl (by decide) ?_
      exact lc_score C hX hL hi hC hM hAB fin
    by_cases e_10 : z = 10
    · refine i_tsIn (q := 430) 10 C e_10 dL_law_32 (by decide) rfl (by decide) ?_
      exact lc_drop C hX hL hi hC hM hAB fin
    by_cases e_11 : z = 11
    · refine i_tsIn (q := 453) 11 C e_11 dL_law_32 (by decide) rfl (by decide) ?_
      exact lc_rank C hX hL hi hC hM hAB fin
    by_cases e_12 : z = 12
    · refine i_tsIn (q := 476) 12 C e_12 dL_law_32 (by decide) rfl (by decide) ?_
      exact lc_slip C hX hL hi hC hM hAB fin
    by_cases e_13 : z = 13
    · refine i_tsIn (q := 499) 13 C e_13 dL_law_32 (by decide) rfl (by decide) ?_
      exact lc_fades C hX hL hi hC hM hAB fin
    by_cases e_14 : z = 14
    · refine i_tsIn (q := 512) 14 C e_14 dL_law_32 (by decide) rfl (by decide) ?_
      exact lc_draw C hX hL hi hC hM hAB fin
    by_cases e_15 : z = 15
    · refine i_tsIn (q := 545) 15 C e_15 dL_law_32 (by decide) rfl (by decide) ?_
      exact lc_undo C hX hL hi hC hM hAB fin
    by_cases e_16 : z = 16
    · refine i_tsIn (q := 558) 16 C e_16 dL_law_32 (by decide) rfl (by decide) ?_
      exact lc_best C hX hL hi hC hM hAB fin
    by_cases e_17 : z = 17
    · refine i_tsIn (q := 581) 17 C e_17 dL_law_32 (by decide) rfl (by decide) ?_
      exact lc_near C hX hL hi hC hM hAB fin
    by_cases e_18 : z = 18
    · refine i_tsIn (q := 604) 18 C e_18 dL_law_32 (by decide) rfl (by decide) ?_
      exact lc_top C hX hL hi hC hM hAB fin
    by_cases e_19 : z = 19
    · refine i_tsIn (q := 617) 19 C e_19 dL_law_32 (by decide) rfl (by decide) ?_
      exact lc_under C hX hL hi hC hM hAB fin
    by_cases e_20 : z = 20
    · refine i_tsIn (q := 630) 20 C e_20 dL_law_32 (by decide) rfl (by decide) ?_
      exact lc_close C hX hL hi hC hM hAB fin
    by_cases e_21 : z = 21
    · refine i_tsIn (q := 643) 21 C e_21 dL_law_32 (by decide) rfl (by decide) ?_
      exact lc_ahead C hX hL hi hC hM hAB fin
    by_cases e_22 : z = 22
    · refine i_tsIn (q := 656) 22 C e_22 dL_law_32 (by decide) rfl (by decide) ?_
      exact lc_common C hX hL hi hC hM hAB fin
    by_cases e_23 : z = 23
    · refine i_tsIn (q := 669) 23 C e_23 dL_law_32 (by decide) rfl (by decide) ?_
      exact lc_find C hX hL hi hC hM hAB fin
    by_cases e_24 : z = 24
    · refine i_tsIn (q := 682) 24 C e_24 dL_law_32 (by decide) rfl (by decide) ?_
      exact lc_keys C hX hL hi hC hM hAB fin
    by_cases e_25 : z = 25
    · refine i_tsIn (q := 705) 25 C e_25 dL_law_32 (by decide) rfl (by decide) ?_
      exact lc_saved C hX hL hi hC hM hAB fin
    by_cases e_26 : z = 26
    · refine i_tsIn (q := 718) 26 C e_26 dL_law_32 (by decide) rfl (by decide) ?_
      exact lc_twins C hX hL hi hC hM hAB fin
    by_cases e_27 : z = 27
    · refine i_tsIn (q := 741) 27 C e_27 dL_law_32 (by decide) rfl (by decide) ?_
      exact lc_alike C hX hL hi hC hM hAB fin
    by_cases e_28 : z = 28
    · refine i_tsIn (q := 774) 28 C e_28 dL_law_32 (by decide) rfl (by decide) ?_
      exact lc_write C hX hL hi hC hM hAB fin
    by_cases e_29 : z = 29
    · refine i_tsIn (q := 797) 29 C e_29 dL_law_32 (by decide) rfl (by decide) ?_
      exact lc_erase C hX hL hi hC hM hAB fin
    by_cases e_30 : z = 30
    · refine i_tsIn (q := 810) 30 C e_30 dL_law_32 (by decide) rfl (by decide) ?_
      exact lc_runs C hX hL hi hC hM hAB fin
    by_cases e_31 : z = 31
    · refine i_tsIn (q := 823) 31 C e_31 dL_law_32 (by decide) rfl (by decide) ?_
      exact lc_told C hX hL hi hC hM hAB fin
    by_cases e_32 : z = 32
    · refine i_tsIn (q := 846) 32 C e_32 dL_law_32 (by decide) rfl (by decide) ?_
      exact lc_digest C hX hL hi hC hM hAB fin
    by_cases hou : z < 0 ∨ 32 < z
    · refine i_tsOut (q := 860) C hzr hou dL_law_32 (by decide) ?_
      exact fin nu wo sc me us la ct gv kd sl Bs nx pc ((pck t : Nat) : Int) ck ba no fu by_ le so ra lc ve ow fi se oc pl fa st8 bk8 un8 ck8 ty8 tm8 tx8 ln8 rf8 dg8 dn8 rk8 pl8 iw8 wd8 wm8 od8 oc8 (o, h, t, ck, tx, ba, no, fu) (okC.s hC (by omega)) (hM.s (by omega)) hAB
    · exact absurd hou (by omega)
