theorem lk_X7_isDoneTo_10 : Cond.fieldLink RX7 10 (TX7 0).1 (TX7 0).2.1 (TX7 0).2.2.1 ∈ wsX7_isDoneTo := List.mem_of_getElem? (i := 1) rfl
theorem hi_X7_isDoneTo_X7 : ∀ w ∈ u_ws RX7 TX7 9, w ∈ wsX7_isDoneTo := by decide +kernel
theorem lk_X7_isDoneTo_122 : Cond.fieldLink RX7 122 (TX0 2).1 (TX0 2).2.1 (TX0 2).2.2.1 ∈ wsX7_isDoneTo := List.mem_of_getElem? (i := 2) rfl
theorem hi_X7_isDoneTo_X0 : ∀ w ∈ u_ws RX0 TX0 10, w ∈ wsX7_isDoneTo := by decide +kernel
set_option maxHeartbeats 400000 in
set_option maxRecDepth 100000 in
theorem c_X7_isDoneTo (K : KT) (l : Launch) (ax : Nat → Nat) (ap : Nat → Nat) (al : Nat → Nat) (ao : Nat → Nat) (ck : Int) (ba : Int) (no : Int) (fu : Int) (t : List Int) (ab : Nat → Nat) (nu : Int → Int) (wo : Int → Int) (sc : Int → Int) (me : Int → Int) (us : Int → Int) (la : Int → Int) (ct : Int) (gv : Int) (kd : Int) (sl : Int) (U : Int) (o : Bo) (r : Or3) (x : Int) (hb : rpB U nu wo sc me us la ct gv kd sl o) (hr : okOr r) (hck : 0 ≤ ck ∧ ck ≤ 9999) (hU : 0 ≤ U ∧ U < 1000000) (hr4 : 2 ≤ r.1 ∧ r.1 ≤ 4) (hx : (x = -1 ∧ fw o r.2.1 = none) ∨ (0 ≤ x ∧ x < ct ∧ fw o r.2.1 = some (atP o.1 x))) : Mt K l yX7_isDoneTo wsX7_isDoneTo ({ frames := 4, cells := 0, slots := 0, locals := 87 }) [vP (ax 0), vI x, vI (r.1 - 1), vI (r.2.2.1)] [boW ax ab ap al ao (((pck t : Nat) : Int), ck, ba, no, fu), bkW ab (nu, wo, sc, me, us, la, ct, gv, kd, sl)] 0 0 (fun v w => ∃ nu3 : Int → Int, ∃ wo3 : Int → Int, ∃ sc3 : Int → Int, ∃ me3 : Int → Int, ∃ us3 : Int → Int, ∃ la3 : Int → Int, ∃ ct3 : Int, ∃ ck3 : Int, v = some (vI ((dO (o, ck, 0) r).2.2)) ∧ w = [boW ax ab ap al ao (((pck t : Nat) : Int), ck3, ba, no, fu), bkW ab (nu3, wo3, sc3, me3, us3, la3, ct3, gv, kd, sl)] ∧ (rpB (U + 1) nu3 wo3 sc3 me3 us3 la3 ct3 gv kd sl (dO (o, ck, 0) r).1) ∧ (ck3 = (dO (o, ck, 0) r).2.1)) := by
  refine Mt.of (own := RX7) (cc := cX7_isDoneTo) (maxL := 4) (ret := (some .boolean)) (lv0 := [(0, vP (ax 0)), (1, vI x), (2, vI (r.1 - 1)), (3, vI (r.2.2.1))]) (by decide) rfl rfl (Nat.le_of_ble_eq_true rfl) rfl (fun X C hR hNm => ?_)
  have hct := hb.xct
  have hgv := hb.xgv
  obtain ⟨q1, q2, q3, q4, q5, q6⟩ := hr
  have hkd := hb.xkd
  have hsl := hb.xsl
  refine i_iload_n (j := 1) (q := 1) C rfl rfl dX7_isDoneTo_0 rfl ?_
  refine i_iconst (q := 2) C dX7_isDoneTo_1 rfl ?_
  refine i_icmp_ne (tgt := 7) (q := 5) C (by rcases hx with h | h <;> omega) (by omega) dX7_isDoneTo_2 (by decide) rfl (fun c_2 => ?_) (fun c_2 => ?_)
  · skip
    have hsm : 0 ≤ x ∧ x < ct ∧ fw o r.2.1 = some (atP o.1 x) := by
      rcases hx with h | h
      · exact absurd h.1 c_2
      · exact h
    obtain ⟨g1, g2, hfs⟩ := hsm
    have hnu := hb.xnu x g1 g2
    have hsc := hb.xsc x g1 g2
    have hus := hb.xus x g1 g2
    have hla := hb.xla x g1 g2
    refine i_iload_n (j := 2) (q := 8) C rfl rfl dX7_isDoneTo_7 rfl ?_
    by_cases e_8_1 : r.1 - 1 = 1
    · skip
      refine i_tsIn (q := 36) 1 C e_8_1 dX7_isDoneTo_8 (by decide) rfl (by decide) ?_
      refine i_aload_n (j := 0) (q := 37) C rfl rfl dX7_isDoneTo_36 rfl ?_
      refine i_iload_n (j := 1) (q := 38) C rfl rfl dX7_isDoneTo_37 rfl ?_
      refine i_callV (wr := []) (As := [vI x]) (st := []) (i := 0) (j := 0) (q := 41) C (c_X7_choose K l (ax) (ap) (al) (ao) (ck) (ba) (no) (fu) (t) (ab) (nu) (wo) (sc) (me) (us) (la) (ct) (gv) (kd) (sl) (U) (o) (x) (by first | assumption | omega) (⟨g1, g2⟩) (hck)) gX7_isDoneTo_X7_choose rfl hd_X7_choose ⟨Nat.le_of_ble_eq_true rfl, Nat.le_of_ble_eq_true rfl⟩ ⟨rfl, rfl⟩ ⟨Nat.le_of_ble_eq_true rfl, Nat.le_of_ble_eq_true rfl⟩ (permBy [0, 1] (by decide) rfl rfl) rfl rfl rfl rfl (Nat.le_of_ble_eq_true rfl) dX7_isDoneTo_38 rfl (fun v w hq => ?_)
      obtain ⟨rfl, rfl⟩ := hq
      show V X 0 0 41 [(0, vP (ax 0)), (1, vI x), (2, vI (r.1 - 1)), (3, vI (r.2.2.1))] [vI (nsc kd (sc x) (us x) (la x) (tick ck))] [boW ax ab ap al ao (((pck t : Nat) : Int), tick ck, ba, no, fu), bkW ab (nu, wo, up sc x (nsc kd (sc x) (us x) (la x) (tick ck)), me, up us x (us x + 1), up la x (tick ck), ct, gv, kd, sl)]
      refine i_pop (q := 42) C rfl dX7_isDoneTo_41 rfl ?_
      refine i_iconst (q := 43) C dX7_isDoneTo_42 rfl ?_
      refine i_zret C hR (by omega) dX7_isDoneTo_43 ?_
      have hD : dO (o, ck, 0) r = (useB o (atP o.1 x).1 (tick ck), tick ck, 1) := by
        unfold dO
        simp only
        rw [if_neg (show ¬ r.1 = 1 by omega), if_neg (show ¬ r.1 = 5 by omega), if_neg (show ¬ r.1 = 6 by omega), if_neg (show ¬ r.1 = 7 by omega), hfs]
        simp only
        rw [if_pos (show r.1 = 2 by omega)] <;> rfl
      have hnn := nsc_in kd (sc x) (us x) (la x) (tick ck) hsc.1
      have htk : 0 ≤ tick ck ∧ tick ck ≤ 9999 := by unfold tick; omega
      have x_b : rpB (U + 1) nu wo (up sc x (nsc kd (sc x) (us x) (la x) (tick ck))) me (up us x (us x + 1)) (up la x (tick ck)) ct gv kd sl (useB o (atP o.1 x).1 (tick ck)) := by
        rw [← hnu.2]
        exact hb.set ⟨g1, g2⟩ (by omega) (by omega) hnn (by omega) (by omega) ⟨up_s _ _ _, up_s _ _ _, up_s _ _ _⟩ (fun j hj => ⟨up_n _ _ hj, up_n _ _ hj, up_n _ _ hj⟩) _ (by rw [hsc.2, hus.2, hla.2, hkd.2])
      exact ⟨nu, wo, up sc x (nsc kd (sc x) (us x) (la x) (tick ck)), me, up us x (us x + 1), up la x (tick ck), ct, tick ck, by rw [hD], rfl, by rw [hD]; exact x_b, by rw [hD]⟩
    by_cases e_8_2 : r.1 - 1 = 2
    · skip
      refine i_tsIn (q := 44) 2 C e_8_2 dX7_isDoneTo_8 (by decide) rfl (by decide) ?_
      refine i_aload_n (j := 0) (q := 45) C rfl rfl dX7_isDoneTo_44 rfl ?_
      refine i_get (i := 0) (j := 0) (f := 0) (q := 48) C rfl rfl rfl hi_X7_isDoneTo_X7 (by decide) lk_X7_isDoneTo_10 rfl dX7_isDoneTo_45 rfl ?_
      refine i_get (i := 1) (j := 0) (f := 2) (q := 51) C rfl rfl rfl hi_X7_isDoneTo_X0 (by decide) lk_X7_isDoneTo_122 rfl dX7_isDoneTo_48 rfl ?_
      refine i_iload_n (j := 1) (q := 52) C rfl rfl dX7_isDoneTo_51 rfl ?_
      refine i_iload_n (j := 3) (q := 53) C rfl rfl dX7_isDoneTo_52 rfl ?_
      refine i_iast (i := 1) (j := 3) (q := 54) (cs' := [boW ax ab ap al ao (((pck t : Nat) : Int), ck, ba, no, fu), bkW ab (nu, wo, up sc x r.2.2.1, me, us, la, ct, gv, kd, sl)]) C rfl rfl (by omega) dX7_isDoneTo_53 rfl rfl ?_
      refine i_iconst (q := 55) C dX7_isDoneTo_54 rfl ?_
      refine i_zret C hR (by omega) dX7_isDoneTo_55 ?_
      have hD : dO (o, ck, 0) r = (scoB o (atP o.1 x).1 r.2.2.1, ck, 1) := by
        unfold dO
        simp only
        rw [if_neg (show ¬ r.1 = 1 by omega), if_neg (show ¬ r.1 = 5 by omega), if_neg (show ¬ r.1 = 6 by omega), if_neg (show ¬ r.1 = 7 by omega), hfs]
        simp only
        rw [if_neg (show ¬ r.1 = 2 by omega), if_pos (show r.1 = 3 by omega)] <;> rfl
      have x_b : rpB (U + 1) nu wo (up sc x r.2.2.1) me us la ct gv kd sl (scoB o (atP o.1 x).1 r.2.2.1) := by
        rw [← hnu.2]
        exact hb.set ⟨g1, g2⟩ (by omega) (by omega) q4 (by omega) hla.1 ⟨up_s _ _ _, rfl, rfl⟩ (fun j hj => ⟨up_n _ _ hj, rfl, rfl⟩) _ (by rw [hus.2, hla.2])
      exact ⟨nu, wo, up sc x r.2.2.1, me, us, la, ct, ck, by rw [hD], rfl, by rw [hD]; exact x_b, by rw [hD]⟩
    by_cases e_8_3 : r.1 - 1 = 3
    · skip
      refine i_tsIn (q := 56) 3 C e_8_3 dX7_isDoneTo_8 (by decide) rfl (by decide) ?_
      refine i_aload_n (j := 0) (q := 57) C rfl rfl dX7_isDoneTo_56 rfl ?_
      refine i_get (i := 0) (j := 0) (f := 0) (q := 60) C rfl rfl rfl hi_X7_isDoneTo_X7 (by decide) lk_X7_isDoneTo_10 rfl dX7_isDoneTo_57 rfl ?_
      refine i_iload_n (j := 1) (q := 61) C rfl rfl dX7_isDoneTo_60 rfl ?_
      refine i_callV (wr := [boW ax ab ap al ao (((pck t : Nat) : Int), ck, ba, no, fu)]) (As := [vI x]) (st := []) (i := 0) (j := 0) (q := 64) C (c_X0_takeOut K l (ab) (nu) (wo) (sc) (me) (us) (la) (ct) (gv) (kd) (sl) (x) (by omega) (by omega)) gX7_isDoneTo_X0_takeOut rfl hd_X0_takeOut ⟨Nat.le_of_ble_eq_true rfl, Nat.le_of_ble_eq_true rfl⟩ ⟨rfl, rfl⟩ ⟨Nat.le_of_ble_eq_true rfl, Nat.le_of_ble_eq_true rfl⟩ (permBy [1, 0] (by decide) rfl rfl) rfl rfl rfl rfl (Nat.le_of_ble_eq_true rfl) dX7_isDoneTo_61 rfl (fun v w hq => ?_)
      obtain ⟨nu3_61, wo3_61, sc3_61, me3_61, us3_61, la3_61, rfl, rfl, hc_61⟩ := hq
      show V X 0 0 64 [(0, vP (ax 0)), (1, vI x), (2, vI (r.1 - 1)), (3, vI (r.2.2.1))] [] [bkW ab (nu3_61, wo3_61, sc3_61, me3_61, us3_61, la3_61, ct - 1, gv, kd, sl), boW ax ab ap al ao (((pck t : Nat) : Int), ck, ba, no, fu)]
      refine V.perm (cs' := [boW ax ab ap al ao (((pck t : Nat) : Int), ck, ba, no, fu), bkW ab (nu3_61, wo3_61, sc3_61, me3_61, us3_61, la3_61, ct - 1, gv, kd, sl)]) (permBy [1, 0] (by decide) rfl rfl) ?_
      refine i_iconst (q := 65) C dX7_isDoneTo_64 rfl ?_
      refine i_zret C hR (by omega) dX7_isDoneTo_65 ?_
      have hD : dO (o, ck, 0) r = (outB o (atP o.1 x).1, ck, 1) := by
        unfold dO
        simp only
        rw [if_neg (show ¬ r.1 = 1 by omega), if_neg (show ¬ r.1 = 5 by omega), if_neg (show ¬ r.1 = 6 by omega), if_neg (show ¬ r.1 = 7 by omega), hfs]
        simp only
        rw [if_neg (show ¬ r.1 = 2 by omega), if_neg (show ¬ r.1 = 3 by omega)] <;> rfl
      have x_b := (hb.grow (U2 := U + 1) (by omega) (by omega)).out ⟨g1, g2⟩ hc_61.1 hc_61.2
      rw [hnu.2] at x_b
      exact ⟨nu3_61, wo3_61, sc3_61, me3_61, us3_61, la3_61, ct - 1, ck, by rw [hD], rfl, by rw [hD]; exact x_b, by rw [hD]⟩
    exact absurd hr4 (by omega)
  · skip
    refine i_iconst (q := 6) C dX7_isDoneTo_5 rfl ?_
    refine i_zret C hR (by omega) dX7_isDoneTo_6 ?_
    have hfn : fw o r.2.1 = none := by
      rcases hx with h | h
      · exact h.2
      · omega
    have hD : dO (o, ck, 0) r = (o, ck, 0) := by
      unfold dO
      simp only
      rw [if_neg (show ¬ r.1 = 1 by omega), if_neg (show ¬ r.1 = 5 by omega), if_neg (show ¬ r.1 = 6 by omega), if_neg (show ¬ r.1 = 7 by omega), hfn] <;> rfl
    have x_b := hb.grow (U2 := U + 1) (by omega) (by omega)
    exact ⟨nu, wo, sc, me, us, la, ct, ck, by rw [hD], rfl, by rw [hD]; exact x_b, by rw [hD]⟩

theorem lk_X7_isDone_10 : Cond.fieldLink RX7 10 (TX7 0).1 (TX7 0).2.1 (TX7 0).2.2.1 ∈ wsX7_isDone := List.mem_of_getElem? (i := 1) rfl
theorem hi_X7_isDone_X7 : ∀ w ∈ u_ws RX7 TX7 9, w ∈ wsX7_isDone := by decide +kernel
theorem hd_X7_isDoneTo : yX7_isDoneTo.cls = RX7 ∧ yX7_isDoneTo.cls ≠ "java/lang/invoke/MethodHandle" ∧ yX7_isDoneTo.cls ≠ "java/lang/invoke/VarHandle" ∧ (parseMethodDescriptor yX7_isDoneTo.desc).map (fun d => d.parameters.length) = some 3 := by decide +kernel
theorem lk_X7_isDone_130 : Cond.fieldLink RX7 130 (TX0 8).1 (TX0 8).2.1 (TX0 8).2.2.1 ∈ wsX7_isDone := List.mem_of_getElem? (i := 2) rfl
theorem hi_X7_isDone_X0 : ∀ w ∈ u_ws RX0 TX0 10, w ∈ wsX7_isDone := by decide +kernel
theorem lk_X7_isDone_133 : Cond.fieldLink RX7 133 (TX0 9).1 (TX0 9).2.1 (TX0 9).2.2.1 ∈ wsX7_isDone := List.mem_of_getElem? (i := 3) rfl
set_option maxHeartbeats 400000 in
set_option maxRecDepth 100000 in
theorem c_X7_isDone (K : KT) (l : Launch) (ax : Nat → Nat) (ap : Nat → Nat) (al : Nat → Nat) (ao : Nat → Nat) (ck : Int) (ba : Int) (no : Int) (fu : Int) (t : List Int) (ab : Nat → Nat) (nu : Int → Int) (wo : Int → Int) (sc : Int → Int) (me : Int → Int) (us : Int → Int) (la : Int → Int) (ct : Int) (gv : Int) (kd : Int) (sl : Int) (U : Int) (o : Bo) (r : Or3) (hb : rpB U nu wo sc me us la ct gv kd sl o) (hr : okOr r) (hck : 0 ≤ ck ∧ ck ≤ 9999) (hU : 0 ≤ U ∧ U < 1000000) : Mt K l yX7_isDone wsX7_isDone ({ frames := 5, cells := 0, slots := 0, locals := 110 }) [vP (ax 0), vI (r.1 - 1), vJ (((pck (r.2.1) : Nat) : Int)), vI (r.2.2.1), vI (r.2.2.2)] [boW ax ab ap al ao (((pck t : Nat) : Int), ck, ba, no, fu), bkW ab (nu, wo, sc, me, us, la, ct, gv, kd, sl)] 0 0 (fun v w => ∃ nu3 : Int → Int, ∃ wo3 : Int → Int, ∃ sc3 : Int → Int, ∃ me3 : Int → Int, ∃ us3 : Int → Int, ∃ la3 : Int → Int, ∃ ct3 : Int, ∃ gv3 : Int, ∃ kd3 : Int, ∃ sl3 : Int, ∃ ck3 : Int, v = some (vI ((dO (o, ck, 0) r).2.2)) ∧ w = [boW ax ab ap al ao (((pck t : Nat) : Int), ck3, ba, no, fu), bkW ab (nu3, wo3, sc3, me3, us3, la3, ct3, gv3, kd3, sl3)] ∧ (rpB (U + 1) nu3 wo3 sc3 me3 us3 la3 ct3 gv3 kd3 sl3 (dO (o, ck, 0) r).1) ∧ (ck3 = (dO (o, ck, 0) r).2.1)) := by
  refine Mt.of (own := RX7) (cc := cX7_isDone) (maxL := 6) (ret := (some .boolean)) (lv0 := [(0, vP (ax 0)), (1, vI (r.1 - 1)), (2, vJ (((pck (r.2.1) : Nat) : Int))), (4, vI (r.2.2.1)), (5, vI (r.2.2.2))]) (by decide) rfl rfl (Nat.le_of_ble_eq_true rfl) rfl (fun X C hR hNm => ?_)
  have hct := hb.xct
  have hgv := hb.xgv
  obtain ⟨q1, q2, q3, q4, q5, q6⟩ := hr
  have hkd := hb.xkd
  have hsl := hb.xsl
  refine i_iload_n (j := 1) (q := 1) C rfl rfl dX7_isDone_0 rfl ?_
  by_cases e_1_0 : r.1 - 1 = 0
  · skip
    refine i_tsIn (q := 44) 0 C e_1_0 dX7_isDone_1 (by decide) rfl (by decide) ?_
    refine i_aload_n (j := 0) (q := 45) C rfl rfl dX7_isDone_44 rfl ?_
    refine i_lload_n (j := 2) (q := 46) C rfl rfl dX7_isDone_45 rfl ?_
    refine i_iload (j := 3) (q := 48) C rfl dX7_isDone_46 rfl ?_
    refine i_iload (j := 4) (q := 50) C rfl dX7_isDone_48 rfl ?_
    refine i_callV (wr := []) (As := [vJ (((pck (r.2.1) : Nat) : Int)), vI (r.2.2.1), vI (r.2.2.2)]) (st := []) (i := 0) (j := 0) (q := 53) C (c_X7_comes K l (ax) (ap) (al) (ao) (ck) (ba) (no) (fu) (t) (ab) (nu) (wo) (sc) (me) (us) (la) (ct) (gv) (kd) (sl) (U) (o) (r.2.1) (r.2.2.1) (r.2.2.2) (by first | assumption | omega) (q2) (q3 (by omega)) (q4) (q6)) gX7_isDone_X7_comes rfl hd_X7_comes ⟨Nat.le_of_ble_eq_true rfl, Nat.le_of_ble_eq_true rfl⟩ ⟨rfl, rfl⟩ ⟨Nat.le_of_ble_eq_true rfl, Nat.le_of_ble_eq_true rfl⟩ (permBy [0, 1] (by decide) rfl rfl) rfl rfl rfl rfl (Nat.le_of_ble_eq_true rfl) dX7_isDone_50 rfl (fun v w hq => ?_)
    obtain ⟨nu3_50, wo3_50, sc3_50, me3_50, us3_50, la3_50, ct3_50, gv3_50, rfl, rfl, hb3_50⟩ := hq
    show V X 0 0 53 [(0, vP (ax 0)), (1, vI (r.1 - 1)), (2, vJ (((pck (r.2.1) : Nat) : Int))), (4, vI (r.2.2.1)), (5, vI (r.2.2.2))] [vI (if hasB o r.2.1 = false ∧ roomB o = true then 1 else 0)] [boW ax ab ap al ao (((pck t : Nat) : Int), ck, ba, no, fu), bkW ab (nu3_50, wo3_50, sc3_50, me3_50, us3_50, la3_50, ct3_50, gv3_50, kd, sl)]
    refine i_zret C hR (if01z) dX7_isDone_53 ?_
    have hb9 := hb3_50.grow (U2 := U + 1) (by omega) (by omega)
    by_cases hy : hasB o r.2.1 = false ∧ roomB o = true
    · have hD : dO (o, ck, 0) r = (addB o r.2.1 r.2.2.1 r.2.2.2, ck, 1) := by
        unfold dO
        simp only
        rw [if_pos (show r.1 = 1 by omega), if_pos hy] <;> rfl
      rw [if_pos hy] at hb9
      exact ⟨nu3_50, wo3_50, sc3_50, me3_50, us3_50, la3_50, ct3_50, gv3_50, kd, sl, ck, by rw [hD, if_pos hy], rfl, by rw [hD]; exact hb9, by rw [hD]⟩
    · have hD : dO (o, ck, 0) r = (o, ck, 0) := by
        unfold dO
        simp only
        rw [if_pos (show r.1 = 1 by omega), if_neg hy] <;> rfl
      rw [if_neg hy] at hb9
      exact ⟨nu3_50, wo3_50, sc3_50, me3_50, us3_50, la3_50, ct3_50, gv3_50, kd, sl, ck, by rw [hD, if_neg hy], rfl, by rw [hD]; exact hb9, by rw [hD]⟩
  by_cases e_1_1 : r.1 - 1 = 1
  · skip
    refine i_tsIn (q := 85) 1 C e_1_1 dX7_isDone_1 (by decide) rfl (by decide) ?_
    refine i_aload_n (j := 0) (q := 86) C rfl rfl dX7_isDone_85 rfl ?_
    refine i_aload_n (j := 0) (q := 87) C rfl rfl dX7_isDone_86 rfl ?_
    refine i_get (i := 0) (j := 0) (f := 0) (q := 90) C rfl rfl rfl hi_X7_isDone_X7 (by decide) lk_X7_isDone_10 rfl dX7_isDone_87 rfl ?_
    refine i_lload_n (j := 2) (q := 91) C rfl rfl dX7_isDone_90 rfl ?_
    refine i_callV (wr := [boW ax ab ap al ao (((pck t : Nat) : Int), ck, ba, no, fu)]) (As := [vJ (((pck (r.2.1) : Nat) : Int))]) (st := [vP (ax 0)]) (i := 0) (j := 0) (q := 94) C (c_X0_slotSpelled K l (ab) (nu) (wo) (sc) (me) (us) (la) (ct) (gv) (kd) (sl) (((pck (r.2.1) : Nat) : Int)) (by omega) (fun j g0 g1 => hb.rL j g0 g1) (by have := pck_b q2 (by have := (q3 (by omega)).2; omega); omega)) gX7_isDone_X0_slotSpelled rfl hd_X0_slotSpelled ⟨Nat.le_of_ble_eq_true rfl, Nat.le_of_ble_eq_true rfl⟩ ⟨rfl, rfl⟩ ⟨Nat.le_of_ble_eq_true rfl, Nat.le_of_ble_eq_true rfl⟩ (permBy [1, 0] (by decide) rfl rfl) rfl rfl rfl rfl (Nat.le_of_ble_eq_true rfl) dX7_isDone_91 rfl (fun v w hq => ?_)
    obtain ⟨r_91, rfl, rfl, hr_91⟩ := hq
    show V X 0 0 94 [(0, vP (ax 0)), (1, vI (r.1 - 1)), (2, vJ (((pck (r.2.1) : Nat) : Int))), (4, vI (r.2.2.1)), (5, vI (r.2.2.2))] [vI r_91, vP (ax 0)] [bkW ab (nu, wo, sc, me, us, la, ct, gv, kd, sl), boW ax ab ap al ao (((pck t : Nat) : Int), ck, ba, no, fu)]
    refine V.perm (cs' := [boW ax ab ap al ao (((pck t : Nat) : Int), ck, ba, no, fu), bkW ab (nu, wo, sc, me, us, la, ct, gv, kd, sl)]) (permBy [1, 0] (by decide) rfl rfl) ?_
    have hx9 : (r_91 = -1 ∧ fw o r.2.1 = none) ∨ (0 ≤ r_91 ∧ r_91 < ct ∧ fw o r.2.1 = some (atP o.1 r_91)) := by
      rcases hb.has q2 hr_91 with h | h
      · exact Or.inl ⟨h.1, fw_n.mpr h.2⟩
      · exact Or.inr ⟨h.1, h.2.1, fw_y hb.1 (atP_mem h.1 (by omega)) h.2.2.2⟩
    refine i_iload_n (j := 1) (q := 95) C rfl rfl dX7_isDone_94 rfl ?_
    refine i_iload (j := 3) (q := 97) C rfl dX7_isDone_95 rfl ?_
    refine i_callV (wr := []) (As := [vI r_91, vI (r.1 - 1), vI (r.2.2.1)]) (st := []) (i := 0) (j := 0) (q := 100) C (c_X7_isDoneTo K l (ax) (ap) (al) (ao) (ck) (ba) (no) (fu) (t) (ab) (nu) (wo) (sc) (me) (us) (la) (ct) (gv) (kd) (sl) (U) (o) (r) (r_91) (by first | assumption | omega) (⟨q1, q2, q3, q4, q5, q6⟩) (hck) (hU) (by omega) (hx9)) gX7_isDone_X7_isDoneTo rfl hd_X7_isDoneTo ⟨Nat.le_of_ble_eq_true rfl, Nat.le_of_ble_eq_true rfl⟩ ⟨rfl, rfl⟩ ⟨Nat.le_of_ble_eq_true rfl, Nat.le_of_ble_eq_true rfl⟩ (permBy [0, 1] (by decide) rfl rfl) rfl rfl rfl rfl (Nat.le_of_ble_eq_true rfl) dX7_isDone_97 rfl (fun v w hq => ?_)
    obtain ⟨nu3_97, wo3_97, sc3_97, me3_97, us3_97, la3_97, ct3_97, ck3_97, rfl, rfl, hb3_97, hc3_97⟩ := hq
    show V X 0 0 100 [(0, vP (ax 0)), (1, vI (r.1 - 1)), (2, vJ (((pck (r.2.1) : Nat) : Int))), (4, vI (r.2.2.1)), (5, vI (r.2.2.2))] [vI ((dO (o, ck, 0) r).2.2)] [boW ax ab ap al ao (((pck t : Nat) : Int), ck3_97, ba, no, fu), bkW ab (nu3_97, wo3_97, sc3_97, me3_97, us3_97, la3_97, ct3_97, gv, kd, sl)]
    refine i_zret C hR (dO_01 _ _ _) dX7_isDone_100 ?_
    exact ⟨nu3_97, wo3_97, sc3_97, me3_97, us3_97, la3_97, ct3_97, gv, kd, sl, ck3_97, rfl, rfl, hb3_97, hc3_97⟩
  by_cases e_1_2 : r.1 - 1 = 2
  · skip
    refine i_tsIn (q := 85) 2 C e_1_2 dX7_isDone_1 (by decide) rfl (by decide) ?_
    refine i_aload_n (j := 0) (q := 86) C rfl rfl dX7_isDone_85 rfl ?_
    refine i_aload_n (j := 0) (q := 87) C rfl rfl dX7_isDone_86 rfl ?_
    refine i_get (i := 0) (j := 0) (f := 0) (q := 90) C rfl rfl rfl hi_X7_isDone_X7 (by decide) lk_X7_isDone_10 rfl dX7_isDone_87 rfl ?_
    refine i_lload_n (j := 2) (q := 91) C rfl rfl dX7_isDone_90 rfl ?_
    refine i_callV (wr := [boW ax ab ap al ao (((pck t : Nat) : Int), ck, ba, no, fu)]) (As := [vJ (((pck (r.2.1) : Nat) : Int))]) (st := [vP (ax 0)]) (i := 0) (j := 0) (q := 94) C (c_X0_slotSpelled K l (ab) (nu) (wo) (sc) (me) (us) (la) (ct) (gv) (kd) (sl) (((pck (r.2.1) : Nat) : Int)) (by omega) (fun j g0 g1 => hb.rL j g0 g1) (by have := pck_b q2 (by have := (q3 (by omega)).2; omega); omega)) gX7_isDone_X0_slotSpelled rfl hd_X0_slotSpelled ⟨Nat.le_of_ble_eq_true rfl, Nat.le_of_ble_eq_true rfl⟩ ⟨rfl, rfl⟩ ⟨Nat.le_of_ble_eq_true rfl, Nat.le_of_ble_eq_true rfl⟩ (permBy [1, 0] (by decide) rfl rfl) rfl rfl rfl rfl (Nat.le_of_ble_eq_true rfl) dX7_isDone_91 rfl (fun v w hq => ?_)
    obtain ⟨r_91, rfl, rfl, hr_91⟩ := hq
    show V X 0 0 94 [(0, vP (ax 0)), (1, vI (r.1 - 1)), (2, vJ (((pck (r.2.1) : Nat) : Int))), (4, vI (r.2.2.1)), (5, vI (r.2.2.2))] [vI r_91, vP (ax 0)] [bkW ab (nu, wo, sc, me, us, la, ct, gv, kd, sl), boW ax ab ap al ao (((pck t : Nat) : Int), ck, ba, no, fu)]
    refine V.perm (cs' := [boW ax ab ap al ao (((pck t : Nat) : Int), ck, ba, no, fu), bkW ab (nu, wo, sc, me, us, la, ct, gv, kd, sl)]) (permBy [1, 0] (by decide) rfl rfl) ?_
    have hx9 : (r_91 = -1 ∧ fw o r.2.1 = none) ∨ (0 ≤ r_91 ∧ r_91 < ct ∧ fw o r.2.1 = some (atP o.1 r_91)) := by
      rcases hb.has q2 hr_91 with h | h
      · exact Or.inl ⟨h.1, fw_n.mpr h.2⟩
      · exact Or.inr ⟨h.1, h.2.1, fw_y hb.1 (atP_mem h.1 (by omega)) h.2.2.2⟩
    refine i_iload_n (j := 1) (q := 95) C rfl rfl dX7_isDone_94 rfl ?_
    refine i_iload (j := 3) (q := 97) C rfl dX7_isDone_95 rfl ?_
    refine i_callV (wr := []) (As := [vI r_91, vI (r.1 - 1), vI (r.2.2.1)]) (st := []) (i := 0) (j := 0) (q := 100) C (c_X7_isDoneTo K l (ax) (ap) (al) (ao) (ck) (ba) (no) (fu) (t) (ab) (nu) (wo) (sc) (me) (us) (la) (ct) (gv) (kd) (sl) (U) (o) (r) (r_91) (by first | assumption | omega) (⟨q1, q2, q3, q4, q5, q6⟩) (hck) (hU) (by omega) (hx9)) gX7_isDone_X7_isDoneTo rfl hd_X7_isDoneTo ⟨Nat.le_of_ble_eq_true rfl, Nat.le_of_ble_eq_true rfl⟩ ⟨rfl, rfl⟩ ⟨Nat.le_of_ble_eq_true rfl, Nat.le_of_ble_eq_true rfl⟩ (permBy [0, 1] (by decide) rfl rfl) rfl rfl rfl rfl (Nat.le_of_ble_eq_true rfl) dX7_isDone_97 rfl (fun v w hq => ?_)
    obtain ⟨nu3_97, wo3_97, sc3_97, me3_97, us3_97, la3_97, ct3_97, ck3_97, rfl, rfl, hb3_97, hc3_97⟩ := hq
    show V X 0 0 100 [(0, vP (ax 0)), (1, vI (r.1 - 1)), (2, vJ (((pck (r.2.1) : Nat) : Int))), (4, vI (r.2.2.1)), (5, vI (r.2.2.2))] [vI ((dO (o, ck, 0) r).2.2)] [boW ax ab ap al ao (((pck t : Nat) : Int), ck3_97, ba, no, fu), bkW ab (nu3_97, wo3_97, sc3_97, me3_97, us3_97, la3_97, ct3_97, gv, kd, sl)]
    refine i_zret C hR (dO_01 _ _ _) dX7_isDone_100 ?_
    exact ⟨nu3_97, wo3_97, sc3_97, me3_97, us3_97, la3_97, ct3_97, gv, kd, sl, ck3_97, rfl, rfl, hb3_97, hc3_97⟩
  by_cases e_1_3 : r.1 - 1 = 3
  · skip
    refine i_tsIn (q := 85) 3 C e_1_3 dX7_isDone_1 (by decide) rfl (by decide) ?_
    refine i_aload_n (j := 0) (q := 86) C rfl rfl dX7_isDone_85 rfl ?_
    refine i_aload_n (j := 0) (q := 87) C rfl rfl dX7_isDone_86 rfl ?_
    refine i_get (i := 0) (j := 0) (f := 0) (q := 90) C rfl rfl rfl hi_X7_isDone_X7 (by decide) lk_X7_isDone_10 rfl dX7_isDone_87 rfl ?_
    refine i_lload_n (j := 2) (q := 91) C rfl rfl dX7_isDone_90 rfl ?_
    refine i_callV (wr := [boW ax ab ap al ao (((pck t : Nat) : Int), ck, ba, no, fu)]) (As := [vJ (((pck (r.2.1) : Nat) : Int))]) (st := [vP (ax 0)]) (i := 0) (j := 0) (q := 94) C (c_X0_slotSpelled K l (ab) (nu) (wo) (sc) (me) (us) (la) (ct) (gv) (kd) (sl) (((pck (r.2.1) : Nat) : Int)) (by omega) (fun j g0 g1 => hb.rL j g0 g1) (by have := pck_b q2 (by have := (q3 (by omega)).2; omega); omega)) gX7_isDone_X0_slotSpelled rfl hd_X0_slotSpelled ⟨Nat.le_of_ble_eq_true rfl, Nat.le_of_ble_eq_true rfl⟩ ⟨rfl, rfl⟩ ⟨Nat.le_of_ble_eq_true rfl, Nat.le_of_ble_eq_true rfl⟩ (permBy [1, 0] (by decide) rfl rfl) rfl rfl rfl rfl (Nat.le_of_ble_eq_true rfl) dX7_isDone_91 rfl (fun v w hq => ?_)
    obtain ⟨r_91, rfl, rfl, hr_91⟩ := hq
    show V X 0 0 94 [(0, vP (ax 0)), (1, vI (r.1 - 1)), (2, vJ (((pck (r.2.1) : Nat) : Int))), (4, vI (r.2.2.1)), (5, vI (r.2.2.2))] [vI r_91, vP (ax 0)] [bkW ab (nu, wo, sc, me, us, la, ct, gv, kd, sl), boW ax ab ap al ao (((pck t : Nat) : Int), ck, ba, no, fu)]
    refine V.perm (cs' := [boW ax ab ap al ao (((pck t : Nat) : Int), ck, ba, no, fu), bkW ab (nu, wo, sc, me, us, la, ct, gv, kd, sl)]) (permBy [1, 0] (by decide) rfl rfl) ?_
    have hx9 : (r_91 = -1 ∧ fw o r.2.1 = none) ∨ (0 ≤ r_91 ∧ r_91 < ct ∧ fw o r.2.1 = some (atP o.1 r_91)) := by
      rcases hb.has q2 hr_91 with h | h
      · exact Or.inl ⟨h.1, fw_n.mpr h.2⟩
      · exact Or.inr ⟨h.1, h.2.1, fw_y hb.1 (atP_mem h.1 (by omega)) h.2.2.2⟩
    refine i_iload_n (j := 1) (q := 95) C rfl rfl dX7_isDone_94 rfl ?_
    refine i_iload (j := 3) (q := 97) C rfl dX7_isDone_95 rfl ?_
    refine i_callV (wr := []) (As := [vI r_91, vI (r.1 - 1), vI (r.2.2.1)]) (st := []) (i := 0) (j := 0) (q := 100) C (c_X7_isDoneTo K l (ax) (ap) (al) (ao) (ck) (ba) (no) (fu) (t) (ab) (nu) (wo) (sc) (me) (us) (la) (ct) (gv) (kd) (sl) (U) (o) (r) (r_91) (by first | assumption | omega) (⟨q1, q2, q3, q4, q5, q6⟩) (hck) (hU) (by omega) (hx9)) gX7_isDone_X7_isDoneTo rfl hd_X7_isDoneTo ⟨Nat.le_of_ble_eq_true rfl, Nat.le_of_ble_eq_true rfl⟩ ⟨rfl, rfl⟩ ⟨Nat.le_of_ble_eq_true rfl, Nat.le_of_ble_eq_true rfl⟩ (permBy [0, 1] (by decide) rfl rfl) rfl rfl rfl rfl (Nat.le_of_ble_eq_true rfl) dX7_isDone_97 rfl (fun v w hq => ?_)
    obtain ⟨nu3_97, wo3_97, sc3_97, me3_97, us3_97, la3_97, ct3_97, ck3_97, rfl, rfl, hb3_97, hc3_97⟩ := hq
    show V X 0 0 100 [(0, vP (ax 0)), (1, vI (r.1 - 1)), (2, vJ (((pck (r.2.1) : Nat) : Int))), (4, vI (r.2.2.1)), (5, vI (r.2.2.2))] [vI ((dO (o, ck, 0) r).2.2)] [boW ax ab ap al ao (((pck t : Nat) : Int), ck3_97, ba, no, fu), bkW ab (nu3_97, wo3_97, sc3_97, me3_97, us3_97, la3_97, ct3_97, gv, kd, sl)]
    refine i_zret C hR (dO_01 _ _ _) dX7_isDone_100 ?_
    exact ⟨nu3_97, wo3_97, sc3_97, me3_97, us3_97, la3_97, ct3_97, gv, kd, sl, ck3_97, rfl, rfl, hb3_97, hc3_97⟩
  by_cases e_1_4 : r.1 - 1 = 4
  · skip
    refine i_tsIn (q := 54) 4 C e_1_4 dX7_isDone_1 (by decide) rfl (by decide) ?_
    refine i_aload_n (j := 0) (q := 55) C rfl rfl dX7_isDone_54 rfl ?_
    refine i_get (i := 0) (j := 0) (f := 0) (q := 58) C rfl rfl rfl hi_X7_isDone_X7 (by decide) lk_X7_isDone_10 rfl dX7_isDone_55 rfl ?_
    refine i_iload (j := 3) (q := 60) C rfl dX7_isDone_58 rfl ?_
    refine i_putI (i := 1) (j := 0) (f := 8) (q := 63) (cs' := [boW ax ab ap al ao (((pck t : Nat) : Int), ck, ba, no, fu), bkW ab (nu, wo, sc, me, us, la, ct, gv, r.2.2.1, sl)]) C rfl rfl rfl hi_X7_isDone_X0 tyX0 tyX0_ok nmX0 (by decide) (Nat.le_of_ble_eq_true rfl) lk_X7_isDone_130 rfl rfl dX7_isDone_60 rfl rfl ?_
    refine i_iconst (q := 64) C dX7_isDone_63 rfl ?_
    refine i_zret C hR (by omega) dX7_isDone_64 ?_
    have hD : dO (o, ck, 0) r = ((o.1, o.2.1, r.2.2.1, o.2.2.2), ck, 1) := by
      unfold dO
      simp only
      rw [if_neg (show ¬ r.1 = 1 by omega), if_pos (show r.1 = 5 by omega)] <;> rfl
    have x_b : rpB (U + 1) nu wo sc me us la ct gv r.2.2.1 sl (o.1, o.2.1, r.2.2.1, o.2.2.2) := by
      rw [← hsl.2]
      exact (hb.grow (U2 := U + 1) (by omega) (by omega)).ctl ⟨q4.1, q5 (by omega)⟩ hsl.1
    exact ⟨nu, wo, sc, me, us, la, ct, gv, r.2.2.1, sl, ck, by rw [hD], rfl, by rw [hD]; exact x_b, by rw [hD]⟩
  by_cases e_1_5 : r.1 - 1 = 5
  · skip
    refine i_tsIn (q := 65) 5 C e_1_5 dX7_isDone_1 (by decide) rfl (by decide) ?_
    refine i_aload_n (j := 0) (q := 66) C rfl rfl dX7_isDone_65 rfl ?_
    refine i_get (i := 0) (j := 0) (f := 0) (q := 69) C rfl rfl rfl hi_X7_isDone_X7 (by decide) lk_X7_isDone_10 rfl dX7_isDone_66 rfl ?_
    refine i_iload (j := 3) (q := 71) C rfl dX7_isDone_69 rfl ?_
    refine i_putI (i := 1) (j := 0) (f := 9) (q := 74) (cs' := [boW ax ab ap al ao (((pck t : Nat) : Int), ck, ba, no, fu), bkW ab (nu, wo, sc, me, us, la, ct, gv, kd, r.2.2.1)]) C rfl rfl rfl hi_X7_isDone_X0 tyX0 tyX0_ok nmX0 (by decide) (Nat.le_of_ble_eq_true rfl) lk_X7_isDone_133 rfl rfl dX7_isDone_71 rfl rfl ?_
    refine i_iconst (q := 75) C dX7_isDone_74 rfl ?_
    refine i_zret C hR (by omega) dX7_isDone_75 ?_
    have hD : dO (o, ck, 0) r = ((o.1, o.2.1, o.2.2.1, r.2.2.1), ck, 1) := by
      unfold dO
      simp only
      rw [if_neg (show ¬ r.1 = 1 by omega), if_neg (show ¬ r.1 = 5 by omega), if_pos (show r.1 = 6 by omega)] <;> rfl
    have x_b : rpB (U + 1) nu wo sc me us la ct gv kd r.2.2.1 (o.1, o.2.1, o.2.2.1, r.2.2.1) := by
      rw [← hkd.2]
      exact (hb.grow (U2 := U + 1) (by omega) (by omega)).ctl hkd.1 q4
    exact ⟨nu, wo, sc, me, us, la, ct, gv, kd, r.2.2.1, ck, by rw [hD], rfl, by rw [hD]; exact x_b, by rw [hD]⟩
  by_cases e_1_6 : r.1 - 1 = 6
  · skip
    refine i_tsIn (q := 76) 6 C e_1_6 dX7_isDone_1 (by decide) rfl (by decide) ?_
    refine i_aload_n (j := 0) (q := 77) C rfl rfl dX7_isDone_76 rfl ?_
    refine i_get (i := 0) (j := 0) (f := 0) (q := 80) C rfl rfl rfl hi_X7_isDone_X7 (by decide) lk_X7_isDone_10 rfl dX7_isDone_77 rfl ?_
    refine i_callV (wr := [boW ax ab ap al ao (((pck t : Nat) : Int), ck, ba, no, fu)]) (As := []) (st := []) (i := 0) (j := 0) (q := 83) C (c_X0_halveScores K l (ab) (nu) (wo) (sc) (me) (us) (la) (ct) (gv) (kd) (sl) (by omega) (fun j g0 g1 => (hb.xsc j g0 g1).1)) gX7_isDone_X0_halveScores rfl hd_X0_halveScores ⟨Nat.le_of_ble_eq_true rfl, Nat.le_of_ble_eq_true rfl⟩ ⟨rfl, rfl⟩ ⟨Nat.le_of_ble_eq_true rfl, Nat.le_of_ble_eq_true rfl⟩ (permBy [1, 0] (by decide) rfl rfl) rfl rfl rfl rfl (Nat.le_of_ble_eq_true rfl) dX7_isDone_80 rfl (fun v w hq => ?_)
    obtain ⟨sc3_80, rfl, rfl, hc_80⟩ := hq
    show V X 0 0 83 [(0, vP (ax 0)), (1, vI (r.1 - 1)), (2, vJ (((pck (r.2.1) : Nat) : Int))), (4, vI (r.2.2.1)), (5, vI (r.2.2.2))] [] [bkW ab (nu, wo, sc3_80, me, us, la, ct, gv, kd, sl), boW ax ab ap al ao (((pck t : Nat) : Int), ck, ba, no, fu)]
    refine V.perm (cs' := [boW ax ab ap al ao (((pck t : Nat) : Int), ck, ba, no, fu), bkW ab (nu, wo, sc3_80, me, us, la, ct, gv, kd, sl)]) (permBy [1, 0] (by decide) rfl rfl) ?_
    refine i_iconst (q := 84) C dX7_isDone_83 rfl ?_
    refine i_zret C hR (by omega) dX7_isDone_84 ?_
    have hD : dO (o, ck, 0) r = (halfB o, ck, 1) := by
      unfold dO
      simp only
      rw [if_neg (show ¬ r.1 = 1 by omega), if_neg (show ¬ r.1 = 5 by omega), if_neg (show ¬ r.1 = 6 by omega), if_pos (show r.1 = 7 by omega)] <;> rfl
    have x_b := (hb.grow (U2 := U + 1) (by omega) (by omega)).half hc_80
    exact ⟨nu, wo, sc3_80, me, us, la, ct, gv, kd, sl, ck, by rw [hD], rfl, by rw [hD]; exact x_b, by rw [hD]⟩
  exact absurd q1 (by omega)

theorem lk_X7_runs_33 : Cond.fieldLink RX7 33 (TX7 3).1 (TX7 3).2.1 (TX7 3).2.2.1 ∈ wsX7_runs := List.mem_of_getElem? (i := 1) rfl
theorem hi_X7_runs_X7 : ∀ w ∈ u_ws RX7 TX7 9, w ∈ wsX7_runs := by decide +kernel
theorem hd_X3_readAll : yX3_readAll.cls = RX3 ∧ yX3_readAll.cls ≠ "java/lang/invoke/MethodHandle" ∧ yX3_readAll.cls ≠ "java/lang/invoke/VarHandle" ∧ (parseMethodDescriptor yX3_readAll.desc).map (fun d => d.parameters.length) = some 0 := by decide +kernel
theorem lk_X7_runs_19 : Cond.fieldLink RX7 19 (TX7 1).1 (TX7 1).2.1 (TX7 1).2.2.1 ∈ wsX7_runs := List.mem_of_getElem? (i := 2) rfl
theorem lk_X7_runs_10 : Cond.fieldLink RX7 10 (TX7 0).1 (TX7 0).2.1 (TX7 0).2.2.1 ∈ wsX7_runs := List.mem_of_getElem? (i := 3) rfl
theorem lk_X7_runs_214 : Cond.fieldLink RX7 214 (TX3 6).1 (TX3 6).2.1 (TX3 6).2.2.1 ∈ wsX7_runs := List.mem_of_getElem? (i := 4) rfl
theorem hi_X7_runs_X3 : ∀ w ∈ u_ws RX3 TX3 9, w ∈ wsX7_runs := by decide +kernel
theorem lk_X7_runs_215 : Cond.fieldLink RX7 215 (TX3 2).1 (TX3 2).2.1 (TX3 2).2.2.1 ∈ wsX7_runs := List.mem_of_getElem? (i := 5) rfl
theorem lk_X7_runs_218 : Cond.fieldLink RX7 218 (TX3 3).1 (TX3 3).2.1 (TX3 3).2.2.1 ∈ wsX7_runs := List.mem_of_getElem? (i := 6) rfl
theorem lk_X7_runs_219 : Cond.fieldLink RX7 219 (TX3 4).1 (TX3 4).2.1 (TX3 4).2.2.1 ∈ wsX7_runs := List.mem_of_getElem? (i := 7) rfl
theorem lk_X7_runs_222 : Cond.fieldLink RX7 222 (TX3 5).1 (TX3 5).2.1 (TX3 5).2.2.1 ∈ wsX7_runs := List.mem_of_getElem? (i := 8) rfl
theorem hd_X7_isDone : yX7_isDone.cls = RX7 ∧ yX7_isDone.cls ≠ "java/lang/invoke/MethodHandle" ∧ yX7_isDone.cls ≠ "java/lang/invoke/VarHandle" ∧ (parseMethodDescriptor yX7_isDone.desc).map (fun d => d.parameters.length) = some 4 := by decide +kernel
set_option maxHeartbeats 400000 in
set_option maxRecDepth 100000 in
theorem c_X7_runs (K : KT) (l : Launch) (ax : Nat → Nat) (ap : Nat → Nat) (al : Nat → Nat) (ao : Nat → Nat) (ck : Int) (ba : Int) (no : Int) (fu : Int) (t : List Int) (ab : Nat → Nat) (nu : Int → Int) (wo : Int → Int) (sc : Int → Int) (me : Int → Int) (us : Int → Int) (la : Int → Int) (ct : Int) (gv : Int) (kd : Int) (sl : Int) (ak : Int → Nat → Nat) (nx : Int) (pc : Int) (Bs : Int → Bk) (by_ : Int → Int) (ve : Int → Int) (ow : Int → Int) (fi : Int → Int) (se : Int → Int) (le : Int) (oc : Int) (pl : Int) (fa : Int) (so : Int → Int) (ra : Int → Int) (lc : Int) (o : Bo) (h : List Bo) (tx : List Int) (N : Int) (hC : okC N nu wo sc me us la ct gv kd sl Bs nx pc ((pck t : Nat) : Int) ck ba no fu by_ le (o, h, t, ck, tx, ba, no, fu)) (hN : N < 512) : Mt K l yX7_runs wsX7_runs ({ frames := 8, cells := 0, slots := 0, locals := 176 }) [vP (ax 0)] [boW ax ab ap al ao (((pck t : Nat) : Int), ck, ba, no, fu), bkW ab (nu, wo, sc, me, us, la, ct, gv, kd, sl), paW ap ak (nx, pc), kbW ak Bs, odW ao (by_, ve, ow, fi, se, le, oc, pl, fa)] 0 0 (fun v w => ∃ ck3 : Int, ∃ nu3 : Int → Int, ∃ wo3 : Int → Int, ∃ sc3 : Int → Int, ∃ me3 : Int → Int, ∃ us3 : Int → Int, ∃ la3 : Int → Int, ∃ ct3 : Int, ∃ gv3 : Int, ∃ kd3 : Int, ∃ sl3 : Int, ∃ nx3 : Int, ∃ pc3 : Int, ∃ Bs3 : Int → Bk, ∃ ve3 : Int → Int, ∃ ow3 : Int → Int, ∃ fi3 : Int → Int, ∃ se3 : Int → Int, ∃ oc3 : Int, ∃ pl3 : Int, ∃ fa3 : Int, v = some (vI ((sp_runs (o, h, t, ck, tx, ba, no, fu)).1)) ∧ w = [boW ax ab ap al ao (((pck t : Nat) : Int), ck3, ba, no, fu), bkW ab (nu3, wo3, sc3, me3, us3, la3, ct3, gv3, kd3, sl3), paW ap ak (nx3, pc3), kbW ak Bs3, odW ao (by_, ve3, ow3, fi3, se3, le, oc3, pl3, fa3)] ∧ (okC (N + 1) nu3 wo3 sc3 me3 us3 la3 ct3 gv3 kd3 sl3 Bs3 nx3 pc3 ((pck t : Nat) : Int) ck3 ba no fu by_ le (sp_runs (o, h, t, ck, tx, ba, no, fu)).2)) := by
  refine Mt.of (own := RX7) (cc := cX7_runs) (maxL := 4) (ret := (some .int)) (lv0 := [(0, vP (ax 0))]) (by decide) rfl rfl (Nat.le_of_ble_eq_true rfl) rfl (fun X C hR hNm => ?_)
  have hb := hC.hb
  have hct := hb.xct
  have hgv := hb.xgv
  have hkd := hb.xkd
  have hsl := hb.xsl
  obtain ⟨ht, hlt⟩ := hC.ht
  have hNN := hC.hN
  have hhx := hC.hh.1
  have hhp := hC.hh.2.1
  have hhl := hC.hh.2.2.1
  have hck := hC.hck
  have hTx := hC.hx
  refine i_aload_n (j := 0) (q := 1) C rfl rfl dX7_runs_0 rfl ?_
  refine i_get (i := 0) (j := 0) (f := 3) (q := 4) C rfl rfl rfl hi_X7_runs_X7 (by decide) lk_X7_runs_33 rfl dX7_runs_1 rfl ?_
  refine i_callV (wr := [boW ax ab ap al ao (((pck t : Nat) : Int), ck, ba, no, fu), bkW ab (nu, wo, sc, me, us, la, ct, gv, kd, sl), paW ap ak (nx, pc), kbW ak Bs]) (As := []) (st := []) (i := 0) (j := 0) (q := 7) C (c_X3_readAll K l (ao) (by_) (ve) (ow) (fi) (se) (le) (oc) (pl) (fa) (hTx.1) (hTx.2.2)) gX7_runs_X3_readAll rfl hd_X3_readAll ⟨Nat.le_of_ble_eq_true rfl, Nat.le_of_ble_eq_true rfl⟩ ⟨rfl, rfl⟩ ⟨Nat.le_of_ble_eq_true rfl, Nat.le_of_ble_eq_true rfl⟩ (permBy [4, 0, 1, 2, 3] (by decide) rfl rfl) rfl rfl rfl rfl (Nat.le_of_ble_eq_true rfl) dX7_runs_4 rfl (fun v w hq => ?_)
  obtain ⟨ve3_4, ow3_4, fi3_4, se3_4, oc3_4, pl3_4, fa3_4, rfl, rfl, hr_4, hq_4, hf_4⟩ := hq
  show V X 0 0 7 [(0, vP (ax 0))] [vI fa3_4] [odW ao (by_, ve3_4, ow3_4, fi3_4, se3_4, le, oc3_4, pl3_4, fa3_4), boW ax ab ap al ao (((pck t : Nat) : Int), ck, ba, no, fu), bkW ab (nu, wo, sc, me, us, la, ct, gv, kd, sl), paW ap ak (nx, pc), kbW ak Bs]
  refine V.perm (cs' := [boW ax ab ap al ao (((pck t : Nat) : Int), ck, ba, no, fu), bkW ab (nu, wo, sc, me, us, la, ct, gv, kd, sl), paW ap ak (nx, pc), kbW ak Bs, odW ao (by_, ve3_4, ow3_4, fi3_4, se3_4, le, oc3_4, pl3_4, fa3_4)]) (permBy [1, 2, 3, 4, 0] (by decide) rfl rfl) ?_
  rw [← hTx.2.1] at hr_4 hq_4
  refine i_istore_n (q := 8) (lv' := [(1, vI fa3_4), (0, vP (ax 0))]) C rfl (by decide) rfl dX7_runs_7 rfl ?_
  refine i_iload_n (j := 0) (q := 9) C rfl rfl dX7_runs_8 rfl ?_
  refine i_iconst (q := 10) C dX7_runs_9 rfl ?_
  refine i_icmp_eq (tgt := 18) (q := 13) C (by omega) (by omega) dX7_runs_10 (by decide) rfl (fun c_10 => ?_) (fun c_10 => ?_)
  · skip
    obtain ⟨hL4, hoc4, hcor, hoks⟩ := hq_4 c_10
    refine i_aload_n (j := 1) (q := 19) C rfl rfl dX7_runs_18 rfl ?_
    refine i_get (i := 0) (j := 0) (f := 1) (q := 22) C rfl rfl rfl hi_X7_runs_X7 (by decide) lk_X7_runs_19 rfl dX7_runs_19 rfl ?_
    refine i_aload_n (j := 1) (q := 23) C rfl rfl dX7_runs_22 rfl ?_
    refine i_get (i := 0) (j := 0) (f := 0) (q := 26) C rfl rfl rfl hi_X7_runs_X7 (by decide) lk_X7_runs_10 rfl dX7_runs_23 rfl ?_
    refine i_callV (wr := [boW ax ab ap al ao (((pck t : Nat) : Int), ck, ba, no, fu), odW ao (by_, ve3_4, ow3_4, fi3_4, se3_4, le, oc3_4, pl3_4, fa3_4)]) (As := [vP (ab 0)]) (st := []) (i := 0) (j := 0) (q := 29) C (c_X4_remember K l (ap) (ak) (nx) (pc) (Bs) (ab) (nu) (wo) (sc) (me) (us) (la) (ct) (gv) (kd) (sl) (by omega) (by omega) (by omega)) gX7_runs_X4_remember rfl hd_X4_remember ⟨Nat.le_of_ble_eq_true rfl, Nat.le_of_ble_eq_true rfl⟩ ⟨rfl, rfl⟩ ⟨Nat.le_of_ble_eq_true rfl, Nat.le_of_ble_eq_true rfl⟩ (permBy [2, 1, 3, 0, 4] (by decide) rfl rfl) rfl rfl rfl rfl (Nat.le_of_ble_eq_true rfl) dX7_runs_26 rfl (fun v w hq => ?_)
    obtain ⟨nu3_26, wo3_26, sc3_26, me3_26, us3_26, la3_26, rfl, rfl, hc_26⟩ := hq
    show V X 0 0 29 [(1, vI fa3_4), (0, vP (ax 0))] [] [paW ap ak (if nx + 1 < 12 then nx + 1 else 0, min (pc + 1) 12), bkW ab (nu, wo, sc, me, us, la, ct, gv, kd, sl), kbW ak (up Bs nx (nu3_26, wo3_26, sc3_26, me3_26, us3_26, la3_26, ct, gv, kd, sl)), boW ax ab ap al ao (((pck t : Nat) : Int), ck, ba, no, fu), odW ao (by_, ve3_4, ow3_4, fi3_4, se3_4, le, oc3_4, pl3_4, fa3_4)]
    refine V.perm (cs' := [boW ax ab ap al ao (((pck t : Nat) : Int), ck, ba, no, fu), bkW ab (nu, wo, sc, me, us, la, ct, gv, kd, sl), paW ap ak (if nx + 1 < 12 then nx + 1 else 0, min (pc + 1) 12), kbW ak (up Bs nx (nu3_26, wo3_26, sc3_26, me3_26, us3_26, la3_26, ct, gv, kd, sl)), odW ao (by_, ve3_4, ow3_4, fi3_4, se3_4, le, oc3_4, pl3_4, fa3_4)]) (permBy [3, 1, 0, 2, 4] (by decide) rfl rfl) ?_
    refine i_iconst (q := 30) C dX7_runs_29 rfl ?_
    refine i_istore_n (q := 31) (lv' := [(2, vI 0), (1, vI fa3_4), (0, vP (ax 0))]) C rfl (by decide) rfl dX7_runs_30 rfl ?_
    refine i_iconst (q := 32) C dX7_runs_31 rfl ?_
    refine i_istore_n (q := 33) (lv' := [(3, vI 0), (2, vI 0), (1, vI fa3_4), (0, vP (ax 0))]) C rfl (by decide) rfl dX7_runs_32 rfl ?_
    have loop_33 : ∀ (fuel : Nat) (i : Int) (m : Int) (o4 : Bo) (ck4 : Int) (nu4 : Int → Int) (wo4 : Int → Int) (sc4 : Int → Int) (me4 : Int → Int) (us4 : Int → Int) (la4 : Int → Int) (ct4 : Int) (gv4 : Int) (kd4 : Int) (sl4 : Int), ((oc3_4 - i).toNat) < fuel → (0 ≤ i ∧ i ≤ oc3_4) → (rpB (24 * N + i) nu4 wo4 sc4 me4 us4 la4 ct4 gv4 kd4 sl4 o4) → (((pA tx 24 0 []).2.take i.toNat).foldl dO (o, ck, 0) = (o4, ck4, m)) → (0 ≤ ck4 ∧ ck4 ≤ 9999) → V X 0 0 33 [(0, vP (ax 0)), (1, vI fa3_4), (2, vI m), (3, vI i)] [] [boW ax ab ap al ao (((pck t : Nat) : Int), ck4, ba, no, fu), bkW ab (nu4, wo4, sc4, me4, us4, la4, ct4, gv4, kd4, sl4), paW ap ak (if nx + 1 < 12 then nx + 1 else 0, min (pc + 1) 12), kbW ak (up Bs nx (nu3_26, wo3_26, sc3_26, me3_26, us3_26, la3_26, ct, gv, kd, sl)), odW ao (by_, ve3_4, ow3_4, fi3_4, se3_4, le, oc3_4, pl3_4, fa3_4)] := by
      intro fuel
      induction fuel with
      | zero => intro i m o4 ck4 nu4 wo4 sc4 me4 us4 la4 ct4 gv4 kd4 sl4 hz; exact absurd hz (Nat.not_lt_zero _)
      | succ fuel ih_33 =>
        intro i m o4 ck4 nu4 wo4 sc4 me4 us4 la4 ct4 gv4 kd4 sl4 hfu_33 hi hb4 hf4 hck4
        refine i_iload_n (j := 3) (q := 34) C rfl rfl dX7_runs_33 rfl ?_
        refine i_aload_n (j := 0) (q := 35) C rfl rfl dX7_runs_34 rfl ?_
        refine i_get (i := 0) (j := 0) (f := 3) (q := 38) C rfl rfl rfl hi_X7_runs_X7 (by decide) lk_X7_runs_33 rfl dX7_runs_35 rfl ?_
        refine i_get (i := 4) (j := 0) (f := 6) (q := 41) C rfl rfl rfl hi_X7_runs_X3 (by decide) lk_X7_runs_214 rfl dX7_runs_38 rfl ?_
        refine i_icmp_ge (tgt := 96) (q := 44) C (by omega) (by omega) dX7_runs_41 (by decide) rfl (fun c_41 => ?_) (fun c_41 => ?_)
        · skip
          refine i_iload_n (j := 2) (q := 97) C rfl rfl dX7_runs_96 rfl ?_
          refine i_iret C hR dX7_runs_97 ?_
          have e9 : (pA tx 24 0 []).2.take i.toNat = (pA tx 24 0 []).2 := List.take_of_length_le (by omega)
          rw [e9] at hf4
          have hsp : (sp_runs (o, h, t, ck, tx, ba, no, fu)) = (m, (o4, noteH h o, t, ck4, tx, ba, no, fu)) := by
            simp only [sp_runs]
            rw [if_pos (by rw [hr_4]; exact c_10), hf4]
          exact ⟨ck4, nu4, wo4, sc4, me4, us4, la4, ct4, gv4, kd4, sl4, if nx + 1 < 12 then nx + 1 else 0, min (pc + 1) 12, up Bs nx (nu3_26, wo3_26, sc3_26, me3_26, us3_26, la3_26, ct, gv, kd, sl), ve3_4, ow3_4, fi3_4, se3_4, oc3_4, pl3_4, fa3_4, by rw [hsp], rfl, by rw [hsp]; exact hC.upd hN (hb4.grow (by omega) (by omega)) ((hC.hhG hN).note (B := (nu3_26, wo3_26, sc3_26, me3_26, us3_26, la3_26, ct, gv, kd, sl)) ((hC.hbG hN).ext hc_26)) ⟨ht, hlt⟩ hck4 hC.hx⟩
        · skip
          have hci := cor_at hcor hi.1 (by omega)
          have hoki := hoks _ (rAt_mem hi.1 (by omega))
          refine i_aload_n (j := 0) (q := 45) C rfl rfl dX7_runs_44 rfl ?_
          refine i_aload_n (j := 0) (q := 46) C rfl rfl dX7_runs_45 rfl ?_
          refine i_get (i := 0) (j := 0) (f := 3) (q := 49) C rfl rfl rfl hi_X7_runs_X7 (by decide) lk_X7_runs_33 rfl dX7_runs_46 rfl ?_
          refine i_get (i := 4) (j := 0) (f := 2) (q := 52) C rfl rfl rfl hi_X7_runs_X3 (by decide) lk_X7_runs_215 rfl dX7_runs_49 rfl ?_
          refine i_iload_n (j := 3) (q := 53) C rfl rfl dX7_runs_52 rfl ?_
          refine i_iald (i := 4) (j := 2) (q := 54) C rfl rfl (by omega) dX7_runs_53 rfl ?_
          refine V.top (b := (rAt (pA tx 24 0 []).2 i).1 - 1) (hci.1) ?_
          refine i_aload_n (j := 0) (q := 55) C rfl rfl dX7_runs_54 rfl ?_
          refine i_get (i := 0) (j := 0) (f := 3) (q := 58) C rfl rfl rfl hi_X7_runs_X7 (by decide) lk_X7_runs_33 rfl dX7_runs_55 rfl ?_
          refine i_get (i := 4) (j := 0) (f := 3) (q := 61) C rfl rfl rfl hi_X7_runs_X3 (by decide) lk_X7_runs_218 rfl dX7_runs_58 rfl ?_
          refine i_iload_n (j := 3) (q := 62) C rfl rfl dX7_runs_61 rfl ?_
          refine i_lald (i := 4) (j := 3) (q := 63) C rfl rfl (by omega) dX7_runs_62 rfl ?_
          refine V.topJ (b := ((pck ((rAt (pA tx 24 0 []).2 i).2.1) : Nat) : Int)) (hci.2.1) ?_
          refine i_aload_n (j := 0) (q := 64) C rfl rfl dX7_runs_63 rfl ?_
          refine i_get (i := 0) (j := 0) (f := 3) (q := 67) C rfl rfl rfl hi_X7_runs_X7 (by decide) lk_X7_runs_33 rfl dX7_runs_64 rfl ?_
          refine i_get (i := 4) (j := 0) (f := 4) (q := 70) C rfl rfl rfl hi_X7_runs_X3 (by decide) lk_X7_runs_219 rfl dX7_runs_67 rfl ?_
          refine i_iload_n (j := 3) (q := 71) C rfl rfl dX7_runs_70 rfl ?_
          refine i_iald (i := 4) (j := 4) (q := 72) C rfl rfl (by omega) dX7_runs_71 rfl ?_
          refine V.top (b := (rAt (pA tx 24 0 []).2 i).2.2.1) (hci.2.2.1) ?_
          refine i_aload_n (j := 0) (q := 73) C rfl rfl dX7_runs_72 rfl ?_
          refine i_get (i := 0) (j := 0) (f := 3) (q := 76) C rfl rfl rfl hi_X7_runs_X7 (by decide) lk_X7_runs_33 rfl dX7_runs_73 rfl ?_
          refine i_get (i := 4) (j := 0) (f := 5) (q := 79) C rfl rfl rfl hi_X7_runs_X3 (by decide) lk_X7_runs_222 rfl dX7_runs_76 rfl ?_
          refine i_iload_n (j := 3) (q := 80) C rfl rfl dX7_runs_79 rfl ?_
          refine i_iald (i := 4) (j := 5) (q := 81) C rfl rfl (by omega) dX7_runs_80 rfl ?_
          refine V.top (b := (rAt (pA tx 24 0 []).2 i).2.2.2) (hci.2.2.2) ?_
          refine i_callV (wr := [paW ap ak (if nx + 1 < 12 then nx + 1 else 0, min (pc + 1) 12), kbW ak (up Bs nx (nu3_26, wo3_26, sc3_26, me3_26, us3_26, la3_26, ct, gv, kd, sl)), odW ao (by_, ve3_4, ow3_4, fi3_4, se3_4, le, oc3_4, pl3_4, fa3_4)]) (As := [vI ((rAt (pA tx 24 0 []).2 i).1 - 1), vJ (((pck ((rAt (pA tx 24 0 []).2 i).2.1) : Nat) : Int)), vI ((rAt (pA tx 24 0 []).2 i).2.2.1), vI ((rAt (pA tx 24 0 []).2 i).2.2.2)]) (st := []) (i := 0) (j := 0) (q := 84) C (c_X7_isDone K l (ax) (ap) (al) (ao) (ck4) (ba) (no) (fu) (t) (ab) (nu4) (wo4) (sc4) (me4) (us4) (la4) (ct4) (gv4) (kd4) (sl4) (24 * N + i) (o4) (rAt (pA tx 24 0 []).2 i) (hb4) (hoki) (hck4) (by omega)) gX7_runs_X7_isDone rfl hd_X7_isDone ⟨Nat.le_of_ble_eq_true rfl, Nat.le_of_ble_eq_true rfl⟩ ⟨rfl, rfl⟩ ⟨Nat.le_of_ble_eq_true rfl, Nat.le_of_ble_eq_true rfl⟩ (permBy [0, 1, 2, 3, 4] (by decide) rfl rfl) rfl rfl rfl rfl (Nat.le_of_ble_eq_true rfl) dX7_runs_81 rfl (fun v w hq => ?_)
          obtain ⟨nu3_81, wo3_81, sc3_81, me3_81, us3_81, la3_81, ct3_81, gv3_81, kd3_81, sl3_81, ck3_81, rfl, rfl, hb3_81, hc3_81⟩ := hq
          show V X 0 0 84 [(0, vP (ax 0)), (1, vI fa3_4), (2, vI m), (3, vI i)] [vI ((dO (o4, ck4, 0) (rAt (pA tx 24 0 []).2 i)).2.2)] [boW ax ab ap al ao (((pck t : Nat) : Int), ck3_81, ba, no, fu), bkW ab (nu3_81, wo3_81, sc3_81, me3_81, us3_81, la3_81, ct3_81, gv3_81, kd3_81, sl3_81), paW ap ak (if nx + 1 < 12 then nx + 1 else 0, min (pc + 1) 12), kbW ak (up Bs nx (nu3_26, wo3_26, sc3_26, me3_26, us3_26, la3_26, ct, gv, kd, sl)), odW ao (by_, ve3_4, ow3_4, fi3_4, se3_4, le, oc3_4, pl3_4, fa3_4)]
          refine i_if_eq (tgt := 90) (q := 87) C (by have := dO_01 o4 ck4 (rAt (pA tx 24 0 []).2 i); omega) dX7_runs_84 (by decide) rfl (fun c_84 => ?_) (fun c_84 => ?_)
          · skip
            refine i_iinc (j := 3) (q := 93) (lv' := [(3, vI (i + 1)), (0, vP (ax 0)), (1, vI fa3_4), (2, vI m)]) C rfl (by decide) rfl dX7_runs_90 rfl ?_
            refine i_goto (q := 33) C dX7_runs_93 (by decide) ?_
            refine V.lv [1, 2, 3, 0] rfl ?_
            exact ih_33 (i + 1) (m) ((dO (o4, ck4, 0) (rAt (pA tx 24 0 []).2 i)).1) (ck3_81) (nu3_81) (wo3_81) (sc3_81) (me3_81) (us3_81) (la3_81) (ct3_81) (gv3_81) (kd3_81) (sl3_81) (by omega) (by omega) (by rw [show 24 * N + (i + 1) = 24 * N + i + 1 by omega]; exact hb3_81) (by rw [rAt_fold _ _ hi.1 (by omega), hf4, dO_n, ← hc3_81, show m + (dO (o4, ck4, 0) (rAt (pA tx 24 0 []).2 i)).2.2 = (m) by have := dO_01 o4 ck4 (rAt (pA tx 24 0 []).2 i); omega]) (by rw [hc3_81]; exact dO_ck o4 0 _ hck4)
          · skip
            refine i_iinc (j := 2) (q := 90) (lv' := [(2, vI (m + 1)), (0, vP (ax 0)), (1, vI fa3_4), (3, vI i)]) C rfl (by decide) rfl dX7_runs_87 rfl ?_
            refine i_iinc (j := 3) (q := 93) (lv' := [(3, vI (i + 1)), (2, vI (m + 1)), (0, vP (ax 0)), (1, vI fa3_4)]) C rfl (by decide) rfl dX7_runs_90 rfl ?_
            refine i_goto (q := 33) C dX7_runs_93 (by decide) ?_
            refine V.lv [2, 3, 1, 0] rfl ?_
            exact ih_33 (i + 1) (m + 1) ((dO (o4, ck4, 0) (rAt (pA tx 24 0 []).2 i)).1) (ck3_81) (nu3_81) (wo3_81) (sc3_81) (me3_81) (us3_81) (la3_81) (ct3_81) (gv3_81) (kd3_81) (sl3_81) (by omega) (by omega) (by rw [show 24 * N + (i + 1) = 24 * N + i + 1 by omega]; exact hb3_81) (by rw [rAt_fold _ _ hi.1 (by omega), hf4, dO_n, ← hc3_81, show m + (dO (o4, ck4, 0) (rAt (pA tx 24 0 []).2 i)).2.2 = (m + 1) by have := dO_01 o4 ck4 (rAt (pA tx 24 0 []).2 i); omega]) (by rw [hc3_81]; exact dO_ck o4 0 _ hck4)
    refine V.lv [3, 2, 1, 0] rfl ?_
    exact loop_33 _ (0) (0) (o) (ck) (nu) (wo) (sc) (me) (us) (la) (ct) (gv) (kd) (sl) (Nat.lt_succ_self _) (by omega) (by rw [Int.add_zero]; exact hb) (rfl) (hck)
  · skip
    refine i_bipush (q := 15) C (by decide) dX7_runs_13 rfl ?_
    refine i_iload_n (j := 0) (q := 16) C rfl rfl dX7_runs_15 rfl ?_
    refine i_isub (q := 17) C dX7_runs_16 rfl ?_
    refine i_iret C hR dX7_runs_17 ?_
    have hsp : (sp_runs (o, h, t, ck, tx, ba, no, fu)) = (-10 - fa3_4, (o, h, t, ck, tx, ba, no, fu)) := by
      simp only [sp_runs]
      rw [if_neg (by rw [hr_4]; exact c_10), hr_4]
    exact ⟨ck, nu, wo, sc, me, us, la, ct, gv, kd, sl, nx, pc, Bs, ve3_4, ow3_4, fi3_4, se3_4, oc3_4, pl3_4, fa3_4, by rw [hsp], rfl, by rw [hsp]; exact hC.s hN⟩
