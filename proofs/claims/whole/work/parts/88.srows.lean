theorem zI_1 : zI 1 = (1 : Int32) := by decide
theorem zI_0 : zI 0 = (0 : Int32) := by decide
theorem i_getsC {X : Cxt} {K : KT} {l : Launch} {R : Room} {cc : ByteArray} {own : String} {Ts : List Cond} {nL k n pc q : Nat} {lv : Lv} {st : List Vl} {cs : List Wd} {idx : Nat} (C : Cx X K l R cc own Ts nL) (hlink : Cond.fieldLink own idx "java/lang/String" "COMPACT_STRINGS" "Z" ∈ Ts) (d : decode cc pc = .ok (.getstatic idx, 3)) (hq : pc + 3 = q) (kk : V X k n q lv (vI 1 :: st) cs) : V X k n pc lv st cs := by
  obtain ⟨p, l', e, R', s, m, args, below, meth, c, Q, A, K', nL'⟩ := X
  obtain ⟨rfl, rfl, rfl, rfl, hx, hb, hml, hown, hts, hK, hG, hA⟩ := C
  subst hq
  intro H locs ls hP hD hS hl
  exact va_gets (v := .int (zI 1)) hx hb (by rw [zI_1]; exact hG.2.2.2.1) hS hown (hts _ hlink) (fun _ h => h) d (kk H locs ls hP hD hS hl)

theorem i_getsq {X : Cxt} {K : KT} {l : Launch} {R : Room} {cc : ByteArray} {own : String} {Ts : List Cond} {nL k n pc q : Nat} {lv : Lv} {st : List Vl} {cs : List Wd} {idx : Nat} (C : Cx X K l R cc own Ts nL) (hlink : Cond.fieldLink own idx "jdk/internal/util/Preconditions" "SIOOBE_FORMATTER" "Ljava/util/function/BiFunction;" ∈ Ts) (d : decode cc pc = .ok (.getstatic idx, 3)) (hq : pc + 3 = q) (kN : V X k n q lv (vN :: st) cs) (kP : ∀ t : Nat, V X k n q lv (vP t :: st) cs) : V X k n pc lv st cs := by
  obtain ⟨p, l', e, R', s, m, args, below, meth, c, Q, A, K', nL'⟩ := X
  obtain ⟨rfl, rfl, rfl, rfl, hx, hb, hml, hown, hts, hK, hG, hA⟩ := C
  subst hq
  intro H locs ls hP hD hS hl
  rcases hG.2.2.2.2.1 with h | ⟨t, h⟩
  · exact va_gets (v := va_rf none) hx hb h hS hown (hts _ hlink) (fun _ h => h) d (kN H locs ls hP hD hS hl)
  · exact va_gets (v := va_rf (some t)) hx hb h hS hown (hts _ hlink) (fun _ h => h) d (kP t H locs ls hP hD hS hl)

theorem i_scod {X : Cxt} {K : KT} {l : Launch} {R : Room} {cc : ByteArray} {own : String} {Ts : List Cond} {nL k n pc q : Nat} {lv : Lv} {st : List Vl} {cs : List Wd} {idx i : Nat} (C : Cx X K l R cc own Ts nL) (hi : i < 7) (hlink : Cond.fieldLink own idx "java/lang/String" "coder" "B" ∈ Ts) (d : decode cc pc = .ok (.getfield idx, 3)) (hq : pc + 3 = q) (kk : V X k n q lv (vI 0 :: st) cs) : V X k n pc lv (vP (K.2.2.2.2.2.1 i) :: st) cs := by
  obtain ⟨p, l', e, R', s, m, args, below, meth, c, Q, A, K', nL'⟩ := X
  obtain ⟨rfl, rfl, rfl, rfl, hx, hb, hml, hown, hts, hK, hG, hA⟩ := C
  subst hq
  intro H locs ls hP hD hS hl
  exact vk_getf (v := .int (zI 0)) hx hb (by rw [zI_0]; exact (hG.2.2.1.1 i hi).2.1) hS hown (hts _ hlink) (fun _ h => h) d (kk H locs ls hP hD hS hl)

theorem i_sval {X : Cxt} {K : KT} {l : Launch} {R : Room} {cc : ByteArray} {own : String} {Ts : List Cond} {nL k n pc q : Nat} {lv : Lv} {st : List Vl} {cs : List Wd} {idx i : Nat} (C : Cx X K l R cc own Ts nL) (hi : i < 7) (hlink : Cond.fieldLink own idx "java/lang/String" "value" "[B" ∈ Ts) (d : decode cc pc = .ok (.getfield idx, 3)) (hq : pc + 3 = q) (kk : V X k n q lv (vP (K.2.2.2.2.2.2 i) :: st) cs) : V X k n pc lv (vP (K.2.2.2.2.2.1 i) :: st) cs := by
  obtain ⟨p, l', e, R', s, m, args, below, meth, c, Q, A, K', nL'⟩ := X
  obtain ⟨rfl, rfl, rfl, rfl, hx, hb, hml, hown, hts, hK, hG, hA⟩ := C
  subst hq
  intro H locs ls hP hD hS hl
  exact vk_getf hx hb (hG.2.2.1.1 i hi).2.2.1 hS hown (hts _ hlink) (fun _ h => h) d (kk H locs ls hP hD hS hl)

theorem i_slen {X : Cxt} {K : KT} {l : Launch} {R : Room} {cc : ByteArray} {own : String} {Ts : List Cond} {nL k n pc q : Nat} {lv : Lv} {st : List Vl} {cs : List Wd} {i : Nat} (C : Cx X K l R cc own Ts nL) (hi : i < 7) (d : decode cc pc = .ok (.arraylength, 1)) (hq : pc + 1 = q) (kk : V X k n q lv (vI ((sN.getD i 0 : Nat) : Int) :: st) cs) : V X k n pc lv (vP (K.2.2.2.2.2.2 i) :: st) cs := by
  obtain ⟨p, l', e, R', s, m, args, below, meth, c, Q, A, K', nL'⟩ := X
  obtain ⟨rfl, rfl, rfl, rfl, hx, hb, hml, hown, hts, hK, hG, hA⟩ := C
  subst hq
  intro H locs ls hP hD hS hl
  exact va_tlen (v := zI ((sN.getD i 0 : Nat) : Int)) hx hb (hG.2.2.1.1 i hi).2.2.2 hS (Int32.ofInt_eq_ofNat).symm d (kk H locs ls hP hD hS hl)

theorem i_sbal {X : Cxt} {K : KT} {l : Launch} {R : Room} {cc : ByteArray} {own : String} {Ts : List Cond} {nL k n pc q : Nat} {lv : Lv} {st : List Vl} {cs : List Wd} {i : Nat} {z : Int} (C : Cx X K l R cc own Ts nL) (hi : i < 7) (hz : 0 ≤ z ∧ z < ((sN.getD i 0 : Nat) : Int)) (d : decode cc pc = .ok (.baload, 1)) (hq : pc + 1 = q) (kk : V X k n q lv (vI ((sB.getD i []).getD z.toNat 0).toInt :: st) cs) : V X k n pc lv (vI z :: vP (K.2.2.2.2.2.2 i) :: st) cs := by
  obtain ⟨p, l', e, R', s, m, args, below, meth, c, Q, A, K', nL'⟩ := X
  obtain ⟨rfl, rfl, rfl, rfl, hx, hb, hml, hown, hts, hK, hG, hA⟩ := C
  subst hq
  intro H locs ls hP hD hS hl
  have hN : sN.getD i 0 < 2147483648 := by
    have : ∀ j, j < 7 → sN.getD j 0 < 2147483648 := by decide
    exact this i hi
  exact va_tb (i := zI z) (v := .int (zI ((sB.getD i []).getD z.toNat 0).toInt)) hx hb (hG.2.2.1.1 i hi).2.2.2 hS (zI_in hz.1 hz.2 hN) (by rw [zI_of, zI_clamp hz.1 (by omega)]) d (kk H locs ls hP hD hS hl)

theorem i_ldcS {X : Cxt} {K : KT} {l : Launch} {R : Room} {cc : ByteArray} {own : String} {Ts : List Cond} {nL k n pc q : Nat} {lv : Lv} {st : List Vl} {cs : List Wd} {i idx : Nat} (C : Cx X K l R cc own Ts nL) (ho : own = RX3) (hi : i < 7) (hidx : idx = 73 + 2 * i) (d : decode cc pc = .ok (.ldc idx, 2)) (hq : pc + 2 = q) (kk : V X k n q lv (vP (K.2.2.2.2.2.1 i) :: st) cs) : V X k n pc lv st cs := by
  subst ho
  subst hidx
  obtain ⟨p, l', e, R', s, m, args, below, meth, c, Q, A, K', nL'⟩ := X
  obtain ⟨rfl, rfl, rfl, rfl, hx, hb, hml, hown, hts, hK, hG, hA⟩ := C
  subst hq
  intro H locs ls hP hD hS hl
  exact va_ldcS hx hb hown (hG.2.1 i hi) d (kk H locs ls hP hD hS hl)

theorem i_callVS {X : Cxt} {K : KT} {l : Launch} {R : Room} {cc : ByteArray} {own : String} {Ts : List Cond} {nL k n pc q : Nat} {lv : Lv} {st st0 : List Vl} {cs : List Wd} {y : MethodName} {wy ws' : List Cond} {rm : Room} {As : List Vl} {w0 wr : List Wd} {mc ms : Nat} {post : Option Vl → List Wd → Prop} {bytes : ByteArray} {maxL idx : Nat} {ret : Option FieldType} {i : Nat} (hi : i < 7) (C : Cx X K l R cc own Ts nL) (M : Mt K l y wy rm (vP (K.2.2.2.2.2.1 i) :: As) w0 mc ms post) (hT : GoodIn Ts (wsV own idx RJ0 y wy)) (hw : wy = Cond.code y bytes maxL ret :: ws') (hd : y.cls = RJ0 ∧ y.cls ≠ "java/lang/invoke/MethodHandle" ∧ y.cls ≠ "java/lang/invoke/VarHandle" ∧ (parseMethodDescriptor y.desc).map (fun d => d.parameters.length) = some As.length) (hR : rm.frames + 1 ≤ R.frames ∧ 8 + (maxL + 11) + rm.locals ≤ R.locals) (hrm : rm.cells = mc ∧ rm.slots = ms) (hf : k + mc ≤ R.cells ∧ n + ms ≤ R.slots) (hp : cs.Perm (w0 ++ wr)) (hst : st0 = As.reverse ++ vP (K.2.2.2.2.2.1 i) :: st) (hcat : ((st.map rv).map fun v => v.category).sum ≤ 8) (d : decode cc pc = .ok (.invokevirtual idx, 3)) (hq : pc + 3 = q) (kk : ∀ (v : Option Vl) (w1 : List Wd), post v w1 → V X (k + mc) (n + ms) q lv (v.toList ++ st) (w1 ++ wr)) : V X k n pc lv st0 cs := by
  obtain ⟨p, l', e, R', s, m, args, below, meth, c, Q, A, K', nL'⟩ := X
  obtain ⟨rfl, rfl, rfl, rfl, hx, hb, hml, hown, hts, hK, hG, hA⟩ := C
  subst hq
  subst hst
  intro H locs ls hP hD hS hl
  have hrun := va_runV (l := l') (e := e) (below := below) (meth := meth) (locs := locs) (g := F0 m pc ls ((As.reverse ++ vP (K'.2.2.2.2.2.1 i) :: st).map rv)) (As := As.map rv) (rest := st.map rv) (b := K'.2.2.2.2.2.1 i) ⟨hx, hb, hml, hown, hts⟩ (M H.size) (cwV As.length hts hT hw hrm.1 hrm.2 hd hR) ⟨MPc_blind, vk_recv hG.2.2.1 hi hS, MPc_pre hP hD hS hK hG hA hp⟩ rfl (by simp) hl.1 (by simp [List.map_reverse, rv, va_rf]) (lv_room hcat) d hf
  exact call_fin hP hD hS hl hA hp hrun kk

theorem zI_nar {z : Int} (h : 0 ≤ z ∧ z < 65536) : narrow .char (.int (zI z)) = .int (zI z) := by
  have e : zI z = nI z.toNat := by
    have h2 : ((z.toNat : Nat) : Int) = z := Int.toNat_of_nonneg h.1
    rw [← h2]
    exact Int32.ofInt_eq_ofNat
  rw [e]
  exact (pk_charN (by omega)).1

theorem i_aretS {X : Cxt} {K : KT} {l : Launch} {R : Room} {cc : ByteArray} {own : String} {Ts : List Cond} {nL pc : Nat} {lv : Lv} {cs : List Wd} {mc ms : Nat} {post : Option Vl → List Wd → Prop} {a : Nat} {nm : String} (C : Cx X K l R cc own Ts nL) (hR : Rt X (some (.object nm)) mc ms post)  (d : decode cc pc = .ok (.areturn, 1)) (h : post (some (vP a)) cs) : V X mc ms pc lv [vP a] cs := by
  obtain ⟨p, l', e, R', s, m, args, below, meth, c, Q, A, K', nL'⟩ := X
  obtain ⟨rfl, rfl, rfl, rfl, hx, hb, hml, hown, hts, hK, hG, hA⟩ := C
  intro H locs ls hP hD hS hl
  obtain ⟨w0, rfl, rfl, hr, hlocks⟩ := hR
  exact W.aret (v := .ref a) hx hb hr (Or.inl ⟨_, rfl⟩) (Or.inr ⟨_, rfl⟩) (fun t ht hW => ⟨⟨(some (vP a)), cs, rfl, h, by rw [ht]; exact hP, hD⟩, hS.F ht⟩) hS.2.2 d hlocks

theorem i_cret {X : Cxt} {K : KT} {l : Launch} {R : Room} {cc : ByteArray} {own : String} {Ts : List Cond} {nL pc : Nat} {lv : Lv} {cs : List Wd} {mc ms : Nat} {post : Option Vl → List Wd → Prop} {z : Int} (C : Cx X K l R cc own Ts nL) (hR : Rt X (some .char) mc ms post) (hz : 0 ≤ z ∧ z < 65536) (d : decode cc pc = .ok (.ireturn, 1)) (h : post (some (vI z)) cs) : V X mc ms pc lv [vI z] cs := by
  obtain ⟨p, l', e, R', s, m, args, below, meth, c, Q, A, K', nL'⟩ := X
  obtain ⟨rfl, rfl, rfl, rfl, hx, hb, hml, hown, hts, hK, hG, hA⟩ := C
  intro H locs ls hP hD hS hl
  obtain ⟨w0, rfl, rfl, hr, hlocks⟩ := hR
  exact W.zret (v := zI z) (ty := .char) hx hb hr (zI_nar hz) (fun t ht hW => ⟨⟨(some (vI z)), cs, rfl, h, by rw [ht]; exact hP, hD⟩, hS.F ht⟩) hS.2.2 d hlocks

theorem i_bret {X : Cxt} {K : KT} {l : Launch} {R : Room} {cc : ByteArray} {own : String} {Ts : List Cond} {nL pc : Nat} {lv : Lv} {cs : List Wd} {mc ms : Nat} {post : Option Vl → List Wd → Prop} {z : Int} (C : Cx X K l R cc own Ts nL) (hR : Rt X (some .byte) mc ms post) (hz : z = 0) (d : decode cc pc = .ok (.ireturn, 1)) (h : post (some (vI z)) cs) : V X mc ms pc lv [vI z] cs := by
  obtain ⟨p, l', e, R', s, m, args, below, meth, c, Q, A, K', nL'⟩ := X
  obtain ⟨rfl, rfl, rfl, rfl, hx, hb, hml, hown, hts, hK, hG, hA⟩ := C
  intro H locs ls hP hD hS hl
  obtain ⟨w0, rfl, rfl, hr, hlocks⟩ := hR
  exact W.zret (v := zI z) (ty := .byte) hx hb hr (by subst hz; decide) (fun t ht hW => ⟨⟨(some (vI z)), cs, rfl, h, by rw [ht]; exact hP, hD⟩, hS.F ht⟩) hS.2.2 d hlocks

theorem ca_int {K : KT} {s : State} {cA : ClassId} (h : va_K (kD K) vwCl (kT K) s) (h2 : va_RA s cA .int) : cA = K.2.2.1 := Option.some.inj (h2.symm.trans (h.2 0 _ rfl).2)
theorem ca_long {K : KT} {s : State} {cA : ClassId} (h : va_K (kD K) vwCl (kT K) s) (h2 : va_RA s cA .long) : cA = K.2.2.2.1 := Option.some.inj (h2.symm.trans (h.2 1 _ rfl).2)
theorem ca_book {K : KT} {s : State} {cA : ClassId} (h : va_K (kD K) vwCl (kT K) s) (h2 : va_RA s cA (.object "BestWords$Book")) : cA = K.2.2.2.2.1 := by
  obtain ⟨-, -, -, -, -, e1⟩ := h2
  obtain ⟨-, -, -, -, -, e2⟩ := (h.2 2 _ rfl).2
  exact Option.some.inj (e1.symm.trans e2)
theorem rw_push {K : KT} {cs : List Wd} {x : Nat × Ce} : rw_ K cs.flatten ++ [(x.1, re K x.2)] = rw_ K (cs ++ [[x]]).flatten := by simp [rw_]

theorem i_newI {X : Cxt} {K : KT} {l : Launch} {R : Room} {cc : ByteArray} {own : String} {Ts : List Cond} {nL k n pc q : Nat} {lv : Lv} {st : List Vl} {cs : List Wd} {z : Int} {N : Nat} (C : Cx X K l R cc own Ts nL) (harr : Cond.arrayClass .int ∈ Ts) (hz : z = (N : Int)) (hN : N ≤ 100000) (hc : k + 1 ≤ R.cells ∧ n + N ≤ R.slots) (d : decode cc pc = .ok (.newarray .int, 2)) (hq : pc + 2 = q) (kk : ∀ a : Nat, V X (k + 1) (n + N) q lv (vP a :: st) (cs ++ [[(a, cA N (fun _ => 0))]])) : V X k n pc lv (vI z :: st) cs := by
  obtain ⟨p, l', e, R', s, m, args, below, meth, c, Q, A, K', nL'⟩ := X
  obtain ⟨rfl, rfl, rfl, rfl, hx, hb, hml, hown, hts, hK, hG, hA⟩ := C
  subst hq
  intro H locs ls hP hD hS hl
  refine va_newa (atype := .int) (n := zI z) (N' := N) (a0 := (N, .inl (fun _ => 0))) hx hb (hts _ harr) rfl hK hP hD hS hA (fun cA => rfl) (fun h => by have := (zI_lt (a := z) (b := 0) ⟨by omega, by omega⟩ ⟨by omega, by omega⟩).mp h; omega) (by rw [zI_clamp (by omega) (by omega)]; omega) (by show N * 4 ≤ 536870912; omega) hc.1 hc.2 d (fun q0 cA H1 hK1 hP1 hD1 hS1 => ?_)
  have e : cA = K'.2.2.1 := ca_int hK (hK1.2 3 _ rfl).2
  subst e
  have e0 : (.inl (K'.2.2.1, N, .inl (fun _ => 0)) : va_E) = re K' (cA N (fun _ => 0)) := rfl
  rw [e0, rw_push (x := (q0, cA N (fun _ => 0)))] at hP1 hD1
  exact kk q0 H1 locs ls hP1 hD1 hS1 hl

theorem i_newJ {X : Cxt} {K : KT} {l : Launch} {R : Room} {cc : ByteArray} {own : String} {Ts : List Cond} {nL k n pc q : Nat} {lv : Lv} {st : List Vl} {cs : List Wd} {z : Int} {N : Nat} (C : Cx X K l R cc own Ts nL) (harr : Cond.arrayClass .long ∈ Ts) (hz : z = (N : Int)) (hN : N ≤ 100000) (hc : k + 1 ≤ R.cells ∧ n + N ≤ R.slots) (d : decode cc pc = .ok (.newarray .long, 2)) (hq : pc + 2 = q) (kk : ∀ a : Nat, V X (k + 1) (n + N) q lv (vP a :: st) (cs ++ [[(a, cL N (fun _ => 0))]])) : V X k n pc lv (vI z :: st) cs := by
  obtain ⟨p, l', e, R', s, m, args, below, meth, c, Q, A, K', nL'⟩ := X
  obtain ⟨rfl, rfl, rfl, rfl, hx, hb, hml, hown, hts, hK, hG, hA⟩ := C
  subst hq
  intro H locs ls hP hD hS hl
  refine va_newa (atype := .long) (n := zI z) (N' := N) (a0 := (N, .inr (.inl (fun _ => 0)))) hx hb (hts _ harr) rfl hK hP hD hS hA (fun cA => rfl) (fun h => by have := (zI_lt (a := z) (b := 0) ⟨by omega, by omega⟩ ⟨by omega, by omega⟩).mp h; omega) (by rw [zI_clamp (by omega) (by omega)]; omega) (by show N * 8 ≤ 536870912; omega) hc.1 hc.2 d (fun q0 cA H1 hK1 hP1 hD1 hS1 => ?_)
  have e : cA = K'.2.2.2.1 := ca_long hK (hK1.2 3 _ rfl).2
  subst e
  have e0 : (.inl (K'.2.2.2.1, N, .inr (.inl (fun _ => 0))) : va_E) = re K' (cL N (fun _ => 0)) := rfl
  rw [e0, rw_push (x := (q0, cL N (fun _ => 0)))] at hP1 hD1
  exact kk q0 H1 locs ls hP1 hD1 hS1 hl

theorem i_newB {X : Cxt} {K : KT} {l : Launch} {R : Room} {cc : ByteArray} {own : String} {Ts : List Cond} {nL k n pc q : Nat} {lv : Lv} {st : List Vl} {cs : List Wd} {z : Int} {N idx : Nat} (C : Cx X K l R cc own Ts nL) (hcl : Cond.classLink own idx "BestWords$Book" ∈ Ts) (hz : z = (N : Int)) (hN : N ≤ 100000) (hc : k + 1 ≤ R.cells ∧ n + N ≤ R.slots) (d : decode cc pc = .ok (.anewarray idx, 3)) (hq : pc + 3 = q) (kk : ∀ a : Nat, V X (k + 1) (n + N) q lv (vP a :: st) (cs ++ [[(a, cR N (fun _ => none))]])) : V X k n pc lv (vI z :: st) cs := by
  obtain ⟨p, l', e, R', s, m, args, below, meth, c, Q, A, K', nL'⟩ := X
  obtain ⟨rfl, rfl, rfl, rfl, hx, hb, hml, hown, hts, hK, hG, hA⟩ := C
  subst hq
  intro H locs ls hP hD hS hl
  refine va_newq (n := zI z) (N' := N) hx hb hown (hts _ hcl) hG.2.2.2.2.2 hK hP hD hS hA (fun h => by have := (zI_lt (a := z) (b := 0) ⟨by omega, by omega⟩ ⟨by omega, by omega⟩).mp h; omega) (by rw [zI_clamp (by omega) (by omega)]; omega) (by omega) hc.1 hc.2 d (fun q0 cA H1 hK1 hP1 hD1 hS1 => ?_)
  have e : cA = K'.2.2.2.2.1 := ca_book hK (hK1.2 3 _ rfl).2
  subst e
  have e0 : (.inl (K'.2.2.2.2.1, N, .inr (.inr (.inr (.inr (fun _ => none))))) : va_E) = re K' (cR N (fun _ => none)) := rfl
  rw [e0, rw_push (x := (q0, cR N (fun _ => none)))] at hP1 hD1
  exact kk q0 H1 locs ls hP1 hD1 hS1 hl

theorem i_new {X : Cxt} {K : KT} {l : Launch} {R : Room} {cc : ByteArray} {own : String} {Ts : List Cond} {nL k n pc q : Nat} {lv : Lv} {st : List Vl} {cs : List Wd} {ci N idx : Nat} {Cn : String} {T : u_T} {fs : List Vl} (C : Cx X K l R cc own Ts nL) (hcl : vwCl[ci]? = some (Cn, T, N)) (hin : ∀ w ∈ u_ws Cn T N, w ∈ Ts) (ty0 : Nat → FieldType) (hty : ∀ k, k < N → parseFieldDescriptor (T k).2.2.1 = some (ty0 k)) (hcln : Cond.classLink own idx Cn ∈ Ts) (hinst : Cond.instantiable Cn N ∈ Ts) (hini : Cond.initialized Cn ∈ Ts) (hfs : ∀ j, j < N → defaultValue (ty0 j) = vp_V (fs.map rv) j) (hc : k + 1 ≤ R.cells ∧ n + N ≤ R.slots) (d : decode cc pc = .ok (.new idx, 3)) (hq : pc + 3 = q) (kk : ∀ a : Nat, V X (k + 1) (n + N) q lv (vP a :: st) (cs ++ [[(a, cO ci fs)]])) : V X k n pc lv st cs := by
  obtain ⟨p, l', e, R', s, m, args, below, meth, c, Q, A, K', nL'⟩ := X
  obtain ⟨rfl, rfl, rfl, rfl, hx, hb, hml, hown, hts, hK, hG, hA⟩ := C
  subst hq
  intro H locs ls hP hD hS hl
  refine va_new (ci := ci) (fs := fs.map rv) (C := Cn) (T := T) (N := N) hx hb hts hin ty0 hty hown (hts _ hcln) (hts _ hinst) (hts _ hini) hK hP hD hS hA hcl hfs hc.1 hc.2 d (fun q0 H1 hP1 hD1 hS1 => ?_)
  have e0 : (.inr (ci, fs.map rv) : va_E) = re K' (cO ci fs) := rfl
  rw [e0, rw_push (x := (q0, cO ci fs))] at hP1 hD1
  exact kk q0 H1 locs ls hP1 hD1 hS1 hl

theorem i_objInit {X : Cxt} {K : KT} {l : Launch} {R : Room} {cc : ByteArray} {own : String} {Ts : List Cond} {nL k n pc q : Nat} {lv : Lv} {st : List Vl} {cs : List Wd} {idx a : Nat} (C : Cx X K l R cc own Ts nL) (h1 : Cond.methodLink own idx objectInit ∈ Ts) (h2 : Cond.instanceMethod objectInit ∈ Ts) (h3 : Cond.code objectInit ⟨#[0xb1]⟩ 1 none ∈ Ts) (hst : st = []) (hR : 1 ≤ R.frames ∧ 12 ≤ R.locals) (d : decode cc pc = .ok (.invokespecial idx, 3)) (hq : pc + 3 = q) (kk : V X k n q lv st cs) : V X k n pc lv (vP a :: st) cs := by
  subst hst
  obtain ⟨p, l', e, R', s, m, args, below, meth, c, Q, A, K', nL'⟩ := X
  obtain ⟨rfl, rfl, rfl, rfl, hx, hb, hml, hown, hts, hK, hG, hA⟩ := C
  subst hq
  intro H locs ls hP hD hS hl
  exact W.objInit hx hb hown (hts _ h1) (hts _ h2) (hts _ h3) rfl (by rw [hml]; exact hl.1) rfl d hR.1 (by show 0 + 0 + 12 ≤ _; exact hR.2) (kk H locs ls hP hD hS hl)

theorem i_putFP {X : Cxt} {K : KT} {l : Launch} {R : Room} {cc : ByteArray} {own : String} {Ts : List Cond} {nL k n pc q : Nat} {lv : Lv} {st : List Vl} {cs : List Wd} {i j a ci f idx N : Nat} {ch : Wd} {fs : List Vl} {Cn : String} {T : u_T} {cs' : List Wd} {b : Nat} (hni : nmI X "<init>") (C : Cx X K l R cc own Ts nL) (hc : cs[i]? = some ch) (hj : ch[j]? = some (a, cO ci fs)) (hcl : vwCl[ci]? = some (Cn, T, N)) (hin : ∀ w ∈ u_ws Cn T N, w ∈ Ts) (ty0 : Nat → FieldType) (hty : ∀ k, k < N → parseFieldDescriptor (T k).2.2.1 = some (ty0 k)) (hnm : ∀ a, a < N → ∀ b, b < N → a ≠ b → (T a).2.1 ≠ (T b).2.1) (hf : f < N) (hfl : f < fs.length) (hlink : Cond.fieldLink own idx (T f).1 (T f).2.1 (T f).2.2.1 ∈ Ts) (hfin : (T f).2.2.2 = true) (hown2 : (T f).1 = own) (ht : (∃ nm, ty0 f = .object nm) ∨ ∃ t, ty0 f = .array t) (d : decode cc pc = .ok (.putfield idx, 3)) (hq : pc + 3 = q) (hcs : cs.set i (ch.set j (a, cO ci (fs.set f (vP b)))) = cs') (kk : V X k n q lv st cs') : V X k n pc lv (vP b :: vP a :: st) cs := by
  obtain ⟨p, l', e, R', s, m, args, below, meth, c, Q, A, K', nL'⟩ := X
  obtain ⟨rfl, rfl, rfl, rfl, hx, hb, hml, hown, hts, hK, hG, hA⟩ := C
  subst hq
  intro H locs ls hP hD hS hl
  subst hcs
  obtain ⟨q0, h1, h2⟩ := rw_at (K := K') hc hj
  have e0 : re K' (cO ci (fs.set f (vP b))) = .inr (ci, (fs.map rv).set f (rv (vP b))) := by simp [re, List.map_set]
  refine va_putF (v := rv (vP b)) (ty := ty0 f) hx hb hts hin ty0 hty hnm hown hK hP hD hS q0 h1 hcl f hf (hts _ hlink) (fun _ h => h) hfin hni hown2 (hty f hf) (by rcases ht with ⟨t, e⟩ | ⟨t, e⟩ <;> rw [e] <;> rfl) (by rcases ht with ⟨t, e⟩ | ⟨t, e⟩ <;> rw [e] <;> rfl) (by simpa using hfl) d (fun H2 locs2 hP2 hD2 hS2 => ?_)
  rw [← e0, h2] at hP2 hD2
  exact kk H2 locs2 ls hP2 hD2 hS2 hl

theorem up_funR {g : Int → Option Nat} {z : Int} {x : Nat} (hz : 0 ≤ z) : va_up (fun j : Nat => g (j : Int)) z.toNat (some x) = fun j : Nat => up g z (some x) (j : Int) := by
  funext j
  by_cases h : j = z.toNat
  · subst h
    rw [Int.toNat_of_nonneg hz, up_s]
    simp [va_up]
  · rw [up_n g _ (fun e => h (by omega))]
    simp [va_up, h]

theorem i_aast {X : Cxt} {K : KT} {l : Launch} {R : Room} {cc : ByteArray} {own : String} {Ts : List Cond} {nL k n pc q : Nat} {lv : Lv} {st : List Vl} {cs : List Wd} {i j i2 j2 a N b : Nat} {ch ch2 : Wd} {cs' : List Wd} {g : Int → Option Nat} {fs : List Vl} {z : Int} (C : Cx X K l R cc own Ts nL) (hc : cs[i]? = some ch) (hj : ch[j]? = some (a, cR N g)) (hc2 : cs[i2]? = some ch2) (hj2 : ch2[j2]? = some (b, cO 0 fs)) (hz : 0 ≤ z ∧ z < N ∧ N < 2147483648) (d : decode cc pc = .ok (.aastore, 1)) (hq : pc + 1 = q) (hcs : cs.set i (ch.set j (a, cR N (up g z (some b)))) = cs') (kk : V X k n q lv st cs') : V X k n pc lv (vP b :: vI z :: vP a :: st) cs := by
  obtain ⟨p, l', e, R', s, m, args, below, meth, c, Q, A, K', nL'⟩ := X
  obtain ⟨rfl, rfl, rfl, rfl, hx, hb, hml, hown, hts, hK, hG, hA⟩ := C
  subst hq
  intro H locs ls hP hD hS hl
  subst hcs
  obtain ⟨q0, h1, h2⟩ := rw_at (K := K') hc hj
  obtain ⟨q9, h9, -⟩ := rw_at (K := K') hc2 hj2
  refine va_astq hx hb hK hP hD hS q0 2 q9 0 h1 rfl h9 rfl (i := zI z) (zI_in hz.1 hz.2.1 hz.2.2) d (fun H2 locs2 hP2 hD2 hS2 => ?_)
  have e0 : (.inl (K'.2.2.2.2.1, N, .inr (.inr (.inr (.inr (va_up (fun j : Nat => g (j : Int)) (zI z).toNatClampNeg (some b)))))) : va_E) = re K' (cR N (up g z (some b))) := by rw [zI_clamp hz.1 (by omega), up_funR hz.1]; rfl
  rw [e0, h2] at hP2 hD2
  exact kk H2 locs2 ls hP2 hD2 hS2 hl

