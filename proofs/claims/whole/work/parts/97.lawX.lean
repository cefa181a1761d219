/-! THE CLAIM OUT OF ONE WALK OF THE LAW'S BODY. Your part is whole_start (and what it stands on); all else here is the same for every law, but numbers. -/
def R_law : String := "BestWordsLaw"
def lw_P (b : Addr) (xs : List Int32) (args : Array Value) (s : State) : Prop := args = #[.ref b] ∧ s.IntsAt b xs ∧ xs.length ≤ 1536 ∧ (Jvm.Cond.and given_1 narrow_1).before args s = true
def lw_Q (_ : Array Value) (s : State) (o : Outcome) (t : State) : Prop := o = .returned (some (.int 1)) ∧ Framed s o t [] 600000 7302249
def lw_Z (below : List Frame) (a : Array Value) (s : State) : State → Prop := fun t => ∃ o, t.status = .running ∧ Ended t below o ∧ lw_Q a s o t
/-- the law's own end, with 1 on the stack, nothing written that was there before, its room as the claim has it -/
theorem lw_ret {p : Program} {l : Launch} {e : Env} {s : State} {m : MethodId} {below : List Frame} {meth : Method} {c : Code} {b : Nat} (hx : p.tables.exec = Jvm.exec) (hb : c.code = code) (hr : meth.sig.returnType = ret) (hlocks : meth.locks = false) {pc : Nat} {H : Heap} {ls : Array Slot} (hdg : decode code pc = .ok (.ireturn, 1)) : W p l e room_1 s m #[Value.ref b] below meth c H [] 600000 7302249 (lw_Z below #[Value.ref b] s) (F0 m pc ls [.int 1]) := by
  intro T hT X
  obtain ⟨fs, hret, hrun, hended, hW, hframe⟩ := X.leave (v := some (.int 1)) (hlocks := hlocks) (fun h => by rw [hr] at h; cases h)
  have hmeth' : T.vm.method? m = some meth := X.method'
  refine ⟨T.setFrames fs, ?_, .returned (some (.int 1)), hrun, hended, rfl, ⟨_, rfl⟩, hW, hframe⟩
  jvm_step X.here [X.here.top, hx, hb, hdg, hmeth', hr, ret, narrow_b1]
  (try refine ⟨rfl, ?_⟩); (try refine ⟨rfl, ?_⟩)
  first | (intro acts; rw [hret _ acts rfl rfl rfl]) | rw [hret _ _ rfl rfl rfl]
  exact Steps.refl _
/-- what holds at the law's entry: the machine, the code, the tables' words (any of lw_tbl by 'hts w (by decide +kernel)'), the script of L ints xs at the cell b, what the Statement gives of the start (any of its parts by flat_of_before) -/
def lw_At (p : Program) (s : State) (m : MethodId) (meth : Method) (c : Code) (b L : Nat) (xs : Nat → Int32) : Prop :=
  p.tables.exec = Jvm.exec ∧ c.code = code ∧ meth.sig.returnType = ret ∧ c.maxLocals = 4 ∧ s.vm.findClass R_law = some m.cls ∧ (∀ w ∈ lw_tbl, w.before #[Value.ref b] s = true) ∧ va_X b L xs s s.heap ∧ b < s.heap.size ∧ meth.locks = false ∧ (Jvm.Cond.and given_1 narrow_1).before #[Value.ref b] s = true
/-! ===== the law's rows ===== -/
def Scr (X : Cxt) (b L : Nat) (xs : Nat → Int32) : Prop := match X with
  | (_, _, _, _, s, _, _, _, _, _, _, A, _, _) => va_X b L xs s s.heap ∧ b < s.heap.size ∧ ¬ A b
def LwE (X : Cxt) (b : Nat) : Prop := match X with
  | (_, _, _, R, s, _, args, below, meth, _, Q, A, _, _) => R = room_1 ∧ args = #[Value.ref b] ∧ Q = lw_Z below #[Value.ref b] s ∧ A = (fun q : Nat => s.heap.size ≤ q) ∧ meth.sig.returnType = ret ∧ meth.locks = false
theorem i_sld {X : Cxt} {K : KT} {l : Launch} {R : Room} {cc : ByteArray} {own : String} {Ts : List Cond} {nL k n pc q : Nat} {lv : Lv} {st : List Vl} {cs : List Wd} {b L : Nat} {xs : Nat → Int32} {z : Int} (C : Cx X K l R cc own Ts nL) (hX : Scr X b L xs) (hz : 0 ≤ z ∧ z < L ∧ L < 2147483648) (d : decode cc pc = .ok (.iaload, 1)) (hq : pc + 1 = q) (kk : V X k n q lv (vI (xs z.toNat).toInt :: st) cs) : V X k n pc lv (vI z :: vP b :: st) cs := by
  obtain ⟨p, l', e, R', s, m, args, below, meth, c, Q, A, K', nL'⟩ := X
  obtain ⟨rfl, rfl, rfl, rfl, hx, hb, hml, hown, hts, hK, hG, hA⟩ := C
  subst hq
  intro H locs ls hP hD hS hl
  obtain ⟨h1, h2, h3⟩ := hX
  refine va_sld hx hb h1 h2 h3 hS (i := zI z) (zI_in hz.1 hz.2.1 hz.2.2) d ?_
  rw [zI_clamp hz.1 (by omega), ← zI_of (xs z.toNat)]
  exact kk H locs ls hP hD hS hl
theorem i_sln {X : Cxt} {K : KT} {l : Launch} {R : Room} {cc : ByteArray} {own : String} {Ts : List Cond} {nL k n pc q : Nat} {lv : Lv} {st : List Vl} {cs : List Wd} {b L : Nat} {xs : Nat → Int32} (C : Cx X K l R cc own Ts nL) (hX : Scr X b L xs) (d : decode cc pc = .ok (.arraylength, 1)) (hq : pc + 1 = q) (kk : V X k n q lv (vI (L : Int) :: st) cs) : V X k n pc lv (vP b :: st) cs := by
  obtain ⟨p, l', e, R', s, m, args, below, meth, c, Q, A, K', nL'⟩ := X
  obtain ⟨rfl, rfl, rfl, rfl, hx, hb, hml, hown, hts, hK, hG, hA⟩ := C
  subst hq
  intro H locs ls hP hD hS hl
  obtain ⟨h1, h2, h3⟩ := hX
  refine va_slen hx hb h1 h2 h3 hS d ?_
  rw [← Int32.ofInt_eq_ofNat]
  exact kk H locs ls hP hD hS hl
theorem i_same {X : Cxt} {K : KT} {l : Launch} {R : Room} {cc : ByteArray} {own : String} {Ts : List Cond} {nL k n pc : Nat} {lv : Lv} {st : List Vl} {cs : List Wd} {a b off : Int} {tgt : Nat} (C : Cx X K l R cc own Ts nL) (hab : a = b) (d : decode cc pc = .ok (.if_icmp .eq off, 3)) (ht : (pc : Int) + off = (tgt : Int)) (kk : V X k n tgt lv st cs) : V X k n pc lv (vI b :: vI a :: st) cs := by
  obtain ⟨p, l', e, R', s, m, args, below, meth, c, Q, A, K', nL'⟩ := X
  obtain ⟨rfl, rfl, rfl, rfl, hx, hb, hml, hown, hts, hK, hG, hA⟩ := C
  intro H locs ls hP hD hS hl
  subst hab
  exact lv_icmp_eq (x := zI a) (y := zI a) (tgt := tgt) hx hb d ht (fun _ => kk H locs ls hP hD hS hl) (fun h => absurd rfl h)
theorem i_lsame {X : Cxt} {K : KT} {l : Launch} {R : Room} {cc : ByteArray} {own : String} {Ts : List Cond} {nL k n pc q : Nat} {lv : Lv} {st : List Vl} {cs : List Wd} {a b : Int} (C : Cx X K l R cc own Ts nL) (hab : a = b) (d : decode cc pc = .ok (.lcmp, 1)) (hq : pc + 1 = q) (kk : V X k n q lv (vI 0 :: st) cs) : V X k n pc lv (vJ b :: vJ a :: st) cs := by
  obtain ⟨p, l', e, R', s, m, args, below, meth, c, Q, A, K', nL'⟩ := X
  obtain ⟨rfl, rfl, rfl, rfl, hx, hb, hml, hown, hts, hK, hG, hA⟩ := C
  subst hq
  intro H locs ls hP hD hS hl
  subst hab
  refine W.lcmp (x := zL a) (y := zL a) hx hb d ?_
  have e0 : lg_cmp (zL a) (zL a) = zI 0 := by
    simp [lg_cmp]; decide
  rw [e0]
  exact kk H locs ls hP hD hS hl
theorem i_lwend {X : Cxt} {K : KT} {l : Launch} {R : Room} {own : String} {Ts : List Cond} {nL k n pc : Nat} {lv : Lv} {cs : List Wd} {b : Nat} (C : Cx X K l R cL_law own Ts nL) (hE : LwE X b) (hk : k ≤ 600000) (hn : n ≤ 7302249) (d : decode cL_law pc = .ok (.ireturn, 1)) : V X k n pc lv [vI 1] cs := by
  obtain ⟨p, l', e, R', s, m, args, below, meth, c, Q, A, K', nL'⟩ := X
  obtain ⟨rfl, rfl, rfl, rfl, hx, hb, hml, hown, hts, hK, hG, hA⟩ := C
  intro H locs ls hP hD hS hl
  obtain ⟨rfl, rfl, rfl, rfl, hr, hlocks⟩ := hE
  refine va_forget (fun q hq => hS.2.2 q hq) ?_
  refine W.widen (k := 600000) (n := 7302249) hk hn ?_
  show W _ _ _ _ _ _ _ _ _ _ _ _ _ _ _ (F0 _ _ _ [.int (zI 1)])
  rw [zI_1]
  exact lw_ret hx hb hr hlocks d
/-- at the end of a call: what both hold stands for one A -/
def Fin9 (X : Cxt) (ax : Nat → Nat) (ab : Nat → Nat) (ap : Nat → Nat) (al : Nat → Nat) (ao : Nat → Nat) (ak : Int → Nat → Nat) (am : Nat → Nat) (lv : Lv) (N : Int) : Prop := ∀ (nu : Int → Int) (wo : Int → Int) (sc : Int → Int) (me : Int → Int) (us : Int → Int) (la : Int → Int) (ct : Int) (gv : Int) (kd : Int) (sl : Int) (Bs : Int → Bk) (nx : Int) (pc : Int) (td : Int) (ck : Int) (ba : Int) (no : Int) (fu : Int) (by_ : Int → Int) (le : Int) (so : Int → Int) (ra : Int → Int) (lc : Int) (ve : Int → Int) (ow : Int → Int) (fi : Int → Int) (se : Int → Int) (oc : Int) (pl : Int) (fa : Int) (st8 : Int → Int) (bk8 : Int → Int) (un8 : Int) (ck8 : Int) (ty8 : Int → Int) (tm8 : Int) (tx8 : Int → Int) (ln8 : Int) (rf8 : Int → Int) (dg8 : Int) (dn8 : Int → Int) (rk8 : Int → Int) (pl8 : Int) (iw8 : Int) (wd8 : Int → Int) (wm8 : Int) (od8 : Int → Int) (oc8 : Int) (A : AS), okC N nu wo sc me us la ct gv kd sl Bs nx pc td ck ba no fu by_ le A → okM N st8 bk8 un8 ck8 ty8 tm8 tx8 ln8 rf8 → absM st8 bk8 un8 ck8 ty8 tm8 tx8 ln8 rf8 = A → V X 113 40870 860 lv [] [boW ax ab ap al ao (td, ck, ba, no, fu), bkW ab (nu, wo, sc, me, us, la, ct, gv, kd, sl), paW ap ak (nx, pc), kbW ak Bs, liW al (so, ra, lc), odW ao (by_, ve, ow, fi, se, le, oc, pl, fa), mdW am (st8, bk8, un8, ck8, ty8, tm8, tx8, ln8, rf8, dg8, dn8, rk8, pl8, iw8, wd8, wm8, od8, oc8)]
theorem start_C {N : Int} (nu wo sc me us la : Int → Int) (Bs : Int → Bk) (by_ : Int → Int) (hN : 0 ≤ N ∧ N ≤ 512) : okC N nu wo sc me us la 0 0 0 100 Bs 0 0 0 0 0 0 0 by_ 0 sp_start.2 := by
  refine ⟨hN, ?_, ?_, ?_, ⟨rfl, by decide⟩, ⟨by decide, rfl, fun k g0 g1 => by omega⟩, ⟨rfl, by omega⟩, ⟨rfl, by omega⟩, ⟨rfl, by omega⟩⟩
  · refine ⟨⟨by decide, by decide, by decide, by decide, ⟨by omega, by omega⟩, fun x hx => absurd hx (by simp [sp_start]), List.Pairwise.nil, List.Pairwise.nil⟩, rfl, rfl, rfl, rfl, fun j g0 g1 => by omega⟩
  · exact ⟨by decide, by decide, rfl, fun i g0 g1 => by omega⟩
  · exact ⟨fun x hx => absurd hx (by simp [sp_start]), by decide, rfl⟩
theorem start_M {N : Int} {st bk ty tx rf : Int → Int} (hN : 0 ≤ N ∧ N ≤ 512) (h1 : ∀ k, 0 ≤ k → k < 2803 → k ≠ 2802 → st k = 0) (h2 : st 2802 = 100) (h3 : rf 0 = 0 ∧ rf 1 = 0 ∧ rf 2 = 0) : okM N st bk 0 0 ty 0 tx 0 rf ∧ absM st bk 0 0 ty 0 tx 0 rf = sp_start.2 := by
  have e0 := h1 2800 (by omega) (by omega) (by omega)
  have e1 := h1 2801 (by omega) (by omega) (by omega)
  refine ⟨⟨hN, ⟨by omega, by omega, by omega, by omega, fun p g0 g1 => by omega⟩, by decide, fun i g0 g1 => by omega, by decide, by decide, fun k g0 g1 => by omega, by decide, fun k g0 g1 => by omega, by omega, by omega, by omega⟩, ?_⟩
  unfold absM bo
  rw [e0, e1, h2, h3.1, h3.2.1, h3.2.2]
  rfl
