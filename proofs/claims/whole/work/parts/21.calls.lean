/-! ===== worlds by what they hold, not by places ===== -/
theorem D_iff {A : Nat → Prop} {ws : va_W} : va_D A ws ↔ (ws.map Prod.fst).Nodup ∧ ∀ q ∈ ws, A q.1 := by
  constructor
  · intro h
    refine ⟨?_, fun q hq => ?_⟩
    · unfold List.Nodup
      rw [List.pairwise_iff_getElem]
      intro i j hi hj hij e
      simp only [List.length_map] at hi hj
      simp only [List.getElem_map] at e
      have := h.1 i j ws[i] ws[j] (List.getElem?_eq_getElem hi) (List.getElem?_eq_getElem hj) e
      omega
    · obtain ⟨k, hk⟩ := List.getElem?_of_mem hq
      exact h.2 k q hk
  · intro h
    obtain ⟨h1, h2⟩ := h
    unfold List.Nodup at h1
    rw [List.pairwise_iff_getElem] at h1
    refine ⟨fun i j x y hx hy e => ?_, fun k q hk => h2 q (List.mem_of_getElem? hk)⟩
    obtain ⟨hi, rfl⟩ := List.getElem?_eq_some_iff.mp hx
    obtain ⟨hj, rfl⟩ := List.getElem?_eq_some_iff.mp hy
    rcases Nat.lt_trichotomy i j with q | q | q
    · exact absurd (by rw [List.getElem_map, List.getElem_map]; exact e) (h1 i j (by simpa using hi) (by simpa using hj) q)
    · exact q
    · exact absurd (by rw [List.getElem_map, List.getElem_map]; exact e.symm) (h1 j i (by simpa using hj) (by simpa using hi) q)
theorem P_iff {D : va_G} {cl : List vw_C} {ws : va_W} {H : Heap} : va_P D cl ws H ↔ ∀ q ∈ ws, va_at D cl q H := by
  constructor
  · intro h q hq
    obtain ⟨k, hk⟩ := List.getElem?_of_mem hq
    exact h k q hk
  · intro h k q hk
    exact h q (List.mem_of_getElem? hk)
theorem P_perm {D : va_G} {cl : List vw_C} {ws ws' : va_W} {H : Heap} (hp : ws.Perm ws') (h : va_P D cl ws H) : va_P D cl ws' H := P_iff.mpr fun q hq => P_iff.mp h q (hp.mem_iff.mpr hq)
theorem D_perm {A : Nat → Prop} {ws ws' : va_W} (hp : ws.Perm ws') (h : va_D A ws) : va_D A ws' := D_iff.mpr ⟨(hp.map Prod.fst).nodup_iff.mp (D_iff.mp h).1, fun q hq => (D_iff.mp h).2 q (hp.mem_iff.mpr hq)⟩
theorem rw_app (K : KT) (a b : List Wd) : rw_ K (a ++ b).flatten = rw_ K a.flatten ++ rw_ K b.flatten := by simp [rw_]
theorem rw_perm {K : KT} {a b : List Wd} (hp : a.Perm b) : (rw_ K a.flatten).Perm (rw_ K b.flatten) := hp.flatten.map _
theorem V.perm {X : Cxt} {k n pc : Nat} {lv : Lv} {st : List Vl} {cs cs' : List Wd} (hp : cs.Perm cs') (kk : V X k n pc lv st cs') : V X k n pc lv st cs := by
  obtain ⟨p, l', e, R', s, m, args, below, meth, c, Q, A, K', nL'⟩ := X
  intro H locs ls hP hD hS hl
  exact kk H locs ls (P_perm (rw_perm hp) hP) (D_perm (rw_perm hp) hD) hS hl
theorem V.permF {X : Cxt} {k n pc : Nat} {lv : Lv} {st : List Vl} {cs cs' : List Wd} (hp : cs.flatten.Perm cs'.flatten) (kk : V X k n pc lv st cs') : V X k n pc lv st cs := by
  obtain ⟨p, l', e, R', s, m, args, below, meth, c, Q, A, K', nL'⟩ := X
  intro H locs ls hP hD hS hl
  exact kk H locs ls (P_perm (hp.map _) hP) (D_perm (hp.map _) hD) hS hl
theorem permBy {α : Type} {cs cs' : List α} (is : List Nat) (hi : is.Perm (List.range is.length)) (hl : cs.length = is.length) (h : is.filterMap (fun i => cs[i]?) = cs') : cs.Perm cs' := by
  subst h
  rw [← hl] at hi
  have h1 := hi.filterMap (fun i => cs[i]?)
  have e : (List.range cs.length).filterMap (fun i => cs[i]?) = cs := by
    have h2 : (List.range cs.length).map (fun i => cs[i]?) = cs.map some := by
      apply List.ext_getElem?
      intro i
      by_cases hi : i < cs.length
      · simp [List.getElem?_map, List.getElem?_range hi, List.getElem?_eq_getElem hi]
      · simp [List.getElem?_map, List.getElem?_eq_none (Nat.not_lt.mp hi)]
        omega
    have h3 : (List.range cs.length).filterMap (fun i => cs[i]?) = ((List.range cs.length).map (fun i => cs[i]?)).filterMap id := by rw [List.filterMap_map]; rfl
    rw [h3, h2, List.filterMap_map]
    simp
  rw [e] at h1
  exact h1.symm
/-! ===== a contract out of a walk ===== -/
theorem Mt.of {K : KT} {l : Launch} {y : MethodName} {wy ws' : List Cond} {rm : Room} {as : List Vl} {w0 : List Wd} {mc ms : Nat} {post : Option Vl → List Wd → Prop} {cc : ByteArray} {maxL : Nat} {ret : Option FieldType} {own : String} {lv0 : Lv} (hy : plainName y.cls = true) (hw : wy = Cond.code y cc maxL ret :: ws') (ho : y.cls = own) (hlen : (lg_sl (as.map rv)).length ≤ maxL) (hlv : lv_args 0 (as.map rv) = rl lv0)
    (body : ∀ X, Cx X K l rm cc own wy maxL → Rt X ret mc ms post → nmI X y.name → V X 0 0 0 lv0 [] w0) : Mt K l y wy rm as w0 mc ms post := by
  intro sz
  refine Met.ofW (cc := cc) (maxL := maxL) (ret := ret) hy hw ?_
  intro p e s m args below meth c s₁ B hml hv
  obtain ⟨rfl, rfl, hP, hK, hD0, hG⟩ := hv
  have hown : s.vm.findClass y.cls = some m.cls := findClass_of_methodNamed B.named
  have hts := atoms_spec (ws := wy) B.pre
  have hD := hD0.self (sz := s.heap.size)
  have hl := lv_entry (as.map rv) (n := maxL) hlen
  rw [lg_entry_eq]
  rw [hlv] at hl
  exact body (p, l, e, rm, s, m, (as.map rv).toArray, below, meth, c, MQ below (MQc K w0 s.heap.size post) (as.map rv).toArray s mc ms (va_A (rw_ K w0.flatten) s.heap.size), va_A (rw_ K w0.flatten) s.heap.size, K, maxL) ⟨rfl, rfl, rfl, rfl, B.exec, B.bytes, hml, ho ▸ hown, hts, hK, hG, fun q h => Or.inr h⟩ ⟨w0, rfl, rfl, B.returns, B.notSynchronized⟩ (name_of_methodNamed B.named B.method).1 s.heap [] _ hP hD va_S.rf hl
/-! ===== calls ===== -/
theorem MPc_blind {K : KT} {as : List Vl} {w0 : List Wd} {sz : Nat} : FrameBlind (MPc K as w0 sz) := fun a U g mk q => ⟨q.1, q.2.1, q.2.2.1, va_K.moved (u := U) (U := U.calling g mk a) (Vm.Alike.refl U.vm) q.2.2.2.1, q.2.2.2.2.1, show gG K (va_A (rw_ K w0.flatten) sz) (U.calling g mk a) U.heap from gG.same (u := U) rfl q.2.2.2.2.2⟩
theorem cal_perm {K : KT} {cs w0 wr : List Wd} (hp : cs.Perm (w0 ++ wr)) : (rw_ K cs.flatten).Perm (rw_ K w0.flatten ++ rw_ K wr.flatten) := by
  have := rw_perm (K := K) hp
  rw [rw_app] at this
  exact this
theorem cal_free {K : KT} {cs w0 wr : List Wd} {A : Nat → Prop} {s : State} {H : Heap} {locs : List Loc} (hD : va_D A (rw_ K cs.flatten)) (hS : va_S A s.heap H locs) (hA : ∀ q : Nat, s.heap.size ≤ q → A q) (hp : cs.Perm (w0 ++ wr)) : ∀ q : Nat, va_A (rw_ K w0.flatten) H.size q → A q := by
  intro q h
  rcases h with ⟨i, e, h⟩ | h
  · exact (D_iff.mp (D_perm (cal_perm hp) hD)).2 (q, e) (List.mem_append_left _ (List.mem_of_getElem? h))
  · exact hA q (Nat.le_trans hS.1 h)
theorem MPc_pre {K : KT} {as : List Vl} {cs w0 wr : List Wd} {A : Nat → Prop} {s : State} {H : Heap} {locs : List Loc} (hP : va_P (kD K) vwCl (rw_ K cs.flatten) H) (hD : va_D A (rw_ K cs.flatten)) (hS : va_S A s.heap H locs) (hK : va_K (kD K) vwCl (kT K) s) (hG : gG K A s s.heap) (hA : ∀ q : Nat, s.heap.size ≤ q → A q) (hp : cs.Perm (w0 ++ wr)) : ∀ U : State, U.heap = H → s.WarmedH U.vm → MPc K as w0 H.size (as.map rv).toArray U := by
  intro U hU hW
  refine ⟨rfl, by rw [hU], ?_, va_K.moved hW.alike hK, ?_, ?_⟩
  · rw [hU]
    exact P_iff.mpr fun q hq => P_iff.mp (P_perm (cal_perm hp) hP) q (List.mem_append_left _ hq)
  · have h2 := D_iff.mp (D_perm (cal_perm hp) hD)
    rw [List.map_append] at h2
    exact D_iff.mpr ⟨(List.nodup_append.mp h2.1).1, fun _ _ => trivial⟩
  · rw [hU]
    exact ((hG.kept hS.2.1).narrow (cal_free hD hS hA hp)).warm hW
theorem call_fin {p : Program} {l : Launch} {e : Env} {R : Room} {s : State} {m : MethodId} {args : Array Value} {below : List Frame} {meth : Method} {c : Code} {Q : State → Prop} {A : Nat → Prop} {K : KT} {nL k n pc mc ms : Nat} {lv : Lv} {st : List Vl} {cs w0 wr : List Wd} {H : Heap} {locs : List Loc} {ls : Array Slot} {st0 : List Value} {a : Array Value} {post : Option Vl → List Wd → Prop}
    (hP : va_P (kD K) vwCl (rw_ K cs.flatten) H) (hD : va_D A (rw_ K cs.flatten)) (hS : va_S A s.heap H locs) (hl : lv_has ls nL (rl lv)) (hA : ∀ q : Nat, s.heap.size ≤ q → A q) (hp : cs.Perm (w0 ++ wr))
    (hr : va_Run p l e R s m args below meth c H locs k n mc ms (F0 m pc ls st0) (st.map rv) (MQc K w0 H.size post a) (va_A (rw_ K w0.flatten) H.size))
    (kk : ∀ (v : Option Vl) (w1 : List Wd), post v w1 → V (p, l, e, R, s, m, args, below, meth, c, Q, A, K, nL) (k + mc) (n + ms) (pc + 3) lv (v.toList ++ st) (w1 ++ wr)) : W p l e R s m args below meth c H locs k n Q (F0 m pc ls st0) := by
  have hP2 := P_iff.mp (P_perm (cal_perm hp) hP)
  have hD2 := D_iff.mp (D_perm (cal_perm hp) hD)
  have hfree := cal_free hD hS hA hp
  intro T hT X
  obtain ⟨v, st₀, t, T', L, h0, X', hL, e1, e2, ⟨⟨v1, w1, hv, hpost, hP1, hD1⟩, hz, hk⟩, stp⟩ := hr T hT X
  have hv2 : v = v1.map rv := by cases hv; rfl
  subst hv2
  rw [h0] at hz hk
  have apart : ∀ q ∈ rw_ K wr.flatten, q.1 < H.size ∧ ¬ va_A (rw_ K w0.flatten) H.size q.1 := by
    intro q hq
    have hlt := (hP2 q (List.mem_append_right _ hq)).lt
    refine ⟨hlt, fun h => ?_⟩
    rcases h with ⟨i, e, h⟩ | h
    · have h3 := hD2.1
      rw [List.map_append] at h3
      exact (List.nodup_append.mp h3).2.2 q.1 (List.mem_map.mpr ⟨(q.1, e), List.mem_of_getElem? h, rfl⟩) q.1 (List.mem_map.mpr ⟨q, hq, rfl⟩) rfl
    · omega
  have hPn : va_P (kD K) vwCl (rw_ K (w1 ++ wr).flatten) T'.heap := by
    rw [rw_app, e1]
    refine P_iff.mpr fun q hq => ?_
    rcases List.mem_append.mp hq with h | h
    · exact P_iff.mp hP1 q h
    · exact (hP2 q (List.mem_append_right _ h)).kept (hk q.1 (apart q h).1 (apart q h).2)
  have hDn : va_D A (rw_ K (w1 ++ wr).flatten) := by
    rw [rw_app]
    have h1 := D_iff.mp hD1
    have h3 := hD2.1
    rw [List.map_append] at h3
    refine D_iff.mpr ⟨?_, fun q hq => ?_⟩
    · rw [List.map_append]
      refine List.nodup_append.mpr ⟨h1.1, (List.nodup_append.mp h3).2.1, ?_⟩
      intro x hx y hy exy
      obtain ⟨q1, hq1, rfl⟩ := List.mem_map.mp hx
      obtain ⟨q2, hq2, rfl⟩ := List.mem_map.mp hy
      exact (apart q2 hq2).2 (exy ▸ h1.2 q1 hq1)
    · rcases List.mem_append.mp hq with h | h
      · exact hfree _ (h1.2 q h)
      · exact hD2.2 q (List.mem_append_right _ h)
  have hSn : va_S A s.heap T'.heap (locs ++ L) := by
    refine ⟨Nat.le_trans hS.1 (by rw [e1]; exact hz), fun q h1 h2 => ?_, fun q hq => ?_⟩
    · rw [e1, hk q (Nat.lt_of_lt_of_le h1 hS.1) (fun z => h2 (hfree q z))]
      exact hS.2.1 q h1 h2
    · rcases List.mem_append.mp hq with h | h
      · exact hS.2.2 q h
      · exact hfree _ (hL q h)
  obtain ⟨t2, a1, b1⟩ := kk v1 w1 hpost T'.heap (locs ++ L) ls hPn hDn hSn hl T' rfl X'
  refine ⟨t2, stp t2 ?_, b1⟩
  cases v1 <;> exact a1
theorem i_callV {X : Cxt} {K : KT} {l : Launch} {R : Room} {cc : ByteArray} {own : String} {Ts : List Cond} {nL k n pc q : Nat} {lv : Lv} {st st0 : List Vl} {cs : List Wd} {y : MethodName} {wy ws' : List Cond} {rm : Room} {As : List Vl} {w0 wr : List Wd} {mc ms : Nat} {post : Option Vl → List Wd → Prop} {bytes : ByteArray} {maxL idx : Nat} {ret : Option FieldType} {b ci i j N : Nat} {Cn : String} {fs : List Vl} {ch : Wd} {T : u_T} (C : Cx X K l R cc own Ts nL) (M : Mt K l y wy rm (vP b :: As) w0 mc ms post) (hT : GoodIn Ts (wsV own idx Cn y wy)) (hw : wy = Cond.code y bytes maxL ret :: ws') (hd : y.cls = Cn ∧ y.cls ≠ "java/lang/invoke/MethodHandle" ∧ y.cls ≠ "java/lang/invoke/VarHandle" ∧ (parseMethodDescriptor y.desc).map (fun d => d.parameters.length) = some As.length) (hR : rm.frames + 1 ≤ R.frames ∧ 8 + (maxL + 11) + rm.locals ≤ R.locals) (hrm : rm.cells = mc ∧ rm.slots = ms) (hf : k + mc ≤ R.cells ∧ n + ms ≤ R.slots) (hp : cs.Perm (w0 ++ wr)) (hri : w0[i]? = some ch) (hrj : ch[j]? = some (b, cO ci fs)) (hcl : vwCl[ci]? = some (Cn, T, N)) (hst : st0 = As.reverse ++ vP b :: st) (hcat : ((st.map rv).map fun v => v.category).sum ≤ 8) (d : decode cc pc = .ok (.invokevirtual idx, 3)) (hq : pc + 3 = q) (kk : ∀ (v : Option Vl) (w1 : List Wd), post v w1 → V X (k + mc) (n + ms) q lv (v.toList ++ st) (w1 ++ wr)) : V X k n pc lv st0 cs := by
  obtain ⟨p, l', e, R', s, m, args, below, meth, c, Q, A, K', nL'⟩ := X
  obtain ⟨rfl, rfl, rfl, rfl, hx, hb, hml, hown, hts, hK, hG, hA⟩ := C
  subst hq
  subst hst
  intro H locs ls hP hD hS hl
  obtain ⟨q0, h1, -⟩ := rw_at (K := K') hri hrj
  have hPc : va_P (kD K') vwCl (rw_ K' w0.flatten) H := P_iff.mpr fun q hq => P_iff.mp (P_perm (cal_perm hp) hP) q (List.mem_append_left _ hq)
  have hrun := va_runV (l := l') (e := e) (below := below) (meth := meth) (locs := locs) (g := F0 m pc ls ((As.reverse ++ vP b :: st).map rv)) (As := As.map rv) (rest := st.map rv) (b := b) ⟨hx, hb, hml, hown, hts⟩ (M H.size) (cwV As.length hts hT hw hrm.1 hrm.2 hd hR) ⟨MPc_blind, va_recv hK hPc hcl h1, MPc_pre hP hD hS hK hG hA hp⟩ rfl (by simp) hl.1 (by simp [List.map_reverse, rv, va_rf]) (lv_room hcat) d hf
  exact call_fin hP hD hS hl hA hp hrun kk

theorem i_callS {X : Cxt} {K : KT} {l : Launch} {R : Room} {cc : ByteArray} {own : String} {Ts : List Cond} {nL k n pc q : Nat} {lv : Lv} {st st0 : List Vl} {cs : List Wd} {y : MethodName} {wy ws' : List Cond} {rm : Room} {As : List Vl} {w0 wr : List Wd} {mc ms : Nat} {post : Option Vl → List Wd → Prop} {bytes : ByteArray} {maxL idx : Nat} {ret : Option FieldType} (C : Cx X K l R cc own Ts nL) (M : Mt K l y wy rm As w0 mc ms post) (hT : GoodIn Ts (va_wsS own idx y wy)) (hw : wy = Cond.code y bytes maxL ret :: ws') (hd : y.cls ≠ "java/lang/invoke/MethodHandle" ∧ y.cls ≠ "java/lang/invoke/VarHandle" ∧ (parseMethodDescriptor y.desc).map (fun d => d.parameters.length) = some As.length) (hR : rm.frames + 1 ≤ R.frames ∧ 8 + (maxL + 11) + rm.locals ≤ R.locals) (hrm : rm.cells = mc ∧ rm.slots = ms) (hf : k + mc ≤ R.cells ∧ n + ms ≤ R.slots) (hp : cs.Perm (w0 ++ wr)) (hst : st0 = As.reverse ++ st) (hcat : ((st.map rv).map fun v => v.category).sum ≤ 8) (d : decode cc pc = .ok (.invokestatic idx, 3)) (hq : pc + 3 = q) (kk : ∀ (v : Option Vl) (w1 : List Wd), post v w1 → V X (k + mc) (n + ms) q lv (v.toList ++ st) (w1 ++ wr)) : V X k n pc lv st0 cs := by
  obtain ⟨p, l', e, R', s, m, args, below, meth, c, Q, A, K', nL'⟩ := X
  obtain ⟨rfl, rfl, rfl, rfl, hx, hb, hml, hown, hts, hK, hG, hA⟩ := C
  subst hq
  subst hst
  intro H locs ls hP hD hS hl
  have hrun := va_runS (l := l') (e := e) (below := below) (meth := meth) (locs := locs) (g := F0 m pc ls ((As.reverse ++ st).map rv)) (As := As.map rv) (rest := st.map rv) ⟨hx, hb, hml, hown, hts⟩ (M H.size) (va_cwS As.length hts hT hw hrm.1 hrm.2 hd hR) ⟨MPc_blind, MPc_pre hP hD hS hK hG hA hp⟩ rfl (by simp) hl.1 (by simp [List.map_reverse]) (lv_room hcat) d hf
  exact call_fin hP hD hS hl hA hp hrun kk

theorem i_callSN {X : Cxt} {K : KT} {l : Launch} {R : Room} {cc : ByteArray} {own : String} {Ts : List Cond} {nL k n pc q : Nat} {lv : Lv} {st st0 : List Vl} {cs : List Wd} {y : MethodName} {wy ws' : List Cond} {rm : Room} {As : List Vl} {w0 wr : List Wd} {mc ms : Nat} {post : Option Vl → List Wd → Prop} {bytes : ByteArray} {maxL idx : Nat} {ret : Option FieldType} {host : String} (C : Cx X K l R cc own Ts nL) (M : Mt K l y wy rm As w0 mc ms post) (hT : GoodIn Ts wy) (hw : wy = Cond.code y bytes maxL ret :: ws') (hne : Cond.methodLinkNest own idx y host ∈ nestW) (hstt : Cond.static y ∈ Ts) (hini : Cond.initialized y.cls ∈ Ts) (hd : y.cls ≠ "java/lang/invoke/MethodHandle" ∧ y.cls ≠ "java/lang/invoke/VarHandle" ∧ (parseMethodDescriptor y.desc).map (fun d => d.parameters.length) = some As.length) (hR : rm.frames + 1 ≤ R.frames ∧ 8 + (maxL + 11) + rm.locals ≤ R.locals) (hrm : rm.cells = mc ∧ rm.slots = ms) (hf : k + mc ≤ R.cells ∧ n + ms ≤ R.slots) (hp : cs.Perm (w0 ++ wr)) (hst : st0 = As.reverse ++ st) (hcat : ((st.map rv).map fun v => v.category).sum ≤ 8) (d : decode cc pc = .ok (.invokestatic idx, 3)) (hq : pc + 3 = q) (kk : ∀ (v : Option Vl) (w1 : List Wd), post v w1 → V X (k + mc) (n + ms) q lv (v.toList ++ st) (w1 ++ wr)) : V X k n pc lv st0 cs := by
  obtain ⟨p, l', e, R', s, m, args, below, meth, c, Q, A, K', nL'⟩ := X
  obtain ⟨rfl, rfl, rfl, rfl, hx, hb, hml, hown, hts, hK, hG, hA⟩ := C
  subst hq
  subst hst
  intro H locs ls hP hD hS hl
  have hrun := va_runSN (l := l') (e := e) (below := below) (meth := meth) (locs := locs) (g := F0 m pc ls ((As.reverse ++ st).map rv)) (As := As.map rv) (rest := st.map rv) ⟨hx, hb, hml, hown, hts⟩ (M H.size) ⟨va_cnB As.length hts hT hw hrm.1 hrm.2 (hG.1 _ hne) (hts _ hini) hd hR, hts _ hstt, trivial⟩ ⟨MPc_blind, MPc_pre hP hD hS hK hG hA hp⟩ rfl (by simp) hl.1 (by simp [List.map_reverse]) (lv_room hcat) d hf
  exact call_fin hP hD hS hl hA hp hrun kk

theorem i_callI {X : Cxt} {K : KT} {l : Launch} {R : Room} {cc : ByteArray} {own : String} {Ts : List Cond} {nL k n pc q : Nat} {lv : Lv} {st st0 : List Vl} {cs : List Wd} {y : MethodName} {wy ws' : List Cond} {rm : Room} {As : List Vl} {w0 wr : List Wd} {mc ms : Nat} {post : Option Vl → List Wd → Prop} {bytes : ByteArray} {maxL idx : Nat} {b : Nat} (C : Cx X K l R cc own Ts nL) (M : Mt K l y wy rm (vP b :: As) w0 mc ms post) (hT : GoodIn Ts wy) (hw : wy = Cond.code y bytes maxL none :: ws') (hli : Cond.methodLink own idx y ∈ Ts) (hins : Cond.instanceMethod y ∈ Ts) (hini : Cond.initialized y.cls ∈ Ts) (hd : y.name = "<init>" ∧ y.cls ≠ "java/lang/invoke/MethodHandle" ∧ y.cls ≠ "java/lang/invoke/VarHandle" ∧ (parseMethodDescriptor y.desc).map (fun d => d.parameters.length) = some As.length) (hR : rm.frames + 1 ≤ R.frames ∧ 8 + (maxL + 11) + rm.locals ≤ R.locals) (hrm : rm.cells = mc ∧ rm.slots = ms) (hf : k + mc ≤ R.cells ∧ n + ms ≤ R.slots) (hp : cs.Perm (w0 ++ wr)) (hst : st0 = As.reverse ++ vP b :: st) (hcat : ((st.map rv).map fun v => v.category).sum ≤ 8) (d : decode cc pc = .ok (.invokespecial idx, 3)) (hq : pc + 3 = q) (kk : ∀ (v : Option Vl) (w1 : List Wd), post v w1 → V X (k + mc) (n + ms) q lv (v.toList ++ st) (w1 ++ wr)) : V X k n pc lv st0 cs := by
  obtain ⟨p, l', e, R', s, m, args, below, meth, c, Q, A, K', nL'⟩ := X
  obtain ⟨rfl, rfl, rfl, rfl, hx, hb, hml, hown, hts, hK, hG, hA⟩ := C
  subst hq
  subst hst
  intro H locs ls hP hD hS hl
  have hrun := va_runI (l := l') (e := e) (below := below) (meth := meth) (locs := locs) (g := F0 m pc ls ((As.reverse ++ vP b :: st).map rv)) (As := As.map rv) (rest := st.map rv) (b := b) ⟨hx, hb, hml, hown, hts⟩ (M H.size) (cwI As.length hts hT hw hrm.1 hrm.2 (hts _ hini) (hts _ hli) (hts _ hins) hd.1 hd.2 hR) ⟨MPc_blind, MPc_pre hP hD hS hK hG hA hp⟩ rfl (by simp) hl.1 (by simp [List.map_reverse, rv, va_rf]) (lv_room hcat) d hf
  exact call_fin hP hD hS hl hA hp hrun kk

theorem i_callIN {X : Cxt} {K : KT} {l : Launch} {R : Room} {cc : ByteArray} {own : String} {Ts : List Cond} {nL k n pc q : Nat} {lv : Lv} {st st0 : List Vl} {cs : List Wd} {y : MethodName} {wy ws' : List Cond} {rm : Room} {As : List Vl} {w0 wr : List Wd} {mc ms : Nat} {post : Option Vl → List Wd → Prop} {bytes : ByteArray} {maxL idx : Nat} {b : Nat} {host : String} (C : Cx X K l R cc own Ts nL) (M : Mt K l y wy rm (vP b :: As) w0 mc ms post) (hT : GoodIn Ts wy) (hw : wy = Cond.code y bytes maxL none :: ws') (hne : Cond.methodLinkNest own idx y host ∈ nestW) (hins : Cond.instanceMethod y ∈ Ts) (hini : Cond.initialized y.cls ∈ Ts) (hd : y.name = "<init>" ∧ y.cls ≠ "java/lang/invoke/MethodHandle" ∧ y.cls ≠ "java/lang/invoke/VarHandle" ∧ (parseMethodDescriptor y.desc).map (fun d => d.parameters.length) = some As.length) (hR : rm.frames + 1 ≤ R.frames ∧ 8 + (maxL + 11) + rm.locals ≤ R.locals) (hrm : rm.cells = mc ∧ rm.slots = ms) (hf : k + mc ≤ R.cells ∧ n + ms ≤ R.slots) (hp : cs.Perm (w0 ++ wr)) (hst : st0 = As.reverse ++ vP b :: st) (hcat : ((st.map rv).map fun v => v.category).sum ≤ 8) (d : decode cc pc = .ok (.invokespecial idx, 3)) (hq : pc + 3 = q) (kk : ∀ (v : Option Vl) (w1 : List Wd), post v w1 → V X (k + mc) (n + ms) q lv (v.toList ++ st) (w1 ++ wr)) : V X k n pc lv st0 cs := by
  obtain ⟨p, l', e, R', s, m, args, below, meth, c, Q, A, K', nL'⟩ := X
  obtain ⟨rfl, rfl, rfl, rfl, hx, hb, hml, hown, hts, hK, hG, hA⟩ := C
  subst hq
  subst hst
  intro H locs ls hP hD hS hl
  have hrun := va_runIN (l := l') (e := e) (below := below) (meth := meth) (locs := locs) (g := F0 m pc ls ((As.reverse ++ vP b :: st).map rv)) (As := As.map rv) (rest := st.map rv) (b := b) ⟨hx, hb, hml, hown, hts⟩ (M H.size) ⟨va_cnB As.length hts hT hw hrm.1 hrm.2 (hG.1 _ hne) (hts _ hini) hd.2 hR, hd.1, hts _ hins⟩ ⟨MPc_blind, MPc_pre hP hD hS hK hG hA hp⟩ rfl (by simp) hl.1 (by simp [List.map_reverse, rv, va_rf]) (lv_room hcat) d hf
  exact call_fin hP hD hS hl hA hp hrun kk

