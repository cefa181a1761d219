/-! ===== numbers: ints as whole numbers ===== -/
def zI (z : Int) : Int32 := Int32.ofInt z
def zL (z : Int) : Int64 := Int64.ofInt z
abbrev rI (z : Int) : Prop := -2147483648 ≤ z ∧ z < 2147483648
abbrev rL (z : Int) : Prop := -9223372036854775808 ≤ z ∧ z < 9223372036854775808
theorem zI_toInt {z : Int} (h : rI z) : (zI z).toInt = z := Int32.toInt_ofInt_of_le (by have := h.1; omega) (by have := h.2; omega)
theorem zI_of (x : Int32) : zI x.toInt = x := Int32.ofInt_toInt x
theorem zI_rI (x : Int32) : rI x.toInt := ⟨by have := x.le_toInt; omega, by have := x.toInt_lt; omega⟩
theorem zI_eq {a b : Int} (ha : rI a) (hb : rI b) : zI a = zI b ↔ a = b := ⟨fun h => by rw [← zI_toInt ha, ← zI_toInt hb, h], fun h => by rw [h]⟩
theorem zI_lt {a b : Int} (ha : rI a) (hb : rI b) : zI a < zI b ↔ a < b := by rw [Int32.lt_iff_toInt_lt, zI_toInt ha, zI_toInt hb]
theorem zI_le {a b : Int} (ha : rI a) (hb : rI b) : zI a ≤ zI b ↔ a ≤ b := by rw [Int32.le_iff_toInt_le, zI_toInt ha, zI_toInt hb]
theorem zI_add (a b : Int) : zI a + zI b = zI (a + b) := (Int32.ofInt_add a b).symm
theorem zI_sub (a b : Int) : zI a - zI b = zI (a - b) := (Int32.ofInt_sub a b).symm
theorem zI_mul (a b : Int) : zI a * zI b = zI (a * b) := (Int32.ofInt_mul a b).symm
theorem zI_clamp {z : Int} (h0 : 0 ≤ z) (h : z < 2147483648) : (zI z).toNatClampNeg = z.toNat := Int32.toNatClampNeg_ofInt_of_le (by omega) (by omega)
theorem zI_in {z : Int} {n : Nat} (h0 : 0 ≤ z) (h1 : z < n) (hn : n < 2147483648) : vp_in (zI z) n := by
  intro h
  rcases h with h | h
  · have := (zI_lt (a := z) (b := 0) ⟨by omega, by omega⟩ ⟨by omega, by omega⟩).mp h
    omega
  · rw [zI_clamp h0 (by omega)] at h
    omega
theorem zI_div {a b : Int} (h0 : 0 ≤ a) (h1 : a < 2147483648) (h2 : 0 < b) (h3 : b < 2147483648) : zI a / zI b = zI (a / b) := by
  rw [← Int.tdiv_eq_ediv_of_nonneg h0]
  have hne : zI b ≠ -1 := by
    intro h
    have := congrArg Int32.toInt h
    rw [zI_toInt ⟨by omega, by omega⟩] at this
    have e : ((-1 : Int32).toInt) = -1 := by decide
    omega
  have h := Int32.toInt_div_of_ne_right (zI a) (zI b) hne
  rw [zI_toInt ⟨by omega, by omega⟩, zI_toInt ⟨by omega, by omega⟩] at h
  rw [← h, zI_of]
theorem zL_toInt {z : Int} (h : rL z) : (zL z).toInt = z := Int64.toInt_ofInt_of_le (by have := h.1; omega) (by have := h.2; omega)
theorem zL_of (x : Int64) : zL x.toInt = x := Int64.ofInt_toInt x
theorem zL_rL (x : Int64) : rL x.toInt := ⟨by have := x.le_toInt; omega, by have := x.toInt_lt; omega⟩
theorem zL_eq {a b : Int} (ha : rL a) (hb : rL b) : zL a = zL b ↔ a = b := ⟨fun h => by rw [← zL_toInt ha, ← zL_toInt hb, h], fun h => by rw [h]⟩
theorem zL_lt {a b : Int} (ha : rL a) (hb : rL b) : zL a < zL b ↔ a < b := by rw [Int64.lt_iff_toInt_lt, zL_toInt ha, zL_toInt hb]
theorem zL_add (a b : Int) : zL a + zL b = zL (a + b) := (Int64.ofInt_add a b).symm
theorem zL_sub (a b : Int) : zL a - zL b = zL (a - b) := (Int64.ofInt_sub a b).symm
theorem zL_mul (a b : Int) : zL a * zL b = zL (a * b) := (Int64.ofInt_mul a b).symm
theorem zL_i (a : Int) : (zL a).toInt32 = zI a := Int64.toInt32_ofInt
theorem zI_l {a : Int} (h : rI a) : (zI a).toInt64 = zL a := by
  have e : ((zI a).toInt64).toInt = a := by rw [Int32.toInt_toInt64, zI_toInt h]
  rw [← zL_of ((zI a).toInt64), e]
theorem zL_div {a b : Int} (h0 : 0 ≤ a) (h1 : a < 9223372036854775808) (h2 : 0 < b) (h3 : b < 9223372036854775808) : zL a / zL b = zL (a / b) := by
  rw [← Int.tdiv_eq_ediv_of_nonneg h0]
  have hne : zL b ≠ -1 := by
    intro h
    have := congrArg Int64.toInt h
    rw [zL_toInt ⟨by omega, by omega⟩] at this
    have e : ((-1 : Int64).toInt) = -1 := by decide
    omega
  have h := Int64.toInt_div_of_ne_right (zL a) (zL b) hne
  rw [zL_toInt ⟨by omega, by omega⟩, zL_toInt ⟨by omega, by omega⟩] at h
  rw [← h, zL_of]
theorem zL_rem {a b : Int} (h0 : 0 ≤ a) (h1 : a < 9223372036854775808) (h2 : 0 < b) (h3 : b < 9223372036854775808) : zL a - zL a / zL b * zL b = zL (a % b) := by
  rw [zL_div h0 h1 h2 h3, zL_mul, zL_sub]
  congr 1
  have := Int.emod_add_mul_ediv a b
  rw [Int.mul_comm] at this
  omega
/-! ===== values, cells, worlds in whole numbers ===== -/
def up {α : Type} (g : Int → α) (z : Int) (x : α) : Int → α := fun j => if j = z then x else g j
theorem up_s {α : Type} (g : Int → α) (z : Int) (x : α) : up g z x z = x := by simp [up]
theorem up_n {α : Type} (g : Int → α) {z j : Int} (x : α) (h : j ≠ z) : up g z x j = g j := by simp [up, h]
abbrev Vl : Type := Int ⊕ (Int ⊕ Option Nat)
abbrev vI (z : Int) : Vl := .inl z
abbrev vJ (z : Int) : Vl := .inr (.inl z)
abbrev vP (a : Nat) : Vl := .inr (.inr (some a))
abbrev vN : Vl := .inr (.inr none)
def rv (v : Vl) : Value := match v with
  | .inl z => .int (zI z)
  | .inr (.inl z) => .long (zL z)
  | .inr (.inr r) => va_rf r
def isJ (v : Vl) : Bool := match v with
  | .inr (.inl _) => true
  | _ => false
theorem rv_cat (v : Vl) : ((rv v).category == 2) = isJ v := by
  obtain z | z | r := v
  · rfl
  · rfl
  · cases r <;> rfl
abbrev Ce : Type := (Nat × List Vl) ⊕ ((Nat × (Int → Int)) ⊕ ((Nat × (Int → Int)) ⊕ (Nat × (Int → Option Nat))))
abbrev cO (ci : Nat) (fs : List Vl) : Ce := .inl (ci, fs)
abbrev cA (n : Nat) (g : Int → Int) : Ce := .inr (.inl (n, g))
abbrev cL (n : Nat) (g : Int → Int) : Ce := .inr (.inr (.inl (n, g)))
abbrev cR (n : Nat) (g : Int → Option Nat) : Ce := .inr (.inr (.inr (n, g)))
/-- class ids, slots, array classes of int, long, Book; the String constants' cells -/
abbrev KT : Type := (Nat → ClassId) × (Nat → Nat → Nat) × ClassId × ClassId × ClassId × (Nat → Nat) × (Nat → Nat)
def kD (K : KT) : va_G := (K.1, K.2.1)
def kT (K : KT) : List (ClassId × FieldType) := [(K.2.2.1, .int), (K.2.2.2.1, .long), (K.2.2.2.2.1, .object "BestWords$Book")]
def re (K : KT) (c : Ce) : va_E := match c with
  | .inl o => .inr (o.1, o.2.map rv)
  | .inr (.inl a) => .inl (K.2.2.1, a.1, .inl (fun j => zI (a.2 (j : Int))))
  | .inr (.inr (.inl a)) => .inl (K.2.2.2.1, a.1, .inr (.inl (fun j => zL (a.2 (j : Int)))))
  | .inr (.inr (.inr a)) => .inl (K.2.2.2.2.1, a.1, .inr (.inr (.inr (.inr (fun j => a.2 (j : Int))))))
abbrev Wd : Type := List (Nat × Ce)
def rw_ (K : KT) (w : Wd) : va_W := w.map (fun q => (q.1, re K q.2))
abbrev Lv : Type := List (Nat × Vl)
def rl (l : Lv) : List (Nat × Value) := l.map (fun q => (q.1, rv q.2))
theorem rl_at {l : Lv} {i k : Nat} {v : Vl} (h : l[i]? = some (k, v)) : (rl l)[i]? = some (k, rv v) := by
  simp [rl, List.getElem?_map, h]
def lset (l : Lv) (i : Nat) (v : Vl) : Lv := (i, v) :: l.filter (fun q => !(q.1 == i) && !(q.1 + 1 == i && isJ q.2))
def lset2 (l : Lv) (i : Nat) (v : Vl) : Lv := (i, v) :: l.filter (fun q => !(q.1 == i) && (!(q.1 == i + 1) && !(q.1 + 1 == i && isJ q.2)))
theorem rl_set (l : Lv) (i : Nat) (v : Vl) : (i, rv v) :: (rl l).filter (fun q => !(q.1 == i) && !(q.1 + 1 == i && q.2.category == 2)) = rl (lset l i v) := by
  simp only [rl, lset, List.map_cons, List.filter_map]
  congr 2
  apply List.filter_congr
  intro q _
  simp only [Function.comp, rv_cat]
theorem rl_set2 (l : Lv) (i : Nat) (v : Vl) : (i, rv v) :: (rl l).filter (fun q => !(q.1 == i) && (!(q.1 == i + 1) && !(q.1 + 1 == i && q.2.category == 2))) = rl (lset2 l i v) := by
  simp only [rl, lset2, List.map_cons, List.filter_map]
  congr 2
  apply List.filter_congr
  intro q _
  simp only [Function.comp, rv_cat]
theorem fl_at {cs : List Wd} : ∀ {i j : Nat} {ch : Wd} {x : Nat × Ce}, cs[i]? = some ch → ch[j]? = some x → ∃ k : Nat, cs.flatten[k]? = some x ∧ ∀ y, cs.flatten.set k y = (cs.set i (ch.set j y)).flatten := by
  induction cs with
  | nil => intro i j ch x h; simp at h
  | cons c cs ih =>
    intro i j ch x h hj
    cases i with
    | zero =>
      simp only [List.getElem?_cons_zero, Option.some.injEq] at h
      subst h
      have hl : j < c.length := (List.getElem?_eq_some_iff.mp hj).1
      refine ⟨j, ?_, fun y => ?_⟩
      · rw [List.flatten_cons, List.getElem?_append_left hl]; exact hj
      · rw [List.flatten_cons, List.set_append, if_pos hl, List.set_cons_zero, List.flatten_cons]
    | succ i =>
      rw [List.getElem?_cons_succ] at h
      obtain ⟨k, h1, h2⟩ := ih h hj
      refine ⟨c.length + k, ?_, fun y => ?_⟩
      · rw [List.flatten_cons, List.getElem?_append_right (by omega), Nat.add_sub_cancel_left]; exact h1
      · rw [List.flatten_cons, List.set_append, if_neg (by omega), Nat.add_sub_cancel_left, h2, List.set_cons_succ, List.flatten_cons]
theorem rw_at {K : KT} {cs : List Wd} {i j : Nat} {ch : Wd} {a : Nat} {x : Ce} (h : cs[i]? = some ch) (hj : ch[j]? = some (a, x)) : ∃ k : Nat, (rw_ K cs.flatten)[k]? = some (a, re K x) ∧ ∀ y : Ce, (rw_ K cs.flatten).set k (a, re K y) = rw_ K (cs.set i (ch.set j (a, y))).flatten := by
  obtain ⟨k, h1, h2⟩ := fl_at h hj
  refine ⟨k, ?_, fun y => ?_⟩
  · rw [rw_, List.getElem?_map, h1]; rfl
  · rw [← h2 (a, y)]
    simp [rw_, List.map_set]
/-! ===== what is always known of the tables, the String constants ===== -/
def nestW : List Cond := [.methodLinkNest RX7 9 yX0_init RX7, .methodLinkNest RX7 25 yX2_init RX7, .methodLinkNest RX7 32 yX3_init RX7, .methodLinkNest RX3 113 yX7_isWithin RX7, .methodLinkNest RX4 24 yX0_init RX7]
def sT : List String := ["add", "use", "score", "drop", "rank", "slip", "fade"]
def sN : List Nat := [3, 3, 5, 4, 4, 4, 4]
def sB : List (List Int32) := [[97, 100, 100], [117, 115, 101], [115, 99, 111, 114, 101], [100, 114, 111, 112], [114, 97, 110, 107], [115, 108, 105, 112], [102, 97, 100, 101]]
def gG (K : KT) (A : Nat → Prop) (U : State) (H : Heap) : Prop :=
  (∀ w ∈ nestW, va_Nw w U) ∧ (∀ i : Nat, i < 7 → vk_R RX3 (73 + 2 * i) (sT.getD i "") (K.2.2.2.2.2.1 i) U) ∧ vk_S 7 sN sB K.2.2.2.2.2.1 K.2.2.2.2.2.2 A U H ∧ va_Z "java/lang/String" "COMPACT_STRINGS" "Z" (.int 1) A U H ∧ va_Zq "jdk/internal/util/Preconditions" "SIOOBE_FORMATTER" "Ljava/util/function/BiFunction;" A U H ∧ va_AO "BestWords$Book" U
theorem gG.kept {K : KT} {A : Nat → Prop} {U : State} {H H1 : Heap} (h : gG K A U H) (hq : ∀ a : Nat, a < H.size → ¬ A a → H1[a]? = H[a]?) : gG K A U H1 := ⟨h.1, h.2.1, h.2.2.1.kept hq, h.2.2.2.1.kept hq, h.2.2.2.2.1.kept hq, h.2.2.2.2.2⟩
theorem gG.narrow {K : KT} {A B : Nat → Prop} {U : State} {H : Heap} (h : gG K A U H) (hAB : ∀ q, B q → A q) : gG K B U H := ⟨h.1, h.2.1, h.2.2.1.narrow hAB, h.2.2.2.1.narrow hAB, h.2.2.2.2.1.narrow hAB, h.2.2.2.2.2⟩
theorem nestW_warm {w : Cond} (hw : w ∈ nestW) {s U : State} (hW : s.WarmedH U.vm) (h : va_Nw w s) : va_Nw w U := by
  simp only [nestW, List.mem_cons, List.not_mem_nil, or_false] at hw
  rcases hw with rfl | rfl | rfl | rfl | rfl <;> exact va_Nw.warmM hW h
theorem nestW_same {w : Cond} (hw : w ∈ nestW) {u U : State} (hv : u.vm = U.vm) (h : va_Nw w u) : va_Nw w U := by
  simp only [nestW, List.mem_cons, List.not_mem_nil, or_false] at hw
  rcases hw with rfl | rfl | rfl | rfl | rfl <;> exact va_Nw.same rfl hv h
theorem gG.warm {K : KT} {A : Nat → Prop} {s U : State} {H : Heap} (hW : s.WarmedH U.vm) (h : gG K A s H) : gG K A U H := ⟨fun w hw => nestW_warm hw hW (h.1 w hw), fun i hi => (h.2.1 i hi).warm hW, h.2.2.1.moved hW.alike, h.2.2.2.1.moved hW.alike, h.2.2.2.2.1.moved hW.alike, h.2.2.2.2.2.moved hW.alike⟩
theorem gG.same {K : KT} {A : Nat → Prop} {u U : State} {H : Heap} (hv : U.vm = u.vm) (h : gG K A u H) : gG K A U H := ⟨fun w hw => nestW_same hw hv.symm (h.1 w hw), fun i hi => (h.2.1 i hi).same hv, h.2.2.1.moved (by rw [hv]; exact Vm.Alike.refl u.vm), h.2.2.2.1.moved (by rw [hv]; exact Vm.Alike.refl u.vm), h.2.2.2.2.1.moved (by rw [hv]; exact Vm.Alike.refl u.vm), h.2.2.2.2.2.moved (by rw [hv]; exact Vm.Alike.refl u.vm)⟩
/-! ===== the judgement ===== -/
abbrev Cxt := Program × Launch × Env × Room × State × MethodId × Array Value × List Frame × Method × Code × (State → Prop) × (Nat → Prop) × KT × Nat
def V (X : Cxt) (k n pc : Nat) (lv : Lv) (st : List Vl) (cs : List Wd) : Prop := match X with
  | (p, l, e, R, s, m, args, below, meth, c, Q, A, K, nL) => ∀ (H : Heap) (locs : List Loc) (ls : Array Slot), va_P (kD K) vwCl (rw_ K cs.flatten) H → va_D A (rw_ K cs.flatten) → va_S A s.heap H locs → lv_has ls nL (rl lv) → W p l e R s m args below meth c H locs k n Q (F0 m pc ls (st.map rv))
def Cx (X : Cxt) (K : KT) (l : Launch) (R : Room) (cc : ByteArray) (own : String) (Ts : List Cond) (nL : Nat) : Prop := match X with
  | (p, l', e, R', s, m, args, below, meth, c, Q, A, K', nL') => K' = K ∧ l' = l ∧ R' = R ∧ nL' = nL ∧ p.tables.exec = Jvm.exec ∧ c.code = cc ∧ c.maxLocals = nL ∧ s.vm.findClass own = some m.cls ∧ (∀ w ∈ Ts, w.before args s = true) ∧ va_K (kD K) vwCl (kT K) s ∧ gG K A s s.heap ∧ (∀ q : Nat, s.heap.size ≤ q → A q)
/-- a method's end: its world, its answer -/
def MQc (K : KT) (w0 : List Wd) (sz : Nat) (post : Option Vl → List Wd → Prop) : Array Value → State → Outcome → State → Prop := fun _ st oc t =>
  (∃ (v : Option Vl) (w1 : List Wd), oc = .returned (v.map rv) ∧ post v w1 ∧ va_P (kD K) vwCl (rw_ K w1.flatten) t.heap ∧ va_D (va_A (rw_ K w0.flatten) sz) (rw_ K w1.flatten)) ∧ va_F (va_A (rw_ K w0.flatten) sz) st t
def Rt (X : Cxt) (ret : Option FieldType) (mc ms : Nat) (post : Option Vl → List Wd → Prop) : Prop := match X with
  | (_, _, _, _, s, _, args, below, meth, _, Q, A, K, _) => ∃ w0 : List Wd, A = va_A (rw_ K w0.flatten) s.heap.size ∧ Q = MQ below (MQc K w0 s.heap.size post) args s mc ms A ∧ meth.sig.returnType = ret ∧ meth.locks = false
def MPc (K : KT) (as : List Vl) (w0 : List Wd) (sz : Nat) : Array Value → State → Prop := va_Pc (as.map rv) (fun U => U.heap.size = sz ∧ va_P (kD K) vwCl (rw_ K w0.flatten) U.heap ∧ va_K (kD K) vwCl (kT K) U ∧ va_D (fun _ => True) (rw_ K w0.flatten) ∧ gG K (va_A (rw_ K w0.flatten) sz) U U.heap)
/-- a method's contract -/
def Mt (K : KT) (l : Launch) (y : MethodName) (wy : List Cond) (rm : Room) (as : List Vl) (w0 : List Wd) (mc ms : Nat) (post : Option Vl → List Wd → Prop) : Prop :=
  ∀ sz : Nat, Met l y wy rm (MPc K as w0 sz) (MQc K w0 sz post) mc ms (va_A (rw_ K w0.flatten) sz)
theorem V.cs {X : Cxt} {k n pc : Nat} {lv : Lv} {st : List Vl} {cs cs' : List Wd} (h : cs = cs') (kk : V X k n pc lv st cs') : V X k n pc lv st cs := h ▸ kk
theorem V.st {X : Cxt} {k n pc : Nat} {lv : Lv} {st st' : List Vl} {cs : List Wd} (h : st = st') (kk : V X k n pc lv st' cs) : V X k n pc lv st cs := h ▸ kk
theorem V.top {X : Cxt} {k n pc : Nat} {lv : Lv} {st : List Vl} {cs : List Wd} {a b : Int} (h : a = b) (kk : V X k n pc lv (vI b :: st) cs) : V X k n pc lv (vI a :: st) cs := h ▸ kk
theorem V.topJ {X : Cxt} {k n pc : Nat} {lv : Lv} {st : List Vl} {cs : List Wd} {a b : Int} (h : a = b) (kk : V X k n pc lv (vJ b :: st) cs) : V X k n pc lv (vJ a :: st) cs := h ▸ kk
theorem V.lv {X : Cxt} {k n pc : Nat} {lv lv' : Lv} {st : List Vl} {cs : List Wd} (ks : List Nat) (h : ks.filterMap (fun i => lv[i]?) = lv') (kk : V X k n pc lv' st cs) : V X k n pc lv st cs := by
  obtain ⟨p, l', e, R', s, m, args, below, meth, c, Q, A, K', nL'⟩ := X
  intro H locs ls hP hD hS hl
  refine kk H locs ls hP hD hS ⟨hl.1, hl.2.1, fun q hq => ?_⟩
  obtain ⟨z, hz, rfl⟩ := List.mem_map.mp hq
  rw [← h] at hz
  obtain ⟨i, -, hi⟩ := List.mem_filterMap.mp hz
  exact hl.2.2 _ (List.mem_map.mpr ⟨z, List.mem_of_getElem? hi, rfl⟩)

theorem i_iconst {X : Cxt} {K : KT} {l : Launch} {R : Room} {cc : ByteArray} {own : String} {Ts : List Cond} {nL k n pc q : Nat} {lv : Lv} {st : List Vl} {cs : List Wd} {z : Int} (C : Cx X K l R cc own Ts nL)  (d : decode cc pc = .ok (.iconst z, 1)) (hq : pc + 1 = q) (kk : V X k n q lv (vI z :: st) cs) : V X k n pc lv st cs := by
  obtain ⟨p, l', e, R', s, m, args, below, meth, c, Q, A, K', nL'⟩ := X
  obtain ⟨rfl, rfl, rfl, rfl, hx, hb, hml, hown, hts, hK, hG, hA⟩ := C
  subst hq
  intro H locs ls hP hD hS hl
  exact lv_iconst (v := zI z) hx hb d rfl (kk H locs ls hP hD hS hl)

theorem i_bipush {X : Cxt} {K : KT} {l : Launch} {R : Room} {cc : ByteArray} {own : String} {Ts : List Cond} {nL k n pc q : Nat} {lv : Lv} {st : List Vl} {cs : List Wd} {z : Int} (C : Cx X K l R cc own Ts nL) (hz : (Int8.ofInt z).toInt32 = zI z) (d : decode cc pc = .ok (.bipush z, 2)) (hq : pc + 2 = q) (kk : V X k n q lv (vI z :: st) cs) : V X k n pc lv st cs := by
  obtain ⟨p, l', e, R', s, m, args, below, meth, c, Q, A, K', nL'⟩ := X
  obtain ⟨rfl, rfl, rfl, rfl, hx, hb, hml, hown, hts, hK, hG, hA⟩ := C
  subst hq
  intro H locs ls hP hD hS hl
  exact lv_bipush (v := zI z) hx hb d hz (kk H locs ls hP hD hS hl)

theorem i_sipush {X : Cxt} {K : KT} {l : Launch} {R : Room} {cc : ByteArray} {own : String} {Ts : List Cond} {nL k n pc q : Nat} {lv : Lv} {st : List Vl} {cs : List Wd} {z : Int} (C : Cx X K l R cc own Ts nL) (hz : (Int16.ofInt z).toInt32 = zI z) (d : decode cc pc = .ok (.sipush z, 3)) (hq : pc + 3 = q) (kk : V X k n q lv (vI z :: st) cs) : V X k n pc lv st cs := by
  obtain ⟨p, l', e, R', s, m, args, below, meth, c, Q, A, K', nL'⟩ := X
  obtain ⟨rfl, rfl, rfl, rfl, hx, hb, hml, hown, hts, hK, hG, hA⟩ := C
  subst hq
  intro H locs ls hP hD hS hl
  exact lv_sipush (v := zI z) hx hb d hz (kk H locs ls hP hD hS hl)

theorem i_lconst {X : Cxt} {K : KT} {l : Launch} {R : Room} {cc : ByteArray} {own : String} {Ts : List Cond} {nL k n pc q : Nat} {lv : Lv} {st : List Vl} {cs : List Wd} {f : Fin 2} {z : Int} (C : Cx X K l R cc own Ts nL) (hz : Int64.ofNat (f : Nat) = zL z) (d : decode cc pc = .ok (.lconst f, 1)) (hq : pc + 1 = q) (kk : V X k n q lv (vJ z :: st) cs) : V X k n pc lv st cs := by
  obtain ⟨p, l', e, R', s, m, args, below, meth, c, Q, A, K', nL'⟩ := X
  obtain ⟨rfl, rfl, rfl, rfl, hx, hb, hml, hown, hts, hK, hG, hA⟩ := C
  subst hq
  intro H locs ls hP hD hS hl
  exact lv_lconst (v := zL z) hx hb d hz (kk H locs ls hP hD hS hl)

theorem i_ldc {X : Cxt} {K : KT} {l : Launch} {R : Room} {cc : ByteArray} {own : String} {Ts : List Cond} {nL k n pc q : Nat} {lv : Lv} {st : List Vl} {cs : List Wd} {x : Nat} {z : Int} (C : Cx X K l R cc own Ts nL) (hc : Cond.constant own x (zI z) ∈ Ts) (d : decode cc pc = .ok (.ldc x, 2)) (hq : pc + 2 = q) (kk : V X k n q lv (vI z :: st) cs) : V X k n pc lv st cs := by
  obtain ⟨p, l', e, R', s, m, args, below, meth, c, Q, A, K', nL'⟩ := X
  obtain ⟨rfl, rfl, rfl, rfl, hx, hb, hml, hown, hts, hK, hG, hA⟩ := C
  subst hq
  intro H locs ls hP hD hS hl
  exact lv_ldc (v := zI z) hx hb hown (hts _ hc) d (kk H locs ls hP hD hS hl)

theorem i_ldcw {X : Cxt} {K : KT} {l : Launch} {R : Room} {cc : ByteArray} {own : String} {Ts : List Cond} {nL k n pc q : Nat} {lv : Lv} {st : List Vl} {cs : List Wd} {x : Nat} {z : Int} (C : Cx X K l R cc own Ts nL) (hc : Cond.constant own x (zI z) ∈ Ts) (d : decode cc pc = .ok (.ldc_w x, 3)) (hq : pc + 3 = q) (kk : V X k n q lv (vI z :: st) cs) : V X k n pc lv st cs := by
  obtain ⟨p, l', e, R', s, m, args, below, meth, c, Q, A, K', nL'⟩ := X
  obtain ⟨rfl, rfl, rfl, rfl, hx, hb, hml, hown, hts, hK, hG, hA⟩ := C
  subst hq
  intro H locs ls hP hD hS hl
  exact lv_ldcw (v := zI z) hx hb hown (hts _ hc) d (kk H locs ls hP hD hS hl)

theorem i_ldc2 {X : Cxt} {K : KT} {l : Launch} {R : Room} {cc : ByteArray} {own : String} {Ts : List Cond} {nL k n pc q : Nat} {lv : Lv} {st : List Vl} {cs : List Wd} {x : Nat} {z : Int} (C : Cx X K l R cc own Ts nL) (hc : Cond.constantLong own x (zL z) ∈ Ts) (d : decode cc pc = .ok (.ldc2_w x, 3)) (hq : pc + 3 = q) (kk : V X k n q lv (vJ z :: st) cs) : V X k n pc lv st cs := by
  obtain ⟨p, l', e, R', s, m, args, below, meth, c, Q, A, K', nL'⟩ := X
  obtain ⟨rfl, rfl, rfl, rfl, hx, hb, hml, hown, hts, hK, hG, hA⟩ := C
  subst hq
  intro H locs ls hP hD hS hl
  exact lv_ldc2 (v := zL z) hx hb hown (hts _ hc) d (kk H locs ls hP hD hS hl)

theorem i_iload_n {X : Cxt} {K : KT} {l : Launch} {R : Room} {cc : ByteArray} {own : String} {Ts : List Cond} {nL k n pc q : Nat} {lv : Lv} {st : List Vl} {cs : List Wd} {f : Fin 4} {i j : Nat} {z : Int} (C : Cx X K l R cc own Ts nL) (hi : (f : Nat) = i) (h : lv[j]? = some (i, vI z)) (d : decode cc pc = .ok (.iload_n f, 1)) (hq : pc + 1 = q) (kk : V X k n q lv (vI z :: st) cs) : V X k n pc lv st cs := by
  obtain ⟨p, l', e, R', s, m, args, below, meth, c, Q, A, K', nL'⟩ := X
  obtain ⟨rfl, rfl, rfl, rfl, hx, hb, hml, hown, hts, hK, hG, hA⟩ := C
  subst hq
  intro H locs ls hP hD hS hl
  exact lv_iload_n hx hb d hi (lv_at hl j (rl_at h)) (kk H locs ls hP hD hS hl)

theorem i_iload {X : Cxt} {K : KT} {l : Launch} {R : Room} {cc : ByteArray} {own : String} {Ts : List Cond} {nL k n pc q : Nat} {lv : Lv} {st : List Vl} {cs : List Wd} {i j : Nat} {z : Int} (C : Cx X K l R cc own Ts nL) (h : lv[j]? = some (i, vI z)) (d : decode cc pc = .ok (.iload i, 2)) (hq : pc + 2 = q) (kk : V X k n q lv (vI z :: st) cs) : V X k n pc lv st cs := by
  obtain ⟨p, l', e, R', s, m, args, below, meth, c, Q, A, K', nL'⟩ := X
  obtain ⟨rfl, rfl, rfl, rfl, hx, hb, hml, hown, hts, hK, hG, hA⟩ := C
  subst hq
  intro H locs ls hP hD hS hl
  exact lv_iload hx hb d (lv_at hl j (rl_at h)) (kk H locs ls hP hD hS hl)

theorem i_lload_n {X : Cxt} {K : KT} {l : Launch} {R : Room} {cc : ByteArray} {own : String} {Ts : List Cond} {nL k n pc q : Nat} {lv : Lv} {st : List Vl} {cs : List Wd} {f : Fin 4} {i j : Nat} {z : Int} (C : Cx X K l R cc own Ts nL) (hi : (f : Nat) = i) (h : lv[j]? = some (i, vJ z)) (d : decode cc pc = .ok (.lload_n f, 1)) (hq : pc + 1 = q) (kk : V X k n q lv (vJ z :: st) cs) : V X k n pc lv st cs := by
  obtain ⟨p, l', e, R', s, m, args, below, meth, c, Q, A, K', nL'⟩ := X
  obtain ⟨rfl, rfl, rfl, rfl, hx, hb, hml, hown, hts, hK, hG, hA⟩ := C
  subst hq
  intro H locs ls hP hD hS hl
  exact lv_lload_n hx hb d hi (lv_at hl j (rl_at h)) (kk H locs ls hP hD hS hl)

theorem i_lload {X : Cxt} {K : KT} {l : Launch} {R : Room} {cc : ByteArray} {own : String} {Ts : List Cond} {nL k n pc q : Nat} {lv : Lv} {st : List Vl} {cs : List Wd} {i j : Nat} {z : Int} (C : Cx X K l R cc own Ts nL) (h : lv[j]? = some (i, vJ z)) (d : decode cc pc = .ok (.lload i, 2)) (hq : pc + 2 = q) (kk : V X k n q lv (vJ z :: st) cs) : V X k n pc lv st cs := by
  obtain ⟨p, l', e, R', s, m, args, below, meth, c, Q, A, K', nL'⟩ := X
  obtain ⟨rfl, rfl, rfl, rfl, hx, hb, hml, hown, hts, hK, hG, hA⟩ := C
  subst hq
  intro H locs ls hP hD hS hl
  exact lv_lload hx hb d (lv_at hl j (rl_at h)) (kk H locs ls hP hD hS hl)

theorem i_aload_n {X : Cxt} {K : KT} {l : Launch} {R : Room} {cc : ByteArray} {own : String} {Ts : List Cond} {nL k n pc q : Nat} {lv : Lv} {st : List Vl} {cs : List Wd} {f : Fin 4} {i j a : Nat} (C : Cx X K l R cc own Ts nL) (hi : (f : Nat) = i) (h : lv[j]? = some (i, vP a)) (d : decode cc pc = .ok (.aload_n f, 1)) (hq : pc + 1 = q) (kk : V X k n q lv (vP a :: st) cs) : V X k n pc lv st cs := by
  obtain ⟨p, l', e, R', s, m, args, below, meth, c, Q, A, K', nL'⟩ := X
  obtain ⟨rfl, rfl, rfl, rfl, hx, hb, hml, hown, hts, hK, hG, hA⟩ := C
  subst hq
  intro H locs ls hP hD hS hl
  exact lv_aload_n hx hb d hi (lv_at hl j (rl_at h)) (kk H locs ls hP hD hS hl)

theorem i_aload {X : Cxt} {K : KT} {l : Launch} {R : Room} {cc : ByteArray} {own : String} {Ts : List Cond} {nL k n pc q : Nat} {lv : Lv} {st : List Vl} {cs : List Wd} {i j a : Nat} (C : Cx X K l R cc own Ts nL) (h : lv[j]? = some (i, vP a)) (d : decode cc pc = .ok (.aload i, 2)) (hq : pc + 2 = q) (kk : V X k n q lv (vP a :: st) cs) : V X k n pc lv st cs := by
  obtain ⟨p, l', e, R', s, m, args, below, meth, c, Q, A, K', nL'⟩ := X
  obtain ⟨rfl, rfl, rfl, rfl, hx, hb, hml, hown, hts, hK, hG, hA⟩ := C
  subst hq
  intro H locs ls hP hD hS hl
  exact lv_aload hx hb d (lv_at hl j (rl_at h)) (kk H locs ls hP hD hS hl)

theorem i_istore_n {X : Cxt} {K : KT} {l : Launch} {R : Room} {cc : ByteArray} {own : String} {Ts : List Cond} {nL k n pc q : Nat} {lv : Lv} {st : List Vl} {cs : List Wd} {f : Fin 4} {i : Nat} {z : Int} {lv' : Lv} (C : Cx X K l R cc own Ts nL) (hi : (f : Nat) = i) (hn : i < nL) (hl0 : lset lv i (vI z) = lv') (d : decode cc pc = .ok (.istore_n f, 1)) (hq : pc + 1 = q) (kk : V X k n q lv' st cs) : V X k n pc lv (vI z :: st) cs := by
  obtain ⟨p, l', e, R', s, m, args, below, meth, c, Q, A, K', nL'⟩ := X
  obtain ⟨rfl, rfl, rfl, rfl, hx, hb, hml, hown, hts, hK, hG, hA⟩ := C
  subst hq
  intro H locs ls hP hD hS hl
  subst hl0
  exact lv_istore_n hx hb d hi hl hn (rl_set lv i (vI z)) (fun ls2 hl2 => kk H locs ls2 hP hD hS hl2)

theorem i_istore {X : Cxt} {K : KT} {l : Launch} {R : Room} {cc : ByteArray} {own : String} {Ts : List Cond} {nL k n pc q : Nat} {lv : Lv} {st : List Vl} {cs : List Wd} {i : Nat} {z : Int} {lv' : Lv} (C : Cx X K l R cc own Ts nL) (hn : i < nL) (hl0 : lset lv i (vI z) = lv') (d : decode cc pc = .ok (.istore i, 2)) (hq : pc + 2 = q) (kk : V X k n q lv' st cs) : V X k n pc lv (vI z :: st) cs := by
  obtain ⟨p, l', e, R', s, m, args, below, meth, c, Q, A, K', nL'⟩ := X
  obtain ⟨rfl, rfl, rfl, rfl, hx, hb, hml, hown, hts, hK, hG, hA⟩ := C
  subst hq
  intro H locs ls hP hD hS hl
  subst hl0
  exact lv_istore hx hb d hl hn (rl_set lv i (vI z)) (fun ls2 hl2 => kk H locs ls2 hP hD hS hl2)

theorem i_lstore_n {X : Cxt} {K : KT} {l : Launch} {R : Room} {cc : ByteArray} {own : String} {Ts : List Cond} {nL k n pc q : Nat} {lv : Lv} {st : List Vl} {cs : List Wd} {f : Fin 4} {i : Nat} {z : Int} {lv' : Lv} (C : Cx X K l R cc own Ts nL) (hi : (f : Nat) = i) (hn : i + 1 < nL) (hl0 : lset2 lv i (vJ z) = lv') (d : decode cc pc = .ok (.lstore_n f, 1)) (hq : pc + 1 = q) (kk : V X k n q lv' st cs) : V X k n pc lv (vJ z :: st) cs := by
  obtain ⟨p, l', e, R', s, m, args, below, meth, c, Q, A, K', nL'⟩ := X
  obtain ⟨rfl, rfl, rfl, rfl, hx, hb, hml, hown, hts, hK, hG, hA⟩ := C
  subst hq
  intro H locs ls hP hD hS hl
  subst hl0
  exact lv_lstore_n hx hb d hi hl hn (rl_set2 lv i (vJ z)) (fun ls2 hl2 => kk H locs ls2 hP hD hS hl2)

theorem i_lstore {X : Cxt} {K : KT} {l : Launch} {R : Room} {cc : ByteArray} {own : String} {Ts : List Cond} {nL k n pc q : Nat} {lv : Lv} {st : List Vl} {cs : List Wd} {i : Nat} {z : Int} {lv' : Lv} (C : Cx X K l R cc own Ts nL) (hn : i + 1 < nL) (hl0 : lset2 lv i (vJ z) = lv') (d : decode cc pc = .ok (.lstore i, 2)) (hq : pc + 2 = q) (kk : V X k n q lv' st cs) : V X k n pc lv (vJ z :: st) cs := by
  obtain ⟨p, l', e, R', s, m, args, below, meth, c, Q, A, K', nL'⟩ := X
  obtain ⟨rfl, rfl, rfl, rfl, hx, hb, hml, hown, hts, hK, hG, hA⟩ := C
  subst hq
  intro H locs ls hP hD hS hl
  subst hl0
  exact lv_lstore hx hb d hl hn (rl_set2 lv i (vJ z)) (fun ls2 hl2 => kk H locs ls2 hP hD hS hl2)

theorem i_astore_n {X : Cxt} {K : KT} {l : Launch} {R : Room} {cc : ByteArray} {own : String} {Ts : List Cond} {nL k n pc q : Nat} {lv : Lv} {st : List Vl} {cs : List Wd} {f : Fin 4} {i a : Nat} {lv' : Lv} (C : Cx X K l R cc own Ts nL) (hi : (f : Nat) = i) (hn : i < nL) (hl0 : lset lv i (vP a) = lv') (d : decode cc pc = .ok (.astore_n f, 1)) (hq : pc + 1 = q) (kk : V X k n q lv' st cs) : V X k n pc lv (vP a :: st) cs := by
  obtain ⟨p, l', e, R', s, m, args, below, meth, c, Q, A, K', nL'⟩ := X
  obtain ⟨rfl, rfl, rfl, rfl, hx, hb, hml, hown, hts, hK, hG, hA⟩ := C
  subst hq
  intro H locs ls hP hD hS hl
  subst hl0
  exact lv_astore_n hx hb d hi hl hn (rl_set lv i (vP a)) (fun ls2 hl2 => kk H locs ls2 hP hD hS hl2)

theorem i_iinc {X : Cxt} {K : KT} {l : Launch} {R : Room} {cc : ByteArray} {own : String} {Ts : List Cond} {nL k n pc q : Nat} {lv : Lv} {st : List Vl} {cs : List Wd} {i j : Nat} {w z : Int} {lv' : Lv} (C : Cx X K l R cc own Ts nL) (hj : lv[j]? = some (i, vI z)) (hn : i < nL) (hl0 : lset lv i (vI (z + w)) = lv') (d : decode cc pc = .ok (.iinc i w, 3)) (hq : pc + 3 = q) (kk : V X k n q lv' st cs) : V X k n pc lv st cs := by
  obtain ⟨p, l', e, R', s, m, args, below, meth, c, Q, A, K', nL'⟩ := X
  obtain ⟨rfl, rfl, rfl, rfl, hx, hb, hml, hown, hts, hK, hG, hA⟩ := C
  subst hq
  intro H locs ls hP hD hS hl
  subst hl0
  exact lv_iinc (v := zI (z + w)) hx hb d hl (rl_at hj) (zI_add z w) hn (rl_set lv i (vI (z + w))) (fun ls2 hl2 => kk H locs ls2 hP hD hS hl2)

theorem i_iadd {X : Cxt} {K : KT} {l : Launch} {R : Room} {cc : ByteArray} {own : String} {Ts : List Cond} {nL k n pc q : Nat} {lv : Lv} {st : List Vl} {cs : List Wd} {a b : Int} (C : Cx X K l R cc own Ts nL)  (d : decode cc pc = .ok (.iadd, 1)) (hq : pc + 1 = q) (kk : V X k n q lv (vI (a + b) :: st) cs) : V X k n pc lv (vI b :: vI a :: st) cs := by
  obtain ⟨p, l', e, R', s, m, args, below, meth, c, Q, A, K', nL'⟩ := X
  obtain ⟨rfl, rfl, rfl, rfl, hx, hb, hml, hown, hts, hK, hG, hA⟩ := C
  subst hq
  intro H locs ls hP hD hS hl
  refine lv_iadd (x := zI a) (y := zI b) hx hb d ?_
  rw [zI_add]
  exact kk H locs ls hP hD hS hl

theorem i_isub {X : Cxt} {K : KT} {l : Launch} {R : Room} {cc : ByteArray} {own : String} {Ts : List Cond} {nL k n pc q : Nat} {lv : Lv} {st : List Vl} {cs : List Wd} {a b : Int} (C : Cx X K l R cc own Ts nL)  (d : decode cc pc = .ok (.isub, 1)) (hq : pc + 1 = q) (kk : V X k n q lv (vI (a - b) :: st) cs) : V X k n pc lv (vI b :: vI a :: st) cs := by
  obtain ⟨p, l', e, R', s, m, args, below, meth, c, Q, A, K', nL'⟩ := X
  obtain ⟨rfl, rfl, rfl, rfl, hx, hb, hml, hown, hts, hK, hG, hA⟩ := C
  subst hq
  intro H locs ls hP hD hS hl
  refine lv_isub (x := zI a) (y := zI b) hx hb d ?_
  rw [zI_sub]
  exact kk H locs ls hP hD hS hl

theorem i_imul {X : Cxt} {K : KT} {l : Launch} {R : Room} {cc : ByteArray} {own : String} {Ts : List Cond} {nL k n pc q : Nat} {lv : Lv} {st : List Vl} {cs : List Wd} {a b : Int} (C : Cx X K l R cc own Ts nL)  (d : decode cc pc = .ok (.imul, 1)) (hq : pc + 1 = q) (kk : V X k n q lv (vI (a * b) :: st) cs) : V X k n pc lv (vI b :: vI a :: st) cs := by
  obtain ⟨p, l', e, R', s, m, args, below, meth, c, Q, A, K', nL'⟩ := X
  obtain ⟨rfl, rfl, rfl, rfl, hx, hb, hml, hown, hts, hK, hG, hA⟩ := C
  subst hq
  intro H locs ls hP hD hS hl
  refine lv_imul (x := zI a) (y := zI b) hx hb d ?_
  rw [zI_mul]
  exact kk H locs ls hP hD hS hl

theorem i_ladd {X : Cxt} {K : KT} {l : Launch} {R : Room} {cc : ByteArray} {own : String} {Ts : List Cond} {nL k n pc q : Nat} {lv : Lv} {st : List Vl} {cs : List Wd} {a b : Int} (C : Cx X K l R cc own Ts nL)  (d : decode cc pc = .ok (.ladd, 1)) (hq : pc + 1 = q) (kk : V X k n q lv (vJ (a + b) :: st) cs) : V X k n pc lv (vJ b :: vJ a :: st) cs := by
  obtain ⟨p, l', e, R', s, m, args, below, meth, c, Q, A, K', nL'⟩ := X
  obtain ⟨rfl, rfl, rfl, rfl, hx, hb, hml, hown, hts, hK, hG, hA⟩ := C
  subst hq
  intro H locs ls hP hD hS hl
  refine lv_ladd (x := zL a) (y := zL b) hx hb d ?_
  rw [zL_add]
  exact kk H locs ls hP hD hS hl

theorem i_lsub {X : Cxt} {K : KT} {l : Launch} {R : Room} {cc : ByteArray} {own : String} {Ts : List Cond} {nL k n pc q : Nat} {lv : Lv} {st : List Vl} {cs : List Wd} {a b : Int} (C : Cx X K l R cc own Ts nL)  (d : decode cc pc = .ok (.lsub, 1)) (hq : pc + 1 = q) (kk : V X k n q lv (vJ (a - b) :: st) cs) : V X k n pc lv (vJ b :: vJ a :: st) cs := by
  obtain ⟨p, l', e, R', s, m, args, below, meth, c, Q, A, K', nL'⟩ := X
  obtain ⟨rfl, rfl, rfl, rfl, hx, hb, hml, hown, hts, hK, hG, hA⟩ := C
  subst hq
  intro H locs ls hP hD hS hl
  refine lv_lsub (x := zL a) (y := zL b) hx hb d ?_
  rw [zL_sub]
  exact kk H locs ls hP hD hS hl

theorem i_lmul {X : Cxt} {K : KT} {l : Launch} {R : Room} {cc : ByteArray} {own : String} {Ts : List Cond} {nL k n pc q : Nat} {lv : Lv} {st : List Vl} {cs : List Wd} {a b : Int} (C : Cx X K l R cc own Ts nL)  (d : decode cc pc = .ok (.lmul, 1)) (hq : pc + 1 = q) (kk : V X k n q lv (vJ (a * b) :: st) cs) : V X k n pc lv (vJ b :: vJ a :: st) cs := by
  obtain ⟨p, l', e, R', s, m, args, below, meth, c, Q, A, K', nL'⟩ := X
  obtain ⟨rfl, rfl, rfl, rfl, hx, hb, hml, hown, hts, hK, hG, hA⟩ := C
  subst hq
  intro H locs ls hP hD hS hl
  refine lv_lmul (x := zL a) (y := zL b) hx hb d ?_
  rw [zL_mul]
  exact kk H locs ls hP hD hS hl

theorem i_iand {X : Cxt} {K : KT} {l : Launch} {R : Room} {cc : ByteArray} {own : String} {Ts : List Cond} {nL k n pc q : Nat} {lv : Lv} {st : List Vl} {cs : List Wd} {a b z : Int} (C : Cx X K l R cc own Ts nL) (h : zI a &&& zI b = zI z) (d : decode cc pc = .ok (.iand, 1)) (hq : pc + 1 = q) (kk : V X k n q lv (vI z :: st) cs) : V X k n pc lv (vI b :: vI a :: st) cs := by
  obtain ⟨p, l', e, R', s, m, args, below, meth, c, Q, A, K', nL'⟩ := X
  obtain ⟨rfl, rfl, rfl, rfl, hx, hb, hml, hown, hts, hK, hG, hA⟩ := C
  subst hq
  intro H locs ls hP hD hS hl
  refine lv_iand (x := zI a) (y := zI b) hx hb d ?_
  rw [h]
  exact kk H locs ls hP hD hS hl

theorem i_ior {X : Cxt} {K : KT} {l : Launch} {R : Room} {cc : ByteArray} {own : String} {Ts : List Cond} {nL k n pc q : Nat} {lv : Lv} {st : List Vl} {cs : List Wd} {a b z : Int} (C : Cx X K l R cc own Ts nL) (h : zI a ||| zI b = zI z) (d : decode cc pc = .ok (.ior, 1)) (hq : pc + 1 = q) (kk : V X k n q lv (vI z :: st) cs) : V X k n pc lv (vI b :: vI a :: st) cs := by
  obtain ⟨p, l', e, R', s, m, args, below, meth, c, Q, A, K', nL'⟩ := X
  obtain ⟨rfl, rfl, rfl, rfl, hx, hb, hml, hown, hts, hK, hG, hA⟩ := C
  subst hq
  intro H locs ls hP hD hS hl
  refine lv_ior (x := zI a) (y := zI b) hx hb d ?_
  rw [h]
  exact kk H locs ls hP hD hS hl

theorem i_ixor {X : Cxt} {K : KT} {l : Launch} {R : Room} {cc : ByteArray} {own : String} {Ts : List Cond} {nL k n pc q : Nat} {lv : Lv} {st : List Vl} {cs : List Wd} {a b z : Int} (C : Cx X K l R cc own Ts nL) (h : zI a ^^^ zI b = zI z) (d : decode cc pc = .ok (.ixor, 1)) (hq : pc + 1 = q) (kk : V X k n q lv (vI z :: st) cs) : V X k n pc lv (vI b :: vI a :: st) cs := by
  obtain ⟨p, l', e, R', s, m, args, below, meth, c, Q, A, K', nL'⟩ := X
  obtain ⟨rfl, rfl, rfl, rfl, hx, hb, hml, hown, hts, hK, hG, hA⟩ := C
  subst hq
  intro H locs ls hP hD hS hl
  refine lv_ixor (x := zI a) (y := zI b) hx hb d ?_
  rw [h]
  exact kk H locs ls hP hD hS hl

theorem i_ishl {X : Cxt} {K : KT} {l : Launch} {R : Room} {cc : ByteArray} {own : String} {Ts : List Cond} {nL k n pc q : Nat} {lv : Lv} {st : List Vl} {cs : List Wd} {a b z : Int} (C : Cx X K l R cc own Ts nL) (h : zI a <<< (zI b &&& 31) = zI z) (d : decode cc pc = .ok (.ishl, 1)) (hq : pc + 1 = q) (kk : V X k n q lv (vI z :: st) cs) : V X k n pc lv (vI b :: vI a :: st) cs := by
  obtain ⟨p, l', e, R', s, m, args, below, meth, c, Q, A, K', nL'⟩ := X
  obtain ⟨rfl, rfl, rfl, rfl, hx, hb, hml, hown, hts, hK, hG, hA⟩ := C
  subst hq
  intro H locs ls hP hD hS hl
  refine lv_ishl (x := zI a) (y := zI b) hx hb d ?_
  rw [h]
  exact kk H locs ls hP hD hS hl

theorem i_ishr {X : Cxt} {K : KT} {l : Launch} {R : Room} {cc : ByteArray} {own : String} {Ts : List Cond} {nL k n pc q : Nat} {lv : Lv} {st : List Vl} {cs : List Wd} {a b z : Int} (C : Cx X K l R cc own Ts nL) (h : zI a >>> (zI b &&& 31) = zI z) (d : decode cc pc = .ok (.ishr, 1)) (hq : pc + 1 = q) (kk : V X k n q lv (vI z :: st) cs) : V X k n pc lv (vI b :: vI a :: st) cs := by
  obtain ⟨p, l', e, R', s, m, args, below, meth, c, Q, A, K', nL'⟩ := X
  obtain ⟨rfl, rfl, rfl, rfl, hx, hb, hml, hown, hts, hK, hG, hA⟩ := C
  subst hq
  intro H locs ls hP hD hS hl
  refine lv_ishr (x := zI a) (y := zI b) hx hb d ?_
  rw [h]
  exact kk H locs ls hP hD hS hl

theorem i_iushr {X : Cxt} {K : KT} {l : Launch} {R : Room} {cc : ByteArray} {own : String} {Ts : List Cond} {nL k n pc q : Nat} {lv : Lv} {st : List Vl} {cs : List Wd} {a b z : Int} (C : Cx X K l R cc own Ts nL) (h : ((zI a).toUInt32 >>> ((zI b).toUInt32 &&& Int32.toUInt32 31)).toInt32 = zI z) (d : decode cc pc = .ok (.iushr, 1)) (hq : pc + 1 = q) (kk : V X k n q lv (vI z :: st) cs) : V X k n pc lv (vI b :: vI a :: st) cs := by
  obtain ⟨p, l', e, R', s, m, args, below, meth, c, Q, A, K', nL'⟩ := X
  obtain ⟨rfl, rfl, rfl, rfl, hx, hb, hml, hown, hts, hK, hG, hA⟩ := C
  subst hq
  intro H locs ls hP hD hS hl
  exact lv_iushr (x := zI a) (y := zI b) (v := zI z) hx hb d h (kk H locs ls hP hD hS hl)

theorem i_i2c {X : Cxt} {K : KT} {l : Launch} {R : Room} {cc : ByteArray} {own : String} {Ts : List Cond} {nL k n pc q : Nat} {lv : Lv} {st : List Vl} {cs : List Wd} {a z : Int} (C : Cx X K l R cc own Ts nL) (h : ((zI a).toUInt32 % 65536).toInt32 = zI z) (d : decode cc pc = .ok (.i2c, 1)) (hq : pc + 1 = q) (kk : V X k n q lv (vI z :: st) cs) : V X k n pc lv (vI a :: st) cs := by
  obtain ⟨p, l', e, R', s, m, args, below, meth, c, Q, A, K', nL'⟩ := X
  obtain ⟨rfl, rfl, rfl, rfl, hx, hb, hml, hown, hts, hK, hG, hA⟩ := C
  subst hq
  intro H locs ls hP hD hS hl
  exact lv_i2c (x := zI a) (v := zI z) hx hb d h (kk H locs ls hP hD hS hl)

theorem i_idiv {X : Cxt} {K : KT} {l : Launch} {R : Room} {cc : ByteArray} {own : String} {Ts : List Cond} {nL k n pc q : Nat} {lv : Lv} {st : List Vl} {cs : List Wd} {a b : Int} (C : Cx X K l R cc own Ts nL) (h : 0 ≤ a ∧ a < 2147483648 ∧ 0 < b ∧ b < 2147483648) (d : decode cc pc = .ok (.idiv, 1)) (hq : pc + 1 = q) (kk : V X k n q lv (vI (a / b) :: st) cs) : V X k n pc lv (vI b :: vI a :: st) cs := by
  obtain ⟨p, l', e, R', s, m, args, below, meth, c, Q, A, K', nL'⟩ := X
  obtain ⟨rfl, rfl, rfl, rfl, hx, hb, hml, hown, hts, hK, hG, hA⟩ := C
  subst hq
  intro H locs ls hP hD hS hl
  refine lv_idiv (x := zI a) (y := zI b) hx hb d (fun z => by have := (zI_eq (a := b) (b := 0) ⟨by omega, by omega⟩ ⟨by omega, by omega⟩).mp z; omega) ?_
  rw [zI_div h.1 h.2.1 h.2.2.1 h.2.2.2]
  exact kk H locs ls hP hD hS hl

theorem i_land {X : Cxt} {K : KT} {l : Launch} {R : Room} {cc : ByteArray} {own : String} {Ts : List Cond} {nL k n pc q : Nat} {lv : Lv} {st : List Vl} {cs : List Wd} {a b z : Int} (C : Cx X K l R cc own Ts nL) (h : zL a &&& zL b = zL z) (d : decode cc pc = .ok (.land, 1)) (hq : pc + 1 = q) (kk : V X k n q lv (vJ z :: st) cs) : V X k n pc lv (vJ b :: vJ a :: st) cs := by
  obtain ⟨p, l', e, R', s, m, args, below, meth, c, Q, A, K', nL'⟩ := X
  obtain ⟨rfl, rfl, rfl, rfl, hx, hb, hml, hown, hts, hK, hG, hA⟩ := C
  subst hq
  intro H locs ls hP hD hS hl
  refine lv_land (x := zL a) (y := zL b) hx hb d ?_
  rw [h]
  exact kk H locs ls hP hD hS hl

theorem i_lor {X : Cxt} {K : KT} {l : Launch} {R : Room} {cc : ByteArray} {own : String} {Ts : List Cond} {nL k n pc q : Nat} {lv : Lv} {st : List Vl} {cs : List Wd} {a b z : Int} (C : Cx X K l R cc own Ts nL) (h : zL a ||| zL b = zL z) (d : decode cc pc = .ok (.lor, 1)) (hq : pc + 1 = q) (kk : V X k n q lv (vJ z :: st) cs) : V X k n pc lv (vJ b :: vJ a :: st) cs := by
  obtain ⟨p, l', e, R', s, m, args, below, meth, c, Q, A, K', nL'⟩ := X
  obtain ⟨rfl, rfl, rfl, rfl, hx, hb, hml, hown, hts, hK, hG, hA⟩ := C
  subst hq
  intro H locs ls hP hD hS hl
  refine lv_lor (x := zL a) (y := zL b) hx hb d ?_
  rw [h]
  exact kk H locs ls hP hD hS hl

theorem i_lxor {X : Cxt} {K : KT} {l : Launch} {R : Room} {cc : ByteArray} {own : String} {Ts : List Cond} {nL k n pc q : Nat} {lv : Lv} {st : List Vl} {cs : List Wd} {a b z : Int} (C : Cx X K l R cc own Ts nL) (h : zL a ^^^ zL b = zL z) (d : decode cc pc = .ok (.lxor, 1)) (hq : pc + 1 = q) (kk : V X k n q lv (vJ z :: st) cs) : V X k n pc lv (vJ b :: vJ a :: st) cs := by
  obtain ⟨p, l', e, R', s, m, args, below, meth, c, Q, A, K', nL'⟩ := X
  obtain ⟨rfl, rfl, rfl, rfl, hx, hb, hml, hown, hts, hK, hG, hA⟩ := C
  subst hq
  intro H locs ls hP hD hS hl
  refine lv_lxor (x := zL a) (y := zL b) hx hb d ?_
  rw [h]
  exact kk H locs ls hP hD hS hl

theorem i_lushr {X : Cxt} {K : KT} {l : Launch} {R : Room} {cc : ByteArray} {own : String} {Ts : List Cond} {nL k n pc q : Nat} {lv : Lv} {st : List Vl} {cs : List Wd} {a b z : Int} (C : Cx X K l R cc own Ts nL) (h : ((zL a).toUInt64 >>> ((zI b).toInt64.toUInt64 &&& Int64.toUInt64 63)).toInt64 = zL z) (d : decode cc pc = .ok (.lushr, 1)) (hq : pc + 1 = q) (kk : V X k n q lv (vJ z :: st) cs) : V X k n pc lv (vI b :: vJ a :: st) cs := by
  obtain ⟨p, l', e, R', s, m, args, below, meth, c, Q, A, K', nL'⟩ := X
  obtain ⟨rfl, rfl, rfl, rfl, hx, hb, hml, hown, hts, hK, hG, hA⟩ := C
  subst hq
  intro H locs ls hP hD hS hl
  exact lv_lushr (x := zL a) (y := zI b) (v := zL z) hx hb d h (kk H locs ls hP hD hS hl)

theorem i_lshl {X : Cxt} {K : KT} {l : Launch} {R : Room} {cc : ByteArray} {own : String} {Ts : List Cond} {nL k n pc q : Nat} {lv : Lv} {st : List Vl} {cs : List Wd} {a b z : Int} (C : Cx X K l R cc own Ts nL) (h : zL a <<< ((zI b).toInt64 &&& 63) = zL z) (d : decode cc pc = .ok (.lshl, 1)) (hq : pc + 1 = q) (kk : V X k n q lv (vJ z :: st) cs) : V X k n pc lv (vI b :: vJ a :: st) cs := by
  obtain ⟨p, l', e, R', s, m, args, below, meth, c, Q, A, K', nL'⟩ := X
  obtain ⟨rfl, rfl, rfl, rfl, hx, hb, hml, hown, hts, hK, hG, hA⟩ := C
  subst hq
  intro H locs ls hP hD hS hl
  exact lv_lshl (x := zL a) (y := zI b) (v := zL z) hx hb d h (kk H locs ls hP hD hS hl)

theorem i_ldiv {X : Cxt} {K : KT} {l : Launch} {R : Room} {cc : ByteArray} {own : String} {Ts : List Cond} {nL k n pc q : Nat} {lv : Lv} {st : List Vl} {cs : List Wd} {a b : Int} (C : Cx X K l R cc own Ts nL) (h : 0 ≤ a ∧ a < 9223372036854775808 ∧ 0 < b ∧ b < 9223372036854775808) (d : decode cc pc = .ok (.ldiv, 1)) (hq : pc + 1 = q) (kk : V X k n q lv (vJ (a / b) :: st) cs) : V X k n pc lv (vJ b :: vJ a :: st) cs := by
  obtain ⟨p, l', e, R', s, m, args, below, meth, c, Q, A, K', nL'⟩ := X
  obtain ⟨rfl, rfl, rfl, rfl, hx, hb, hml, hown, hts, hK, hG, hA⟩ := C
  subst hq
  intro H locs ls hP hD hS hl
  refine lv_ldiv (x := zL a) (y := zL b) hx hb d (fun z => by have := (zL_eq (a := b) (b := 0) ⟨by omega, by omega⟩ ⟨by omega, by omega⟩).mp z; omega) ?_
  rw [zL_div h.1 h.2.1 h.2.2.1 h.2.2.2]
  exact kk H locs ls hP hD hS hl

theorem i_lrem {X : Cxt} {K : KT} {l : Launch} {R : Room} {cc : ByteArray} {own : String} {Ts : List Cond} {nL k n pc q : Nat} {lv : Lv} {st : List Vl} {cs : List Wd} {a b : Int} (C : Cx X K l R cc own Ts nL) (h : 0 ≤ a ∧ a < 9223372036854775808 ∧ 0 < b ∧ b < 9223372036854775808) (d : decode cc pc = .ok (.lrem, 1)) (hq : pc + 1 = q) (kk : V X k n q lv (vJ (a % b) :: st) cs) : V X k n pc lv (vJ b :: vJ a :: st) cs := by
  obtain ⟨p, l', e, R', s, m, args, below, meth, c, Q, A, K', nL'⟩ := X
  obtain ⟨rfl, rfl, rfl, rfl, hx, hb, hml, hown, hts, hK, hG, hA⟩ := C
  subst hq
  intro H locs ls hP hD hS hl
  refine lv_lrem (x := zL a) (y := zL b) hx hb d (fun z => by have := (zL_eq (a := b) (b := 0) ⟨by omega, by omega⟩ ⟨by omega, by omega⟩).mp z; omega) ?_
  rw [zL_rem h.1 h.2.1 h.2.2.1 h.2.2.2]
  exact kk H locs ls hP hD hS hl

theorem i_i2l {X : Cxt} {K : KT} {l : Launch} {R : Room} {cc : ByteArray} {own : String} {Ts : List Cond} {nL k n pc q : Nat} {lv : Lv} {st : List Vl} {cs : List Wd} {a : Int} (C : Cx X K l R cc own Ts nL) (h : rI a) (d : decode cc pc = .ok (.i2l, 1)) (hq : pc + 1 = q) (kk : V X k n q lv (vJ a :: st) cs) : V X k n pc lv (vI a :: st) cs := by
  obtain ⟨p, l', e, R', s, m, args, below, meth, c, Q, A, K', nL'⟩ := X
  obtain ⟨rfl, rfl, rfl, rfl, hx, hb, hml, hown, hts, hK, hG, hA⟩ := C
  subst hq
  intro H locs ls hP hD hS hl
  exact lv_i2l (x := zI a) (v := zL a) hx hb d (zI_l h) (kk H locs ls hP hD hS hl)

theorem i_l2i {X : Cxt} {K : KT} {l : Launch} {R : Room} {cc : ByteArray} {own : String} {Ts : List Cond} {nL k n pc q : Nat} {lv : Lv} {st : List Vl} {cs : List Wd} {a : Int} (C : Cx X K l R cc own Ts nL)  (d : decode cc pc = .ok (.l2i, 1)) (hq : pc + 1 = q) (kk : V X k n q lv (vI a :: st) cs) : V X k n pc lv (vJ a :: st) cs := by
  obtain ⟨p, l', e, R', s, m, args, below, meth, c, Q, A, K', nL'⟩ := X
  obtain ⟨rfl, rfl, rfl, rfl, hx, hb, hml, hown, hts, hK, hG, hA⟩ := C
  subst hq
  intro H locs ls hP hD hS hl
  exact lv_l2i (x := zL a) (v := zI a) hx hb d (zL_i a) (kk H locs ls hP hD hS hl)

theorem i_lcmp {X : Cxt} {K : KT} {l : Launch} {R : Room} {cc : ByteArray} {own : String} {Ts : List Cond} {nL k n pc q : Nat} {lv : Lv} {st : List Vl} {cs : List Wd} {a b : Int} (C : Cx X K l R cc own Ts nL) (ha : rL a) (hb0 : rL b) (d : decode cc pc = .ok (.lcmp, 1)) (hq : pc + 1 = q) (kk : V X k n q lv (vI (if b < a then 1 else if a = b then 0 else -1) :: st) cs) : V X k n pc lv (vJ b :: vJ a :: st) cs := by
  obtain ⟨p, l', e, R', s, m, args, below, meth, c, Q, A, K', nL'⟩ := X
  obtain ⟨rfl, rfl, rfl, rfl, hx, hb, hml, hown, hts, hK, hG, hA⟩ := C
  subst hq
  intro H locs ls hP hD hS hl
  refine W.lcmp (x := zL a) (y := zL b) hx hb d ?_
  have e0 : lg_cmp (zL a) (zL b) = zI (if b < a then 1 else if a = b then 0 else -1) := by
    simp only [lg_cmp, zL_lt hb0 ha, zL_eq ha hb0]
    by_cases h1 : b < a
    · simp [h1]; decide
    · by_cases h2 : a = b
      · simp [h2]; decide
      · simp [h1, h2]; decide
  rw [e0]
  exact kk H locs ls hP hD hS hl

theorem i_dup {X : Cxt} {K : KT} {l : Launch} {R : Room} {cc : ByteArray} {own : String} {Ts : List Cond} {nL k n pc q : Nat} {lv : Lv} {st : List Vl} {cs : List Wd} {v : Vl} (C : Cx X K l R cc own Ts nL) (hv : isJ v = false) (d : decode cc pc = .ok (.dup, 1)) (hq : pc + 1 = q) (kk : V X k n q lv (v :: v :: st) cs) : V X k n pc lv (v :: st) cs := by
  obtain ⟨p, l', e, R', s, m, args, below, meth, c, Q, A, K', nL'⟩ := X
  obtain ⟨rfl, rfl, rfl, rfl, hx, hb, hml, hown, hts, hK, hG, hA⟩ := C
  subst hq
  intro H locs ls hP hD hS hl
  exact lv_dup hx hb d (by have h1 := rv_cat v; rw [hv] at h1; have h2 := lv_cat (rv v); simp at h1; omega) (kk H locs ls hP hD hS hl)

theorem i_pop {X : Cxt} {K : KT} {l : Launch} {R : Room} {cc : ByteArray} {own : String} {Ts : List Cond} {nL k n pc q : Nat} {lv : Lv} {st : List Vl} {cs : List Wd} {v : Vl} (C : Cx X K l R cc own Ts nL) (hv : isJ v = false) (d : decode cc pc = .ok (.pop, 1)) (hq : pc + 1 = q) (kk : V X k n q lv st cs) : V X k n pc lv (v :: st) cs := by
  obtain ⟨p, l', e, R', s, m, args, below, meth, c, Q, A, K', nL'⟩ := X
  obtain ⟨rfl, rfl, rfl, rfl, hx, hb, hml, hown, hts, hK, hG, hA⟩ := C
  subst hq
  intro H locs ls hP hD hS hl
  exact lv_pop hx hb d (by have h1 := rv_cat v; rw [hv] at h1; have h2 := lv_cat (rv v); simp at h1; omega) (kk H locs ls hP hD hS hl)

theorem i_dup2 {X : Cxt} {K : KT} {l : Launch} {R : Room} {cc : ByteArray} {own : String} {Ts : List Cond} {nL k n pc q : Nat} {lv : Lv} {st : List Vl} {cs : List Wd} {v w : Vl} (C : Cx X K l R cc own Ts nL) (hv : isJ v = false) (hw : isJ w = false) (d : decode cc pc = .ok (.dup2, 1)) (hq : pc + 1 = q) (kk : V X k n q lv (v :: w :: v :: w :: st) cs) : V X k n pc lv (v :: w :: st) cs := by
  obtain ⟨p, l', e, R', s, m, args, below, meth, c, Q, A, K', nL'⟩ := X
  obtain ⟨rfl, rfl, rfl, rfl, hx, hb, hml, hown, hts, hK, hG, hA⟩ := C
  subst hq
  intro H locs ls hP hD hS hl
  exact lv_dup2_11 hx hb d (by have h1 := rv_cat v; rw [hv] at h1; have h2 := lv_cat (rv v); simp at h1; omega) (by have h1 := rv_cat w; rw [hw] at h1; have h2 := lv_cat (rv w); simp at h1; omega) (kk H locs ls hP hD hS hl)

theorem i_icmp_lt {X : Cxt} {K : KT} {l : Launch} {R : Room} {cc : ByteArray} {own : String} {Ts : List Cond} {nL k n pc q : Nat} {lv : Lv} {st : List Vl} {cs : List Wd} {a b : Int} {off : Int} {tgt : Nat} (C : Cx X K l R cc own Ts nL) (ra : rI a) (rb : rI b) (d : decode cc pc = .ok (.if_icmp .lt off, 3)) (ht : (pc : Int) + off = (tgt : Int)) (hq : pc + 3 = q) (kt : a < b → V X k n tgt lv st cs) (kf : b ≤ a → V X k n q lv st cs) : V X k n pc lv (vI b :: vI a :: st) cs := by
  obtain ⟨p, l', e, R', s, m, args, below, meth, c, Q, A, K', nL'⟩ := X
  obtain ⟨rfl, rfl, rfl, rfl, hx, hb, hml, hown, hts, hK, hG, hA⟩ := C
  subst hq
  intro H locs ls hP hD hS hl
  refine lv_icmp_lt (x := zI a) (y := zI b) (tgt := tgt) hx hb d ht (fun h => ?_) (fun h => ?_)
  · exact kt ((zI_lt ra rb).mp h) H locs ls hP hD hS hl
  · exact kf (Int.not_lt.mp (fun z => h ((zI_lt ra rb).mpr z))) H locs ls hP hD hS hl

theorem i_icmp_ge {X : Cxt} {K : KT} {l : Launch} {R : Room} {cc : ByteArray} {own : String} {Ts : List Cond} {nL k n pc q : Nat} {lv : Lv} {st : List Vl} {cs : List Wd} {a b : Int} {off : Int} {tgt : Nat} (C : Cx X K l R cc own Ts nL) (ra : rI a) (rb : rI b) (d : decode cc pc = .ok (.if_icmp .ge off, 3)) (ht : (pc : Int) + off = (tgt : Int)) (hq : pc + 3 = q) (kt : b ≤ a → V X k n tgt lv st cs) (kf : a < b → V X k n q lv st cs) : V X k n pc lv (vI b :: vI a :: st) cs := by
  obtain ⟨p, l', e, R', s, m, args, below, meth, c, Q, A, K', nL'⟩ := X
  obtain ⟨rfl, rfl, rfl, rfl, hx, hb, hml, hown, hts, hK, hG, hA⟩ := C
  subst hq
  intro H locs ls hP hD hS hl
  refine lv_icmp_ge (x := zI a) (y := zI b) (tgt := tgt) hx hb d ht (fun h => ?_) (fun h => ?_)
  · exact kt ((zI_le rb ra).mp h) H locs ls hP hD hS hl
  · exact kf (Int.not_le.mp (fun z => h ((zI_le rb ra).mpr z))) H locs ls hP hD hS hl

theorem i_icmp_gt {X : Cxt} {K : KT} {l : Launch} {R : Room} {cc : ByteArray} {own : String} {Ts : List Cond} {nL k n pc q : Nat} {lv : Lv} {st : List Vl} {cs : List Wd} {a b : Int} {off : Int} {tgt : Nat} (C : Cx X K l R cc own Ts nL) (ra : rI a) (rb : rI b) (d : decode cc pc = .ok (.if_icmp .gt off, 3)) (ht : (pc : Int) + off = (tgt : Int)) (hq : pc + 3 = q) (kt : b < a → V X k n tgt lv st cs) (kf : a ≤ b → V X k n q lv st cs) : V X k n pc lv (vI b :: vI a :: st) cs := by
  obtain ⟨p, l', e, R', s, m, args, below, meth, c, Q, A, K', nL'⟩ := X
  obtain ⟨rfl, rfl, rfl, rfl, hx, hb, hml, hown, hts, hK, hG, hA⟩ := C
  subst hq
  intro H locs ls hP hD hS hl
  refine lv_icmp_gt (x := zI a) (y := zI b) (tgt := tgt) hx hb d ht (fun h => ?_) (fun h => ?_)
  · exact kt ((zI_lt rb ra).mp h) H locs ls hP hD hS hl
  · exact kf (Int.not_lt.mp (fun z => h ((zI_lt rb ra).mpr z))) H locs ls hP hD hS hl

theorem i_icmp_le {X : Cxt} {K : KT} {l : Launch} {R : Room} {cc : ByteArray} {own : String} {Ts : List Cond} {nL k n pc q : Nat} {lv : Lv} {st : List Vl} {cs : List Wd} {a b : Int} {off : Int} {tgt : Nat} (C : Cx X K l R cc own Ts nL) (ra : rI a) (rb : rI b) (d : decode cc pc = .ok (.if_icmp .le off, 3)) (ht : (pc : Int) + off = (tgt : Int)) (hq : pc + 3 = q) (kt : a ≤ b → V X k n tgt lv st cs) (kf : b < a → V X k n q lv st cs) : V X k n pc lv (vI b :: vI a :: st) cs := by
  obtain ⟨p, l', e, R', s, m, args, below, meth, c, Q, A, K', nL'⟩ := X
  obtain ⟨rfl, rfl, rfl, rfl, hx, hb, hml, hown, hts, hK, hG, hA⟩ := C
  subst hq
  intro H locs ls hP hD hS hl
  refine lv_icmp_le (x := zI a) (y := zI b) (tgt := tgt) hx hb d ht (fun h => ?_) (fun h => ?_)
  · exact kt ((zI_le ra rb).mp h) H locs ls hP hD hS hl
  · exact kf (Int.not_le.mp (fun z => h ((zI_le ra rb).mpr z))) H locs ls hP hD hS hl

theorem i_icmp_eq {X : Cxt} {K : KT} {l : Launch} {R : Room} {cc : ByteArray} {own : String} {Ts : List Cond} {nL k n pc q : Nat} {lv : Lv} {st : List Vl} {cs : List Wd} {a b : Int} {off : Int} {tgt : Nat} (C : Cx X K l R cc own Ts nL) (ra : rI a) (rb : rI b) (d : decode cc pc = .ok (.if_icmp .eq off, 3)) (ht : (pc : Int) + off = (tgt : Int)) (hq : pc + 3 = q) (kt : a = b → V X k n tgt lv st cs) (kf : ¬ a = b → V X k n q lv st cs) : V X k n pc lv (vI b :: vI a :: st) cs := by
  obtain ⟨p, l', e, R', s, m, args, below, meth, c, Q, A, K', nL'⟩ := X
  obtain ⟨rfl, rfl, rfl, rfl, hx, hb, hml, hown, hts, hK, hG, hA⟩ := C
  subst hq
  intro H locs ls hP hD hS hl
  refine lv_icmp_eq (x := zI a) (y := zI b) (tgt := tgt) hx hb d ht (fun h => ?_) (fun h => ?_)
  · exact kt ((zI_eq ra rb).mp h) H locs ls hP hD hS hl
  · exact kf (fun z => h ((zI_eq ra rb).mpr z)) H locs ls hP hD hS hl

theorem i_icmp_ne {X : Cxt} {K : KT} {l : Launch} {R : Room} {cc : ByteArray} {own : String} {Ts : List Cond} {nL k n pc q : Nat} {lv : Lv} {st : List Vl} {cs : List Wd} {a b : Int} {off : Int} {tgt : Nat} (C : Cx X K l R cc own Ts nL) (ra : rI a) (rb : rI b) (d : decode cc pc = .ok (.if_icmp .ne off, 3)) (ht : (pc : Int) + off = (tgt : Int)) (hq : pc + 3 = q) (kt : ¬ a = b → V X k n tgt lv st cs) (kf : a = b → V X k n q lv st cs) : V X k n pc lv (vI b :: vI a :: st) cs := by
  obtain ⟨p, l', e, R', s, m, args, below, meth, c, Q, A, K', nL'⟩ := X
  obtain ⟨rfl, rfl, rfl, rfl, hx, hb, hml, hown, hts, hK, hG, hA⟩ := C
  subst hq
  intro H locs ls hP hD hS hl
  refine lv_icmp_ne (x := zI a) (y := zI b) (tgt := tgt) hx hb d ht (fun h => ?_) (fun h => ?_)
  · exact kt (fun z => h ((zI_eq ra rb).mpr z)) H locs ls hP hD hS hl
  · exact kf ((zI_eq ra rb).mp h) H locs ls hP hD hS hl

theorem i_if_eq {X : Cxt} {K : KT} {l : Launch} {R : Room} {cc : ByteArray} {own : String} {Ts : List Cond} {nL k n pc q : Nat} {lv : Lv} {st : List Vl} {cs : List Wd} {a : Int} {off : Int} {tgt : Nat} (C : Cx X K l R cc own Ts nL) (ra : rI a) (d : decode cc pc = .ok (.ifCond .eq off, 3)) (ht : (pc : Int) + off = (tgt : Int)) (hq : pc + 3 = q) (kt : a = 0 → V X k n tgt lv st cs) (kf : ¬ a = 0 → V X k n q lv st cs) : V X k n pc lv (vI a :: st) cs := by
  obtain ⟨p, l', e, R', s, m, args, below, meth, c, Q, A, K', nL'⟩ := X
  obtain ⟨rfl, rfl, rfl, rfl, hx, hb, hml, hown, hts, hK, hG, hA⟩ := C
  subst hq
  intro H locs ls hP hD hS hl
  refine lv_if_eq (x := zI a) (tgt := tgt) hx hb d ht (fun h => ?_) (fun h => ?_)
  · exact kt ((zI_eq (b := 0) ra ⟨by decide, by decide⟩).mp h) H locs ls hP hD hS hl
  · exact kf (fun z => h ((zI_eq (b := 0) ra ⟨by decide, by decide⟩).mpr z)) H locs ls hP hD hS hl

theorem i_if_ne {X : Cxt} {K : KT} {l : Launch} {R : Room} {cc : ByteArray} {own : String} {Ts : List Cond} {nL k n pc q : Nat} {lv : Lv} {st : List Vl} {cs : List Wd} {a : Int} {off : Int} {tgt : Nat} (C : Cx X K l R cc own Ts nL) (ra : rI a) (d : decode cc pc = .ok (.ifCond .ne off, 3)) (ht : (pc : Int) + off = (tgt : Int)) (hq : pc + 3 = q) (kt : ¬ a = 0 → V X k n tgt lv st cs) (kf : a = 0 → V X k n q lv st cs) : V X k n pc lv (vI a :: st) cs := by
  obtain ⟨p, l', e, R', s, m, args, below, meth, c, Q, A, K', nL'⟩ := X
  obtain ⟨rfl, rfl, rfl, rfl, hx, hb, hml, hown, hts, hK, hG, hA⟩ := C
  subst hq
  intro H locs ls hP hD hS hl
  refine lv_if_ne (x := zI a) (tgt := tgt) hx hb d ht (fun h => ?_) (fun h => ?_)
  · exact kt (fun z => h ((zI_eq (b := 0) ra ⟨by decide, by decide⟩).mpr z)) H locs ls hP hD hS hl
  · exact kf ((zI_eq (b := 0) ra ⟨by decide, by decide⟩).mp h) H locs ls hP hD hS hl

theorem i_if_lt {X : Cxt} {K : KT} {l : Launch} {R : Room} {cc : ByteArray} {own : String} {Ts : List Cond} {nL k n pc q : Nat} {lv : Lv} {st : List Vl} {cs : List Wd} {a : Int} {off : Int} {tgt : Nat} (C : Cx X K l R cc own Ts nL) (ra : rI a) (d : decode cc pc = .ok (.ifCond .lt off, 3)) (ht : (pc : Int) + off = (tgt : Int)) (hq : pc + 3 = q) (kt : a < 0 → V X k n tgt lv st cs) (kf : 0 ≤ a → V X k n q lv st cs) : V X k n pc lv (vI a :: st) cs := by
  obtain ⟨p, l', e, R', s, m, args, below, meth, c, Q, A, K', nL'⟩ := X
  obtain ⟨rfl, rfl, rfl, rfl, hx, hb, hml, hown, hts, hK, hG, hA⟩ := C
  subst hq
  intro H locs ls hP hD hS hl
  refine lv_if_lt (x := zI a) (tgt := tgt) hx hb d ht (fun h => ?_) (fun h => ?_)
  · exact kt ((zI_lt (b := 0) ra ⟨by decide, by decide⟩).mp h) H locs ls hP hD hS hl
  · exact kf (Int.not_lt.mp (fun z => h ((zI_lt (b := 0) ra ⟨by decide, by decide⟩).mpr z))) H locs ls hP hD hS hl

theorem i_if_ge {X : Cxt} {K : KT} {l : Launch} {R : Room} {cc : ByteArray} {own : String} {Ts : List Cond} {nL k n pc q : Nat} {lv : Lv} {st : List Vl} {cs : List Wd} {a : Int} {off : Int} {tgt : Nat} (C : Cx X K l R cc own Ts nL) (ra : rI a) (d : decode cc pc = .ok (.ifCond .ge off, 3)) (ht : (pc : Int) + off = (tgt : Int)) (hq : pc + 3 = q) (kt : 0 ≤ a → V X k n tgt lv st cs) (kf : a < 0 → V X k n q lv st cs) : V X k n pc lv (vI a :: st) cs := by
  obtain ⟨p, l', e, R', s, m, args, below, meth, c, Q, A, K', nL'⟩ := X
  obtain ⟨rfl, rfl, rfl, rfl, hx, hb, hml, hown, hts, hK, hG, hA⟩ := C
  subst hq
  intro H locs ls hP hD hS hl
  refine lv_if_ge (x := zI a) (tgt := tgt) hx hb d ht (fun h => ?_) (fun h => ?_)
  · exact kt ((zI_le (a := 0) ⟨by decide, by decide⟩ ra).mp h) H locs ls hP hD hS hl
  · exact kf (Int.not_le.mp (fun z => h ((zI_le (a := 0) ⟨by decide, by decide⟩ ra).mpr z))) H locs ls hP hD hS hl

theorem i_if_gt {X : Cxt} {K : KT} {l : Launch} {R : Room} {cc : ByteArray} {own : String} {Ts : List Cond} {nL k n pc q : Nat} {lv : Lv} {st : List Vl} {cs : List Wd} {a : Int} {off : Int} {tgt : Nat} (C : Cx X K l R cc own Ts nL) (ra : rI a) (d : decode cc pc = .ok (.ifCond .gt off, 3)) (ht : (pc : Int) + off = (tgt : Int)) (hq : pc + 3 = q) (kt : 0 < a → V X k n tgt lv st cs) (kf : a ≤ 0 → V X k n q lv st cs) : V X k n pc lv (vI a :: st) cs := by
  obtain ⟨p, l', e, R', s, m, args, below, meth, c, Q, A, K', nL'⟩ := X
  obtain ⟨rfl, rfl, rfl, rfl, hx, hb, hml, hown, hts, hK, hG, hA⟩ := C
  subst hq
  intro H locs ls hP hD hS hl
  refine lv_if_gt (x := zI a) (tgt := tgt) hx hb d ht (fun h => ?_) (fun h => ?_)
  · exact kt ((zI_lt (a := 0) ⟨by decide, by decide⟩ ra).mp h) H locs ls hP hD hS hl
  · exact kf (Int.not_lt.mp (fun z => h ((zI_lt (a := 0) ⟨by decide, by decide⟩ ra).mpr z))) H locs ls hP hD hS hl

theorem i_if_le {X : Cxt} {K : KT} {l : Launch} {R : Room} {cc : ByteArray} {own : String} {Ts : List Cond} {nL k n pc q : Nat} {lv : Lv} {st : List Vl} {cs : List Wd} {a : Int} {off : Int} {tgt : Nat} (C : Cx X K l R cc own Ts nL) (ra : rI a) (d : decode cc pc = .ok (.ifCond .le off, 3)) (ht : (pc : Int) + off = (tgt : Int)) (hq : pc + 3 = q) (kt : a ≤ 0 → V X k n tgt lv st cs) (kf : 0 < a → V X k n q lv st cs) : V X k n pc lv (vI a :: st) cs := by
  obtain ⟨p, l', e, R', s, m, args, below, meth, c, Q, A, K', nL'⟩ := X
  obtain ⟨rfl, rfl, rfl, rfl, hx, hb, hml, hown, hts, hK, hG, hA⟩ := C
  subst hq
  intro H locs ls hP hD hS hl
  refine lv_if_le (x := zI a) (tgt := tgt) hx hb d ht (fun h => ?_) (fun h => ?_)
  · exact kt ((zI_le (b := 0) ra ⟨by decide, by decide⟩).mp h) H locs ls hP hD hS hl
  · exact kf (Int.not_le.mp (fun z => h ((zI_le (b := 0) ra ⟨by decide, by decide⟩).mpr z))) H locs ls hP hD hS hl

theorem i_goto {X : Cxt} {K : KT} {l : Launch} {R : Room} {cc : ByteArray} {own : String} {Ts : List Cond} {nL k n pc q : Nat} {lv : Lv} {st : List Vl} {cs : List Wd} {off : Int} (C : Cx X K l R cc own Ts nL) (d : decode cc pc = .ok (.goto off, 3)) (hq : (pc : Int) + off = (q : Int)) (kk : V X k n q lv st cs) : V X k n pc lv st cs := by
  obtain ⟨p, l', e, R', s, m, args, below, meth, c, Q, A, K', nL'⟩ := X
  obtain ⟨rfl, rfl, rfl, rfl, hx, hb, hml, hown, hts, hK, hG, hA⟩ := C
  intro H locs ls hP hD hS hl
  exact lv_goto (tgt := q) hx hb d hq (kk H locs ls hP hD hS hl)

theorem i_ifnull {X : Cxt} {K : KT} {l : Launch} {R : Room} {cc : ByteArray} {own : String} {Ts : List Cond} {nL k n pc q : Nat} {lv : Lv} {st : List Vl} {cs : List Wd} {off : Int} {a : Nat} (C : Cx X K l R cc own Ts nL) (d : decode cc pc = .ok (.ifnull off, 3)) (hq : pc + 3 = q) (kk : V X k n q lv st cs) : V X k n pc lv (vP a :: st) cs := by
  obtain ⟨p, l', e, R', s, m, args, below, meth, c, Q, A, K', nL'⟩ := X
  obtain ⟨rfl, rfl, rfl, rfl, hx, hb, hml, hown, hts, hK, hG, hA⟩ := C
  subst hq
  intro H locs ls hP hD hS hl
  exact lv_ifnull (x := a) hx hb d (kk H locs ls hP hD hS hl)

theorem i_tsIn {X : Cxt} {K : KT} {l : Launch} {R : Room} {cc : ByteArray} {own : String} {Ts : List Cond} {nL k n pc q : Nat} {lv : Lv} {st : List Vl} {cs : List Wd} {dflt lo hi : Int} {offs : Array Int} {len : Nat} {off z : Int} (v : Int) (C : Cx X K l R cc own Ts nL) (hz : z = v) (d : decode cc pc = .ok (.tableswitch dflt lo hi offs, len)) (hv : rI v ∧ ¬ v < lo ∧ ¬ hi < v) (ho : offs[(v - lo).toNat]? = some off) (hq : (pc : Int) + off = (q : Int)) (kk : V X k n q lv st cs) : V X k n pc lv (vI z :: st) cs := by
  subst hz
  obtain ⟨p, l', e, R', s, m, args, below, meth, c, Q, A, K', nL'⟩ := X
  obtain ⟨rfl, rfl, rfl, rfl, hx, hb, hml, hown, hts, hK, hG, hA⟩ := C
  intro H locs ls hP hD hS hl
  exact lv_tableIn (x := zI z) (tgt := q) hx hb d (by rw [zI_toInt hv.1]; exact hv.2.1) (by rw [zI_toInt hv.1]; exact hv.2.2) (by rw [zI_toInt hv.1]; exact ho) hq (kk H locs ls hP hD hS hl)

theorem i_tsOut {X : Cxt} {K : KT} {l : Launch} {R : Room} {cc : ByteArray} {own : String} {Ts : List Cond} {nL k n pc q : Nat} {lv : Lv} {st : List Vl} {cs : List Wd} {dflt lo hi : Int} {offs : Array Int} {len : Nat} {z : Int} (C : Cx X K l R cc own Ts nL) (hz : rI z) (hv : z < lo ∨ hi < z) (d : decode cc pc = .ok (.tableswitch dflt lo hi offs, len)) (hq : (pc : Int) + dflt = (q : Int)) (kk : V X k n q lv st cs) : V X k n pc lv (vI z :: st) cs := by
  obtain ⟨p, l', e, R', s, m, args, below, meth, c, Q, A, K', nL'⟩ := X
  obtain ⟨rfl, rfl, rfl, rfl, hx, hb, hml, hown, hts, hK, hG, hA⟩ := C
  intro H locs ls hP hD hS hl
  exact lv_tableOut (x := zI z) (tgt := q) hx hb d (by rw [zI_toInt hz]; exact hv) hq (kk H locs ls hP hD hS hl)

theorem i_get {X : Cxt} {K : KT} {l : Launch} {R : Room} {cc : ByteArray} {own : String} {Ts : List Cond} {nL k n pc q : Nat} {lv : Lv} {st : List Vl} {cs : List Wd} {i j a ci f idx N : Nat} {ch : Wd} {fs : List Vl} {Cn : String} {T : u_T} {v : Vl} (C : Cx X K l R cc own Ts nL) (hc : cs[i]? = some ch) (hj : ch[j]? = some (a, cO ci fs)) (hcl : vwCl[ci]? = some (Cn, T, N)) (hin : ∀ w ∈ u_ws Cn T N, w ∈ Ts) (hf : f < N) (hlink : Cond.fieldLink own idx (T f).1 (T f).2.1 (T f).2.2.1 ∈ Ts) (hv : fs[f]? = some v) (d : decode cc pc = .ok (.getfield idx, 3)) (hq : pc + 3 = q) (kk : V X k n q lv (v :: st) cs) : V X k n pc lv (vP a :: st) cs := by
  obtain ⟨p, l', e, R', s, m, args, below, meth, c, Q, A, K', nL'⟩ := X
  obtain ⟨rfl, rfl, rfl, rfl, hx, hb, hml, hown, hts, hK, hG, hA⟩ := C
  subst hq
  intro H locs ls hP hD hS hl
  obtain ⟨q0, h1, -⟩ := rw_at (K := K') hc hj
  exact va_get hx hb hts hin hown hK hP q0 h1 hcl f hf (hts _ hlink) (fun _ h => h) (v := rv v) (by simp [List.getElem?_map, hv]) d (kk H locs ls hP hD hS hl)

/-- within a constructor -/
def nmI (X : Cxt) (nm : String) : Prop := match X with
  | (_, _, _, _, _, _, _, _, meth, _, _, _, _, _) => meth.name = nm

theorem i_putI {X : Cxt} {K : KT} {l : Launch} {R : Room} {cc : ByteArray} {own : String} {Ts : List Cond} {nL k n pc q : Nat} {lv : Lv} {st : List Vl} {cs : List Wd} {i j a ci f idx N : Nat} {ch : Wd} {fs : List Vl} {Cn : String} {T : u_T} {cs' : List Wd} {z : Int}  (C : Cx X K l R cc own Ts nL) (hc : cs[i]? = some ch) (hj : ch[j]? = some (a, cO ci fs)) (hcl : vwCl[ci]? = some (Cn, T, N)) (hin : ∀ w ∈ u_ws Cn T N, w ∈ Ts) (ty0 : Nat → FieldType) (hty : ∀ k, k < N → parseFieldDescriptor (T k).2.2.1 = some (ty0 k)) (hnm : ∀ a, a < N → ∀ b, b < N → a ≠ b → (T a).2.1 ≠ (T b).2.1) (hf : f < N) (hfl : f < fs.length) (hlink : Cond.fieldLink own idx (T f).1 (T f).2.1 (T f).2.2.1 ∈ Ts) (hfin : (T f).2.2.2 = false) (ht : ty0 f = .int)  (d : decode cc pc = .ok (.putfield idx, 3)) (hq : pc + 3 = q) (hcs : cs.set i (ch.set j (a, cO ci (fs.set f (vI z)))) = cs') (kk : V X k n q lv st cs') : V X k n pc lv ((vI z) :: vP a :: st) cs := by
  obtain ⟨p, l', e, R', s, m, args, below, meth, c, Q, A, K', nL'⟩ := X
  obtain ⟨rfl, rfl, rfl, rfl, hx, hb, hml, hown, hts, hK, hG, hA⟩ := C
  subst hq
  intro H locs ls hP hD hS hl
  subst hcs
  obtain ⟨q0, h1, h2⟩ := rw_at (K := K') hc hj
  have e0 : re K' (cO ci (fs.set f (vI z))) = .inr (ci, (fs.map rv).set f (rv (vI z))) := by simp [re, List.map_set]
  refine va_put (v := rv (vI z)) (ty := .int) hx hb hts hin ty0 hty hnm hown hK hP hD hS q0 h1 hcl f hf (hts _ hlink) (fun _ h => h) hfin  (by rw [hty f hf, ht]) rfl rfl (by simpa using hfl) d (fun H2 locs2 hP2 hD2 hS2 => ?_)
  rw [← e0, h2] at hP2 hD2
  exact kk H2 locs2 ls hP2 hD2 hS2 hl

theorem i_putJ {X : Cxt} {K : KT} {l : Launch} {R : Room} {cc : ByteArray} {own : String} {Ts : List Cond} {nL k n pc q : Nat} {lv : Lv} {st : List Vl} {cs : List Wd} {i j a ci f idx N : Nat} {ch : Wd} {fs : List Vl} {Cn : String} {T : u_T} {cs' : List Wd} {z : Int}  (C : Cx X K l R cc own Ts nL) (hc : cs[i]? = some ch) (hj : ch[j]? = some (a, cO ci fs)) (hcl : vwCl[ci]? = some (Cn, T, N)) (hin : ∀ w ∈ u_ws Cn T N, w ∈ Ts) (ty0 : Nat → FieldType) (hty : ∀ k, k < N → parseFieldDescriptor (T k).2.2.1 = some (ty0 k)) (hnm : ∀ a, a < N → ∀ b, b < N → a ≠ b → (T a).2.1 ≠ (T b).2.1) (hf : f < N) (hfl : f < fs.length) (hlink : Cond.fieldLink own idx (T f).1 (T f).2.1 (T f).2.2.1 ∈ Ts) (hfin : (T f).2.2.2 = false) (ht : ty0 f = .long)  (d : decode cc pc = .ok (.putfield idx, 3)) (hq : pc + 3 = q) (hcs : cs.set i (ch.set j (a, cO ci (fs.set f (vJ z)))) = cs') (kk : V X k n q lv st cs') : V X k n pc lv ((vJ z) :: vP a :: st) cs := by
  obtain ⟨p, l', e, R', s, m, args, below, meth, c, Q, A, K', nL'⟩ := X
  obtain ⟨rfl, rfl, rfl, rfl, hx, hb, hml, hown, hts, hK, hG, hA⟩ := C
  subst hq
  intro H locs ls hP hD hS hl
  subst hcs
  obtain ⟨q0, h1, h2⟩ := rw_at (K := K') hc hj
  have e0 : re K' (cO ci (fs.set f (vJ z))) = .inr (ci, (fs.map rv).set f (rv (vJ z))) := by simp [re, List.map_set]
  refine va_put (v := rv (vJ z)) (ty := .long) hx hb hts hin ty0 hty hnm hown hK hP hD hS q0 h1 hcl f hf (hts _ hlink) (fun _ h => h) hfin  (by rw [hty f hf, ht]) rfl rfl (by simpa using hfl) d (fun H2 locs2 hP2 hD2 hS2 => ?_)
  rw [← e0, h2] at hP2 hD2
  exact kk H2 locs2 ls hP2 hD2 hS2 hl

theorem i_putZ {X : Cxt} {K : KT} {l : Launch} {R : Room} {cc : ByteArray} {own : String} {Ts : List Cond} {nL k n pc q : Nat} {lv : Lv} {st : List Vl} {cs : List Wd} {i j a ci f idx N : Nat} {ch : Wd} {fs : List Vl} {Cn : String} {T : u_T} {cs' : List Wd} {z : Int}  (C : Cx X K l R cc own Ts nL) (hc : cs[i]? = some ch) (hj : ch[j]? = some (a, cO ci fs)) (hcl : vwCl[ci]? = some (Cn, T, N)) (hin : ∀ w ∈ u_ws Cn T N, w ∈ Ts) (ty0 : Nat → FieldType) (hty : ∀ k, k < N → parseFieldDescriptor (T k).2.2.1 = some (ty0 k)) (hnm : ∀ a, a < N → ∀ b, b < N → a ≠ b → (T a).2.1 ≠ (T b).2.1) (hf : f < N) (hfl : f < fs.length) (hlink : Cond.fieldLink own idx (T f).1 (T f).2.1 (T f).2.2.1 ∈ Ts) (hfin : (T f).2.2.2 = false) (ht : ty0 f = .boolean) (hz : z = 0 ∨ z = 1) (d : decode cc pc = .ok (.putfield idx, 3)) (hq : pc + 3 = q) (hcs : cs.set i (ch.set j (a, cO ci (fs.set f (vI z)))) = cs') (kk : V X k n q lv st cs') : V X k n pc lv ((vI z) :: vP a :: st) cs := by
  obtain ⟨p, l', e, R', s, m, args, below, meth, c, Q, A, K', nL'⟩ := X
  obtain ⟨rfl, rfl, rfl, rfl, hx, hb, hml, hown, hts, hK, hG, hA⟩ := C
  subst hq
  intro H locs ls hP hD hS hl
  subst hcs
  obtain ⟨q0, h1, h2⟩ := rw_at (K := K') hc hj
  have e0 : re K' (cO ci (fs.set f (vI z))) = .inr (ci, (fs.map rv).set f (rv (vI z))) := by simp [re, List.map_set]
  refine va_put (v := rv (vI z)) (ty := .boolean) hx hb hts hin ty0 hty hnm hown hK hP hD hS q0 h1 hcl f hf (hts _ hlink) (fun _ h => h) hfin  (by rw [hty f hf, ht]) (by rcases hz with rfl | rfl <;> decide) (by rcases hz with rfl | rfl <;> decide) (by simpa using hfl) d (fun H2 locs2 hP2 hD2 hS2 => ?_)
  rw [← e0, h2] at hP2 hD2
  exact kk H2 locs2 ls hP2 hD2 hS2 hl

theorem i_iald {X : Cxt} {K : KT} {l : Launch} {R : Room} {cc : ByteArray} {own : String} {Ts : List Cond} {nL k n pc q : Nat} {lv : Lv} {st : List Vl} {cs : List Wd} {i j a N : Nat} {ch : Wd} {g : Int → Int} {z : Int} (C : Cx X K l R cc own Ts nL) (hc : cs[i]? = some ch) (hj : ch[j]? = some (a, cA N g)) (hz : 0 ≤ z ∧ z < N ∧ N < 2147483648) (d : decode cc pc = .ok (.iaload, 1)) (hq : pc + 1 = q) (kk : V X k n q lv (vI (g z) :: st) cs) : V X k n pc lv (vI z :: vP a :: st) cs := by
  obtain ⟨p, l', e, R', s, m, args, below, meth, c, Q, A, K', nL'⟩ := X
  obtain ⟨rfl, rfl, rfl, rfl, hx, hb, hml, hown, hts, hK, hG, hA⟩ := C
  subst hq
  intro H locs ls hP hD hS hl
  obtain ⟨q0, h1, -⟩ := rw_at (K := K') hc hj
  refine va_iald hx hb hK hP q0 0 h1 rfl (i := zI z) (zI_in hz.1 hz.2.1 hz.2.2) d ?_
  rw [zI_clamp hz.1 (by omega), Int.toNat_of_nonneg hz.1]
  exact kk H locs ls hP hD hS hl

theorem i_lald {X : Cxt} {K : KT} {l : Launch} {R : Room} {cc : ByteArray} {own : String} {Ts : List Cond} {nL k n pc q : Nat} {lv : Lv} {st : List Vl} {cs : List Wd} {i j a N : Nat} {ch : Wd} {g : Int → Int} {z : Int} (C : Cx X K l R cc own Ts nL) (hc : cs[i]? = some ch) (hj : ch[j]? = some (a, cL N g)) (hz : 0 ≤ z ∧ z < N ∧ N < 2147483648) (d : decode cc pc = .ok (.laload, 1)) (hq : pc + 1 = q) (kk : V X k n q lv (vJ (g z) :: st) cs) : V X k n pc lv (vI z :: vP a :: st) cs := by
  obtain ⟨p, l', e, R', s, m, args, below, meth, c, Q, A, K', nL'⟩ := X
  obtain ⟨rfl, rfl, rfl, rfl, hx, hb, hml, hown, hts, hK, hG, hA⟩ := C
  subst hq
  intro H locs ls hP hD hS hl
  obtain ⟨q0, h1, -⟩ := rw_at (K := K') hc hj
  refine va_lald hx hb hK hP q0 1 h1 rfl (i := zI z) (zI_in hz.1 hz.2.1 hz.2.2) d ?_
  rw [zI_clamp hz.1 (by omega), Int.toNat_of_nonneg hz.1]
  exact kk H locs ls hP hD hS hl

theorem i_aald {X : Cxt} {K : KT} {l : Launch} {R : Room} {cc : ByteArray} {own : String} {Ts : List Cond} {nL k n pc q : Nat} {lv : Lv} {st : List Vl} {cs : List Wd} {i j a N b : Nat} {ch : Wd} {g : Int → Option Nat} {z : Int} (C : Cx X K l R cc own Ts nL) (hc : cs[i]? = some ch) (hj : ch[j]? = some (a, cR N g)) (hz : 0 ≤ z ∧ z < N ∧ N < 2147483648) (hg : g z = some b) (d : decode cc pc = .ok (.aaload, 1)) (hq : pc + 1 = q) (kk : V X k n q lv (vP b :: st) cs) : V X k n pc lv (vI z :: vP a :: st) cs := by
  obtain ⟨p, l', e, R', s, m, args, below, meth, c, Q, A, K', nL'⟩ := X
  obtain ⟨rfl, rfl, rfl, rfl, hx, hb, hml, hown, hts, hK, hG, hA⟩ := C
  subst hq
  intro H locs ls hP hD hS hl
  obtain ⟨q0, h1, -⟩ := rw_at (K := K') hc hj
  refine va_aldq hx hb hK hP q0 2 h1 rfl (i := zI z) (zI_in hz.1 hz.2.1 hz.2.2) d ?_
  rw [zI_clamp hz.1 (by omega), Int.toNat_of_nonneg hz.1]
  dsimp only
  rw [hg]
  exact kk H locs ls hP hD hS hl

theorem up_fun {f : Int → Int32} {g : Int → Int} {z : Int} {x : Int} (hz : 0 ≤ z) : upd (fun j : Nat => zI (g (j : Int))) z.toNat (zI x) = fun j : Nat => zI (up g z x (j : Int)) := by
  funext j
  by_cases h : j = z.toNat
  · subst h
    rw [pk_us, Int.toNat_of_nonneg hz, up_s]
  · rw [pk_un h, up_n g x (fun e => h (by omega))]
theorem up_funL {g : Int → Int} {z : Int} {x : Int} (hz : 0 ≤ z) : vp_updL (fun j : Nat => zL (g (j : Int))) z.toNat (zL x) = fun j : Nat => zL (up g z x (j : Int)) := by
  funext j
  by_cases h : j = z.toNat
  · subst h
    rw [pk_uLs, Int.toNat_of_nonneg hz, up_s]
  · rw [pk_uLn h, up_n g x (fun e => h (by omega))]

theorem i_iast {X : Cxt} {K : KT} {l : Launch} {R : Room} {cc : ByteArray} {own : String} {Ts : List Cond} {nL k n pc q : Nat} {lv : Lv} {st : List Vl} {cs : List Wd} {i j a N : Nat} {ch : Wd} {cs' : List Wd} {g : Int → Int} {z x : Int} (C : Cx X K l R cc own Ts nL) (hc : cs[i]? = some ch) (hj : ch[j]? = some (a, cA N g)) (hz : 0 ≤ z ∧ z < N ∧ N < 2147483648) (d : decode cc pc = .ok (.iastore, 1)) (hq : pc + 1 = q) (hcs : cs.set i (ch.set j (a, cA N (up g z x))) = cs') (kk : V X k n q lv st cs') : V X k n pc lv (vI x :: vI z :: vP a :: st) cs := by
  obtain ⟨p, l', e, R', s, m, args, below, meth, c, Q, A, K', nL'⟩ := X
  obtain ⟨rfl, rfl, rfl, rfl, hx, hb, hml, hown, hts, hK, hG, hA⟩ := C
  subst hq
  intro H locs ls hP hD hS hl
  subst hcs
  obtain ⟨q0, h1, h2⟩ := rw_at (K := K') hc hj
  refine va_iast hx hb hK hP hD hS q0 0 h1 rfl (i := zI z) (x := zI x) (zI_in hz.1 hz.2.1 hz.2.2) d (fun H2 locs2 hP2 hD2 hS2 => ?_)
  have e0 : (.inl (K'.2.2.1, N, .inl (upd (fun j : Nat => zI (g (j : Int))) (zI z).toNatClampNeg (zI x))) : va_E) = re K' (cA N (up g z x)) := by rw [zI_clamp hz.1 (by omega), up_fun (f := fun _ => 0) hz.1]; rfl
  rw [e0, h2] at hP2 hD2
  exact kk H2 locs2 ls hP2 hD2 hS2 hl

theorem i_last {X : Cxt} {K : KT} {l : Launch} {R : Room} {cc : ByteArray} {own : String} {Ts : List Cond} {nL k n pc q : Nat} {lv : Lv} {st : List Vl} {cs : List Wd} {i j a N : Nat} {ch : Wd} {cs' : List Wd} {g : Int → Int} {z x : Int} (C : Cx X K l R cc own Ts nL) (hc : cs[i]? = some ch) (hj : ch[j]? = some (a, cL N g)) (hz : 0 ≤ z ∧ z < N ∧ N < 2147483648) (d : decode cc pc = .ok (.lastore, 1)) (hq : pc + 1 = q) (hcs : cs.set i (ch.set j (a, cL N (up g z x))) = cs') (kk : V X k n q lv st cs') : V X k n pc lv (vJ x :: vI z :: vP a :: st) cs := by
  obtain ⟨p, l', e, R', s, m, args, below, meth, c, Q, A, K', nL'⟩ := X
  obtain ⟨rfl, rfl, rfl, rfl, hx, hb, hml, hown, hts, hK, hG, hA⟩ := C
  subst hq
  intro H locs ls hP hD hS hl
  subst hcs
  obtain ⟨q0, h1, h2⟩ := rw_at (K := K') hc hj
  refine va_last hx hb hK hP hD hS q0 1 h1 rfl (i := zI z) (x := zL x) (zI_in hz.1 hz.2.1 hz.2.2) d (fun H2 locs2 hP2 hD2 hS2 => ?_)
  have e0 : (.inl (K'.2.2.2.1, N, .inr (.inl (vp_updL (fun j : Nat => zL (g (j : Int))) (zI z).toNatClampNeg (zL x)))) : va_E) = re K' (cL N (up g z x)) := by rw [zI_clamp hz.1 (by omega), up_funL hz.1]; rfl
  rw [e0, h2] at hP2 hD2
  exact kk H2 locs2 ls hP2 hD2 hS2 hl

theorem i_alen {X : Cxt} {K : KT} {l : Launch} {R : Room} {cc : ByteArray} {own : String} {Ts : List Cond} {nL k n pc q : Nat} {lv : Lv} {st : List Vl} {cs : List Wd} {i j a N : Nat} {ch : Wd} {g : Int → Int} (C : Cx X K l R cc own Ts nL) (hc : cs[i]? = some ch) (hj : ch[j]? = some (a, cA N g)) (d : decode cc pc = .ok (.arraylength, 1)) (hq : pc + 1 = q) (kk : V X k n q lv (vI (N : Int) :: st) cs) : V X k n pc lv (vP a :: st) cs := by
  obtain ⟨p, l', e, R', s, m, args, below, meth, c, Q, A, K', nL'⟩ := X
  obtain ⟨rfl, rfl, rfl, rfl, hx, hb, hml, hown, hts, hK, hG, hA⟩ := C
  subst hq
  intro H locs ls hP hD hS hl
  obtain ⟨q0, h1, -⟩ := rw_at (K := K') hc hj
  exact va_alen (v := zI (N : Int)) hx hb hK hP q0 0 h1 rfl (Int32.ofInt_eq_ofNat).symm d (kk H locs ls hP hD hS hl)

theorem i_iret {X : Cxt} {K : KT} {l : Launch} {R : Room} {cc : ByteArray} {own : String} {Ts : List Cond} {nL pc : Nat} {lv : Lv} {cs : List Wd} {mc ms : Nat} {post : Option Vl → List Wd → Prop} {z : Int} (C : Cx X K l R cc own Ts nL) (hR : Rt X (some .int) mc ms post)  (d : decode cc pc = .ok (.ireturn, 1)) (h : post (some (vI z)) cs) : V X mc ms pc lv [vI z] cs := by
  obtain ⟨p, l', e, R', s, m, args, below, meth, c, Q, A, K', nL'⟩ := X
  obtain ⟨rfl, rfl, rfl, rfl, hx, hb, hml, hown, hts, hK, hG, hA⟩ := C
  intro H locs ls hP hD hS hl
  obtain ⟨w0, rfl, rfl, hr, hlocks⟩ := hR
  exact W.iret (v := zI z) hx hb hr (fun t ht hW => ⟨⟨(some (vI z)), cs, rfl, h, by rw [ht]; exact hP, hD⟩, hS.F ht⟩) hS.2.2 d hlocks

theorem i_lret {X : Cxt} {K : KT} {l : Launch} {R : Room} {cc : ByteArray} {own : String} {Ts : List Cond} {nL pc : Nat} {lv : Lv} {cs : List Wd} {mc ms : Nat} {post : Option Vl → List Wd → Prop} {z : Int} (C : Cx X K l R cc own Ts nL) (hR : Rt X (some .long) mc ms post)  (d : decode cc pc = .ok (.lreturn, 1)) (h : post (some (vJ z)) cs) : V X mc ms pc lv [vJ z] cs := by
  obtain ⟨p, l', e, R', s, m, args, below, meth, c, Q, A, K', nL'⟩ := X
  obtain ⟨rfl, rfl, rfl, rfl, hx, hb, hml, hown, hts, hK, hG, hA⟩ := C
  intro H locs ls hP hD hS hl
  obtain ⟨w0, rfl, rfl, hr, hlocks⟩ := hR
  exact W.lret (v := zL z) hx hb hr (fun t ht hW => ⟨⟨(some (vJ z)), cs, rfl, h, by rw [ht]; exact hP, hD⟩, hS.F ht⟩) hS.2.2 d hlocks

theorem i_vret {X : Cxt} {K : KT} {l : Launch} {R : Room} {cc : ByteArray} {own : String} {Ts : List Cond} {nL pc : Nat} {lv : Lv} {cs : List Wd} {mc ms : Nat} {post : Option Vl → List Wd → Prop}  (C : Cx X K l R cc own Ts nL) (hR : Rt X none mc ms post)  (d : decode cc pc = .ok (.return_, 1)) (h : post none cs) : V X mc ms pc lv [] cs := by
  obtain ⟨p, l', e, R', s, m, args, below, meth, c, Q, A, K', nL'⟩ := X
  obtain ⟨rfl, rfl, rfl, rfl, hx, hb, hml, hown, hts, hK, hG, hA⟩ := C
  intro H locs ls hP hD hS hl
  obtain ⟨w0, rfl, rfl, hr, hlocks⟩ := hR
  exact W.vret hx hb hr (fun t ht hW => ⟨⟨none, cs, rfl, h, by rw [ht]; exact hP, hD⟩, hS.F ht⟩) hS.2.2 d hlocks

theorem i_zret {X : Cxt} {K : KT} {l : Launch} {R : Room} {cc : ByteArray} {own : String} {Ts : List Cond} {nL pc : Nat} {lv : Lv} {cs : List Wd} {mc ms : Nat} {post : Option Vl → List Wd → Prop} {z : Int} (C : Cx X K l R cc own Ts nL) (hR : Rt X (some .boolean) mc ms post) (hz : z = 0 ∨ z = 1) (d : decode cc pc = .ok (.ireturn, 1)) (h : post (some (vI z)) cs) : V X mc ms pc lv [vI z] cs := by
  obtain ⟨p, l', e, R', s, m, args, below, meth, c, Q, A, K', nL'⟩ := X
  obtain ⟨rfl, rfl, rfl, rfl, hx, hb, hml, hown, hts, hK, hG, hA⟩ := C
  intro H locs ls hP hD hS hl
  obtain ⟨w0, rfl, rfl, hr, hlocks⟩ := hR
  exact W.zret (v := zI z) (ty := .boolean) hx hb hr (by rcases hz with rfl | rfl <;> decide) (fun t ht hW => ⟨⟨(some (vI z)), cs, rfl, h, by rw [ht]; exact hP, hD⟩, hS.F ht⟩) hS.2.2 d hlocks

