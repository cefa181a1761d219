/-! ===== bits of the meanings seen ===== -/
theorem sb_all : ∀ a, a < 32 → ∀ b, b < 32 → ∀ m, m < 10 → (zI ((32 * a + b : Nat) : Int) >>> (zI ((m : Nat) : Int) &&& 31) = zI (((32 * a + b) / 2 ^ m : Nat) : Int)) ∧ (zI ((32 * a + b : Nat) : Int) ||| zI ((2 ^ m : Nat) : Int) = zI (((32 * a + b) ||| 2 ^ m : Nat) : Int)) := by decide +kernel
theorem sb_one : ∀ m, m < 10 → zI 1 <<< (zI ((m : Nat) : Int) &&& 31) = zI ((2 ^ m : Nat) : Int) := by decide +kernel
theorem sb_par : ∀ a, a < 32 → ∀ b, b < 32 → zI ((32 * a + b : Nat) : Int) &&& zI 1 = zI (((32 * a + b) % 2 : Nat) : Int) := by decide +kernel
theorem sb_shr {s m : Nat} (hs : s < 1024) (hm : m < 10) : zI (s : Int) >>> (zI (m : Int) &&& 31) = zI ((s / 2 ^ m : Nat) : Int) := by
  have := (sb_all (s / 32) (by omega) (s % 32) (by omega) m hm).1
  rwa [show 32 * (s / 32) + s % 32 = s by omega] at this
theorem sb_or {s m : Nat} (hs : s < 1024) (hm : m < 10) : zI (s : Int) ||| zI ((2 ^ m : Nat) : Int) = zI ((s ||| 2 ^ m : Nat) : Int) := by
  have := (sb_all (s / 32) (by omega) (s % 32) (by omega) m hm).2
  rwa [show 32 * (s / 32) + s % 32 = s by omega] at this
theorem sb_and {s : Nat} (hs : s < 1024) : zI (s : Int) &&& zI 1 = zI ((s % 2 : Nat) : Int) := by
  have := sb_par (s / 32) (by omega) (s % 32) (by omega)
  rwa [show 32 * (s / 32) + s % 32 = s by omega] at this
theorem sb_lt {s m : Nat} (hs : s < 1024) (hm : m < 10) : s ||| 2 ^ m < 1024 := Nat.or_lt_two_pow (n := 10) hs (Nat.pow_lt_pow_right (by decide) hm)
theorem sb_bit (s m : Nat) : s / 2 ^ m % 2 = 0 ↔ s.testBit m = false := by
  rw [Nat.testBit_eq_decide_div_mod_eq]
  have := Nat.mod_two_eq_zero_or_one (s / 2 ^ m)
  simp only [decide_eq_false_iff_not]
  omega
theorem sb_set (s m k : Nat) : (s ||| 2 ^ m).testBit k = (s.testBit k || decide (m = k)) := by
  rw [Nat.testBit_or, Nat.testBit_two_pow]
/-- those kept: of no meaning, or the first of their meaning -/
def fsh (me so : Int → Int) (n : Int) : Prop := me (so n) = 0 ∨ ∀ j, 0 ≤ j → j < n → me (so j) ≠ me (so n)
def fshB (me so : Int → Int) (n : Int) : Bool := decide (me (so n) = 0) || (List.range n.toNat).all (fun j : Nat => decide (me (so (j : Int)) ≠ me (so n)))
theorem fshB_iff {me so : Int → Int} {n : Int} : fshB me so n = true ↔ fsh me so n := by
  unfold fshB fsh
  rw [Bool.or_eq_true, decide_eq_true_eq, List.all_eq_true]
  constructor
  · rintro (h | h)
    · exact Or.inl h
    · refine Or.inr fun j g0 g1 => ?_
      have := h j.toNat (List.mem_range.mpr (by omega))
      rw [decide_eq_true_eq, Int.toNat_of_nonneg g0] at this
      exact this
  · rintro (h | h)
    · exact Or.inl h
    · refine Or.inr fun j hj => ?_
      have := List.mem_range.mp hj
      exact decide_eq_true (h j (by omega) (by omega))
def kfl (me so : Int → Int) : Nat → List Int
  | 0 => []
  | n + 1 => kfl me so n ++ (if fshB me so n = true then [so n] else [])
theorem kfl_y {me so : Int → Int} {n : Int} (h : 0 ≤ n) (hf : fsh me so n) : kfl me so (n + 1).toNat = kfl me so n.toNat ++ [so n] := by
  rw [show (n + 1).toNat = n.toNat + 1 by omega]
  simp only [kfl]
  rw [Int.toNat_of_nonneg h, if_pos (fshB_iff.mpr hf)]
theorem kfl_n {me so : Int → Int} {n : Int} (h : 0 ≤ n) (hf : ¬ fsh me so n) : kfl me so (n + 1).toNat = kfl me so n.toNat := by
  rw [show (n + 1).toNat = n.toNat + 1 by omega]
  simp only [kfl]
  rw [Int.toNat_of_nonneg h, if_neg (fun z => hf (fshB_iff.mp z)), List.append_nil]
/-! ===== a listing as a list of pairs ===== -/
def rgp (so ra : Int → Int) (n : Int) : List (Int × Int) := (List.range n.toNat).map (fun k : Nat => (so (k : Int), ra (k : Int)))
theorem rgp_at (so ra : Int → Int) {n : Int} {k : Nat} (h : (k : Int) < n) : (rgp so ra n)[k]? = some (so k, ra k) := by
  simp only [rgp, List.getElem?_map]
  rw [List.getElem?_range (by omega)]
  rfl
theorem rgp_len (so ra : Int → Int) (n : Int) : (rgp so ra n).length = n.toNat := by simp [rgp]
def srt (so ra : Int → Int) (lc : Int) : Prop := ∀ i j, 0 ≤ i → i < j → j < lc → ra j < ra i ∨ (ra i = ra j ∧ so i < so j)
def inR (so ra so3 ra3 : Int → Int) (lc a x y : Int) : Prop := (0 ≤ a ∧ a ≤ lc) ∧ (∀ j, 0 ≤ j → j < a → so3 j = so j ∧ ra3 j = ra j) ∧ (so3 a = x ∧ ra3 a = y) ∧ (∀ j, a < j → j ≤ lc → so3 j = so (j - 1) ∧ ra3 j = ra (j - 1)) ∧ (∀ j, a ≤ j → j < lc → ra j < y) ∧ (0 < a → y ≤ ra (a - 1))
theorem ins_perm {so ra so3 ra3 : Int → Int} {lc a x y : Int} (h : inR so ra so3 ra3 lc a x y) : (rgp so3 ra3 (lc + 1)).Perm (rgp so ra lc ++ [(x, y)]) := by
  obtain ⟨h0, h1, h2, h3, h4, h5⟩ := h
  have e : rgp so3 ra3 (lc + 1) = (rgp so ra lc).take a.toNat ++ (x, y) :: (rgp so ra lc).drop a.toNat := by
    apply List.ext_getElem?
    intro k
    have hl : ((rgp so ra lc).take a.toNat).length = a.toNat := by rw [List.length_take, rgp_len]; omega
    by_cases c1 : (k : Int) < a
    · rw [rgp_at _ _ (by omega), List.getElem?_append_left (by omega), List.getElem?_take_of_lt (by omega), rgp_at _ _ (by omega), (h1 k (by omega) c1).1, (h1 k (by omega) c1).2]
    · rw [List.getElem?_append_right (by omega), hl]
      by_cases c2 : (k : Int) = a
      · rw [show k - a.toNat = 0 by omega, List.getElem?_cons_zero, rgp_at _ _ (by omega), c2, h2.1, h2.2]
      · rw [show k - a.toNat = (k - a.toNat - 1) + 1 by omega, List.getElem?_cons_succ, List.getElem?_drop]
        by_cases c3 : (k : Int) ≤ lc
        · have h6 := h3 k (by omega) c3
          rw [rgp_at _ _ (by omega), rgp_at _ _ (by omega), h6.1, h6.2, show ((a.toNat + (k - a.toNat - 1) : Nat) : Int) = (k : Int) - 1 by omega]
        · rw [List.getElem?_eq_none (by rw [rgp_len]; omega), List.getElem?_eq_none (by rw [rgp_len]; omega)]
  rw [e]
  refine List.perm_middle.trans ?_
  rw [List.take_append_drop]
  exact (List.perm_append_singleton _ _).symm
theorem ins_srt {so ra so3 ra3 : Int → Int} {lc a x y : Int} (h : inR so ra so3 ra3 lc a x y) (hs : srt so ra lc) (hx : ∀ j, 0 ≤ j → j < lc → so j < x) : srt so3 ra3 (lc + 1) := by
  obtain ⟨h0, h1, h2, h3, h4, h5⟩ := h
  have mono : ∀ i j, 0 ≤ i → i ≤ j → j < lc → ra j ≤ ra i := fun i j g0 g1 g2 => by
    by_cases e : i = j
    · rw [e]; exact Int.le_refl _
    · have := hs i j g0 (by omega) g2; omega
  intro i j g0 g1 g2
  by_cases c1 : j < a
  · rw [(h1 i g0 (by omega)).1, (h1 i g0 (by omega)).2, (h1 j (by omega) c1).1, (h1 j (by omega) c1).2]
    exact hs i j g0 g1 (by omega)
  · by_cases c2 : j = a
    · subst c2
      rw [(h1 i g0 g1).1, (h1 i g0 g1).2, h2.1, h2.2]
      have := h5 (by omega)
      have := mono i (j - 1) g0 (by omega) (by omega)
      have := hx i g0 (by omega)
      omega
    · rw [(h3 j (by omega) (by omega)).1, (h3 j (by omega) (by omega)).2]
      by_cases c3 : i < a
      · rw [(h1 i g0 c3).1, (h1 i g0 c3).2]
        exact hs i (j - 1) g0 (by omega) (by omega)
      · by_cases c4 : i = a
        · subst c4
          rw [h2.1, h2.2]
          exact Or.inl (h4 (j - 1) (by omega) (by omega))
        · rw [(h3 i (by omega) (by omega)).1, (h3 i (by omega) (by omega)).2]
          exact hs (i - 1) (j - 1) (by omega) (by omega) (by omega)
theorem ins_in {so ra so3 ra3 : Int → Int} {lc a x y : Int} (h : inR so ra so3 ra3 lc a x y) {P : Int → Int → Prop} (hP : ∀ j, 0 ≤ j → j < lc → P (so j) (ra j)) (hx : P x y) : ∀ j, 0 ≤ j → j < lc + 1 → P (so3 j) (ra3 j) := by
  obtain ⟨h0, h1, h2, h3, h4, h5⟩ := h
  intro j g0 g1
  by_cases c1 : j < a
  · rw [(h1 j g0 c1).1, (h1 j g0 c1).2]; exact hP j g0 (by omega)
  · by_cases c2 : j = a
    · rw [c2, h2.1, h2.2]; exact hx
    · rw [(h3 j (by omega) (by omega)).1, (h3 j (by omega) (by omega)).2]; exact hP _ (by omega) (by omega)
/-! ===== the class's whole state ===== -/
def rpK (U : Int) : Bk → Bo → Prop
  | (nu, wo, sc, me, us, la, ct, gv, kd, sl), o => rpB U nu wo sc me us la ct gv kd sl o
def hix (nx pc i : Int) : Int := if nx - pc + i < 0 then nx - pc + i + 12 else nx - pc + i
abbrev bo0 : Bo := ([], 0, 0, 100)
def rpH (U : Int) (Bs : Int → Bk) (nx pc : Int) (h : List Bo) : Prop := (0 ≤ nx ∧ nx < 12) ∧ (0 ≤ pc ∧ pc ≤ 12) ∧ pc = h.length ∧ ∀ i, 0 ≤ i → i < pc → rpK U (Bs (hix nx pc i)) (h.getD i.toNat bo0)
theorem rpK.grow {U U2 : Int} {B : Bk} {o : Bo} (h : rpK U B o) (h1 : U ≤ U2) (h2 : U2 ≤ 1000000) : rpK U2 B o := by
  obtain ⟨nu, wo, sc, me, us, la, ct, gv, kd, sl⟩ := B
  exact rpB.grow h h1 h2
theorem rpH.grow {U U2 : Int} {Bs : Int → Bk} {nx pc : Int} {h : List Bo} (hh : rpH U Bs nx pc h) (h1 : U ≤ U2) (h2 : U2 ≤ 1000000) : rpH U2 Bs nx pc h := ⟨hh.1, hh.2.1, hh.2.2.1, fun i g0 g1 => (hh.2.2.2 i g0 g1).grow h1 h2⟩
theorem rpH.note {U : Int} {Bs : Int → Bk} {nx pc : Int} {h : List Bo} (hh : rpH U Bs nx pc h) {B : Bk} {o : Bo} (hB : rpK U B o) : rpH U (up Bs nx B) (if nx + 1 < 12 then nx + 1 else 0) (min (pc + 1) 12) (noteH h o) := by
  obtain ⟨h1, h2, h3, h4⟩ := hh
  have hl : ((noteH h o).length : Int) = min (pc + 1) 12 := by
    unfold noteH
    split <;> simp <;> omega
  refine ⟨by split <;> omega, by omega, hl.symm, fun i g0 g1 => ?_⟩
  by_cases e12 : pc = 12
  · have hn : noteH h o = h.drop 1 ++ [o] := by unfold noteH; rw [if_pos (by omega)]
    rw [hn]
    by_cases ei : i = 11
    · subst ei
      have e1 : hix (if nx + 1 < 12 then nx + 1 else 0) (min (pc + 1) 12) 11 = nx := by unfold hix; split <;> split <;> omega
      rw [e1, up_s, List.getD_eq_getElem?_getD, List.getElem?_append_right (by simp; omega), show (11 : Int).toNat - (h.drop 1).length = 0 by simp; omega]
      exact hB
    · have e1 : hix (if nx + 1 < 12 then nx + 1 else 0) (min (pc + 1) 12) i = hix nx pc (i + 1) := by unfold hix; split <;> split <;> (try split) <;> omega
      have e2 : hix nx pc (i + 1) ≠ nx := by unfold hix; split <;> omega
      rw [e1, up_n _ _ e2, List.getD_eq_getElem?_getD, List.getElem?_append_left (by simp; omega), List.getElem?_drop, show 1 + i.toNat = (i + 1).toNat by omega, ← List.getD_eq_getElem?_getD]
      exact h4 (i + 1) (by omega) (by omega)
  · have hn : noteH h o = h ++ [o] := by unfold noteH; rw [if_neg (by omega)]
    rw [hn]
    by_cases ei : i = pc
    · subst ei
      have e1 : hix (if nx + 1 < 12 then nx + 1 else 0) (min (i + 1) 12) i = nx := by unfold hix; split <;> split <;> omega
      rw [e1, up_s, List.getD_eq_getElem?_getD, List.getElem?_append_right (by omega), show i.toNat - h.length = 0 by omega]
      exact hB
    · have e1 : hix (if nx + 1 < 12 then nx + 1 else 0) (min (pc + 1) 12) i = hix nx pc i := by unfold hix; split <;> split <;> (try split) <;> omega
      have e2 : hix nx pc i ≠ nx := by unfold hix; split <;> omega
      rw [e1, up_n _ _ e2, List.getD_eq_getElem?_getD, List.getElem?_append_left (by omega), ← List.getD_eq_getElem?_getD]
      exact h4 i (by omega) (by omega)
theorem rpH.last {U : Int} {Bs : Int → Bk} {nx pc : Int} {h : List Bo} (hh : rpH U Bs nx pc h) (hp : 0 < pc) (o : Bo) : rpK U (Bs (if 0 < nx then nx - 1 else 11)) (h.getD (h.length - 1) o) ∧ rpH U Bs (if 0 < nx then nx - 1 else 11) (pc - 1) (h.take (h.length - 1)) := by
  obtain ⟨h1, h2, h3, h4⟩ := hh
  constructor
  · have := h4 (pc - 1) (by omega) (by omega)
    have e1 : hix nx pc (pc - 1) = if 0 < nx then nx - 1 else 11 := by unfold hix; split <;> split <;> omega
    rw [e1] at this
    rw [List.getD_eq_getElem?_getD, List.getElem?_eq_getElem (by omega)] at this ⊢
    have e2 : (pc - 1).toNat = h.length - 1 := by omega
    simp only [e2] at this
    exact this
  · refine ⟨by split <;> omega, by omega, by rw [List.length_take]; omega, fun i g0 g1 => ?_⟩
    have e1 : hix (if 0 < nx then nx - 1 else 11) (pc - 1) i = hix nx pc i := by unfold hix; split <;> split <;> (try split) <;> omega
    rw [e1, List.getD_eq_getElem?_getD, List.getElem?_take_of_lt (by omega), ← List.getD_eq_getElem?_getD]
    exact h4 i g0 (by omega)
def rpT (by_ : Int → Int) (le : Int) (x : List Int) : Prop := (0 ≤ le ∧ le ≤ 120) ∧ x = rg by_ le ∧ ∀ k, 0 ≤ k → k < le → 0 ≤ by_ k ∧ by_ k ≤ 127
/-- after N calls the class's fields hold A -/
def okC (N : Int) (nu wo sc me us la : Int → Int) (ct gv kd sl : Int) (Bs : Int → Bk) (nx pc td ck ba no fu : Int) (by_ : Int → Int) (le : Int) (A : AS) : Prop :=
  (0 ≤ N ∧ N ≤ 512) ∧ rpB (24 * N) nu wo sc me us la ct gv kd sl A.1 ∧ rpH (24 * N) Bs nx pc A.2.1 ∧ (okL A.2.2.1 ∧ A.2.2.1.length ≤ 12 ∧ td = ((pck A.2.2.1 : Nat) : Int)) ∧ (ck = A.2.2.2.1 ∧ 0 ≤ ck ∧ ck ≤ 9999) ∧ rpT by_ le A.2.2.2.2.1 ∧ (ba = A.2.2.2.2.2.1 ∧ 0 ≤ ba ∧ ba ≤ N) ∧ (no = A.2.2.2.2.2.2.1 ∧ 0 ≤ no ∧ no ≤ N) ∧ (fu = A.2.2.2.2.2.2.2 ∧ 0 ≤ fu ∧ fu ≤ N)
section OKC
variable {N : Int} {nu wo sc me us la : Int → Int} {ct gv kd sl : Int} {Bs : Int → Bk} {nx pc ck ba no fu : Int} {by_ : Int → Int} {le : Int} {o : Bo} {h : List Bo} {t x : List Int}
abbrev okC8 (N : Int) (nu wo sc me us la : Int → Int) (ct gv kd sl : Int) (Bs : Int → Bk) (nx pc ck ba no fu : Int) (by_ : Int → Int) (le : Int) (o : Bo) (h : List Bo) (t x : List Int) : Prop := okC N nu wo sc me us la ct gv kd sl Bs nx pc ((pck t : Nat) : Int) ck ba no fu by_ le (o, h, t, ck, x, ba, no, fu)
theorem okC.upd (hC : okC8 N nu wo sc me us la ct gv kd sl Bs nx pc ck ba no fu by_ le o h t x) (hN : N < 512) {nu3 wo3 sc3 me3 us3 la3 : Int → Int} {ct3 gv3 kd3 sl3 : Int} {Bs3 : Int → Bk} {nx3 pc3 ck3 : Int} {by3 : Int → Int} {le3 : Int} {o3 : Bo} {h3 : List Bo} {t3 x3 : List Int} (hb : rpB (24 * (N + 1)) nu3 wo3 sc3 me3 us3 la3 ct3 gv3 kd3 sl3 o3) (hh : rpH (24 * (N + 1)) Bs3 nx3 pc3 h3) (ht : okL t3 ∧ t3.length ≤ 12) (hc : 0 ≤ ck3 ∧ ck3 ≤ 9999) (hx : rpT by3 le3 x3) : okC8 (N + 1) nu3 wo3 sc3 me3 us3 la3 ct3 gv3 kd3 sl3 Bs3 nx3 pc3 ck3 ba no fu by3 le3 o3 h3 t3 x3 := by
  obtain ⟨a1, a2, a3, a4, a5, a6, a7, a8, a9⟩ := hC
  exact ⟨by omega, hb, hh, ⟨ht.1, ht.2, rfl⟩, ⟨rfl, hc⟩, hx, ⟨rfl, by omega⟩, ⟨rfl, by omega⟩, ⟨rfl, by omega⟩⟩
theorem okC.hb (hC : okC8 N nu wo sc me us la ct gv kd sl Bs nx pc ck ba no fu by_ le o h t x) : rpB (24 * N) nu wo sc me us la ct gv kd sl o := hC.2.1
theorem okC.hh (hC : okC8 N nu wo sc me us la ct gv kd sl Bs nx pc ck ba no fu by_ le o h t x) : rpH (24 * N) Bs nx pc h := hC.2.2.1
theorem okC.ht (hC : okC8 N nu wo sc me us la ct gv kd sl Bs nx pc ck ba no fu by_ le o h t x) : okL t ∧ t.length ≤ 12 := ⟨hC.2.2.2.1.1, hC.2.2.2.1.2.1⟩
theorem okC.hck (hC : okC8 N nu wo sc me us la ct gv kd sl Bs nx pc ck ba no fu by_ le o h t x) : 0 ≤ ck ∧ ck ≤ 9999 := hC.2.2.2.2.1.2
theorem okC.hx (hC : okC8 N nu wo sc me us la ct gv kd sl Bs nx pc ck ba no fu by_ le o h t x) : rpT by_ le x := hC.2.2.2.2.2.1
theorem okC.hN (hC : okC8 N nu wo sc me us la ct gv kd sl Bs nx pc ck ba no fu by_ le o h t x) : 0 ≤ N ∧ N ≤ 512 := hC.1
theorem okC.hrf (hC : okC8 N nu wo sc me us la ct gv kd sl Bs nx pc ck ba no fu by_ le o h t x) : (0 ≤ ba ∧ ba ≤ N) ∧ (0 ≤ no ∧ no ≤ N) ∧ (0 ≤ fu ∧ fu ≤ N) := ⟨hC.2.2.2.2.2.2.1.2, hC.2.2.2.2.2.2.2.1.2, hC.2.2.2.2.2.2.2.2.2⟩
theorem okC.hbG (hC : okC8 N nu wo sc me us la ct gv kd sl Bs nx pc ck ba no fu by_ le o h t x) (hN : N < 512) : rpB (24 * (N + 1)) nu wo sc me us la ct gv kd sl o := by
  have := hC.hN
  exact hC.hb.grow (by omega) (by omega)
theorem okC.hhG (hC : okC8 N nu wo sc me us la ct gv kd sl Bs nx pc ck ba no fu by_ le o h t x) (hN : N < 512) : rpH (24 * (N + 1)) Bs nx pc h := by
  have := hC.hN
  exact hC.hh.grow (by omega) (by omega)
theorem okC.s (hC : okC8 N nu wo sc me us la ct gv kd sl Bs nx pc ck ba no fu by_ le o h t x) (hN : N < 512) : okC8 (N + 1) nu wo sc me us la ct gv kd sl Bs nx pc ck ba no fu by_ le o h t x := hC.upd hN (hC.hbG hN) (hC.hhG hN) hC.ht hC.hck hC.hx
theorem okC.bad (hC : okC8 N nu wo sc me us la ct gv kd sl Bs nx pc ck ba no fu by_ le o h t x) (hN : N < 512) : okC8 (N + 1) nu wo sc me us la ct gv kd sl Bs nx pc ck (ba + 1) no fu by_ le o h t x := by
  have := hC.hrf
  obtain ⟨a1, a2, a3, a4, a5, a6, a7, a8, a9⟩ := hC.s hN
  exact ⟨a1, a2, a3, a4, a5, a6, ⟨rfl, by omega⟩, a8, a9⟩
theorem okC.noo (hC : okC8 N nu wo sc me us la ct gv kd sl Bs nx pc ck ba no fu by_ le o h t x) (hN : N < 512) : okC8 (N + 1) nu wo sc me us la ct gv kd sl Bs nx pc ck ba (no + 1) fu by_ le o h t x := by
  have := hC.hrf
  obtain ⟨a1, a2, a3, a4, a5, a6, a7, a8, a9⟩ := hC.s hN
  exact ⟨a1, a2, a3, a4, a5, a6, a7, ⟨rfl, by omega⟩, a9⟩
theorem okC.full (hC : okC8 N nu wo sc me us la ct gv kd sl Bs nx pc ck ba no fu by_ le o h t x) (hN : N < 512) : okC8 (N + 1) nu wo sc me us la ct gv kd sl Bs nx pc ck ba no (fu + 1) by_ le o h t x := by
  have := hC.hrf
  obtain ⟨a1, a2, a3, a4, a5, a6, a7, a8, a9⟩ := hC.s hN
  exact ⟨a1, a2, a3, a4, a5, a6, a7, a8, ⟨rfl, by omega⟩⟩
end OKC
