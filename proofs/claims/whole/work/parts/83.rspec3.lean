theorem numb4 {v k : Int} (h : 0 ≤ v ∧ v < 10 ^ k.toNat) (hk : k ≤ 4) : 0 ≤ v ∧ v < 10000 := by
  refine ⟨h.1, Int.lt_of_lt_of_le h.2 ?_⟩
  rcases (show k.toNat = 0 ∨ k.toNat = 1 ∨ k.toNat = 2 ∨ k.toNat = 3 ∨ k.toNat = 4 by omega) with e | e | e | e | e <;> rw [e] <;> decide
theorem pV_in {T : List Int} {p : Int} (h0 : 0 ≤ p) (h1 : p ≤ T.length) : ((pV T p).1 = 0 ∨ (pV T p).1 = 1) ∧ (0 ≤ (pV T p).2.1 ∧ (pV T p).2.1 ≤ T.length) ∧ (0 ≤ (pV T p).2.2 ∧ (pV T p).2.2 ≤ 7) ∧ ((pV T p).1 = 1 → (pV T p).2.2 = 0) ∧ ((pV T p).1 = 0 → 1 ≤ (pV T p).2.2) := by
  rcases pV_b h0 h1 with ⟨v1, v2, v3, v4⟩ | ⟨v1, v2, v3, v4⟩
  · exact ⟨Or.inl v1, ⟨by split at v3 <;> (try split at v3) <;> omega, v4⟩, by omega, fun z => by omega, fun _ => v2.1⟩
  · exact ⟨Or.inr v1, by omega, by omega, fun _ => v2, fun z => by omega⟩
theorem pW_in {T : List Int} {p : Int} (h0 : 0 ≤ p) (h1 : p ≤ T.length) : ((pW T p).1 = 0 ∨ (pW T p).1 = 1) ∧ (0 ≤ (pW T p).2.1 ∧ (pW T p).2.1 ≤ T.length) ∧ okL (pW T p).2.2 ∧ (pW T p).2.2.length ≤ 8 := by
  rcases pW_b h0 h1 with ⟨v1, v2, v3, v4⟩ | ⟨v1, v2, v3, v4⟩
  · exact ⟨Or.inl v1, by omega, v3, v4.2⟩
  · exact ⟨Or.inr v1, by omega, by rw [v2]; exact fun y hy => by simp at hy, by rw [v2]; simp⟩
theorem pN_in {T : List Int} {p : Int} (m : Int) (h0 : 0 ≤ p) (h1 : p ≤ T.length) : ((pN m T p).1 = 0 ∨ (pN m T p).1 = 1) ∧ (0 ≤ (pN m T p).2.1 ∧ (pN m T p).2.1 ≤ T.length) := by
  rcases pN_b m h0 h1 with ⟨v1, v2, v3⟩ | ⟨v1, v2, v3, v4⟩
  · exact ⟨Or.inl v1, by omega⟩
  · exact ⟨Or.inr v1, by omega⟩
theorem pE_in {T : List Int} {p : Int} (h0 : 0 ≤ p) (h1 : p ≤ T.length) : ((pE T p).1 = 0 ∨ (pE T p).1 = 1) ∧ (0 ≤ (pE T p).2 ∧ (pE T p).2 ≤ T.length) := by
  rcases pE_b h0 h1 with ⟨v1, v2⟩ | ⟨v1, v2, v3⟩
  · exact ⟨Or.inl v1, by omega⟩
  · exact ⟨Or.inr v1, by omega⟩
theorem sW_in {T : List Int} {p : Int} (h0 : 0 ≤ p) (h1 : p ≤ T.length) : ((sW T p).1 = 0 ∨ (sW T p).1 = 1) ∧ (0 ≤ (sW T p).2.1 ∧ (sW T p).2.1 ≤ T.length) ∧ ((sW T p).1 = 0 → (pV T p).1 = 0) ∧ okL (sW T p).2.2 := by
  have hv := pV_in h0 h1
  unfold sW
  split
  · rename_i e
    have := pW_in (p := (pV T p).2.1) hv.2.1.1 hv.2.1.2
    exact ⟨this.1, this.2.1, fun _ => e.1, this.2.2.1⟩
  · exact ⟨hv.1, hv.2.1, fun z => z, fun y hy => by simp at hy⟩
theorem s1_in {T : List Int} {p : Int} (h0 : 0 ≤ p) (h1 : p ≤ T.length) : ((s1 T p).1 = 0 ∨ (s1 T p).1 = 1) ∧ (0 ≤ (s1 T p).2.1 ∧ (s1 T p).2.1 ≤ T.length) ∧ ((s1 T p).1 = 0 → (sW T p).1 = 0) := by
  have hv := sW_in h0 h1
  unfold s1
  split
  · rename_i e
    have := pN_in (p := (sW T p).2.1) 1000 hv.2.1.1 hv.2.1.2
    exact ⟨this.1, this.2, fun _ => e.1⟩
  · split
    · rename_i e
      have := pN_in (p := (sW T p).2.1) 4 hv.2.1.1 hv.2.1.2
      exact ⟨this.1, this.2, fun _ => e.1⟩
    · exact ⟨hv.1, hv.2.1, fun z => z⟩
theorem s2_in {T : List Int} {p : Int} (h0 : 0 ≤ p) (h1 : p ≤ T.length) : ((s2 T p).1 = 0 ∨ (s2 T p).1 = 1) ∧ (0 ≤ (s2 T p).2.1 ∧ (s2 T p).2.1 ≤ T.length) ∧ ((s2 T p).1 = 0 → (s1 T p).1 = 0) := by
  have hv := s1_in h0 h1
  unfold s2
  split
  · rename_i e
    have := pN_in (p := (s1 T p).2.1) 9 hv.2.1.1 hv.2.1.2
    exact ⟨this.1, this.2, fun _ => e.1⟩
  · exact ⟨hv.1, hv.2.1, fun z => z⟩
theorem s3_in {T : List Int} {p : Int} (h0 : 0 ≤ p) (h1 : p ≤ T.length) : ((s3 T p).1 = 0 ∨ (s3 T p).1 = 1) ∧ (0 ≤ (s3 T p).2 ∧ (s3 T p).2 ≤ T.length) ∧ ((s3 T p).1 = 0 → (s2 T p).1 = 0) := by
  have hv := s2_in h0 h1
  unfold s3
  split
  · rename_i e
    have := pE_in (p := (s2 T p).2.1) hv.2.1.1 hv.2.1.2
    exact ⟨this.1, this.2, fun _ => e⟩
  · exact ⟨hv.1, hv.2.1, fun z => z⟩
theorem gd_r {f : Int → Int} {n p : Int} (h : ∀ k, 0 ≤ k → k < n → 0 ≤ f k ∧ f k ≤ 127) : rI ((rg f n).getD p.toNat (-1)) := by
  have e := rg_getD f (n := n) (k := (p.toNat : Int)) (-1) (by omega)
  rw [Int.toNat_natCast] at e
  rw [e]
  split
  · have := h (p.toNat : Int) (by omega) (by omega); omega
  · omega
theorem gd_lt {f : Int → Int} {n p : Int} (h : ∀ k, 0 ≤ k → k < n → 0 ≤ f k ∧ f k ≤ 127) (hp : 0 ≤ p) : 0 ≤ (rg f n).getD p.toNat (-1) ↔ p < n := by
  rw [rg_getD f (-1) hp]
  split
  · rename_i e; have := h p hp e; exact ⟨fun _ => e, fun _ => this.1⟩
  · rename_i e; exact ⟨fun z => by omega, fun z => absurd z e⟩
theorem pA_s (T : List Int) (k : Nat) (p : Int) (acc : List Or3) : pA T (k + 1) p acc = if (s3 T p).1 = 0 then (if nb T (s3 T p).2 < T.length then pA T k (nb T (s3 T p).2) (acc ++ [oR T p]) else (-1, acc ++ [oR T p])) else ((s3 T p).2, []) := rfl
