def dgJ (y : Ph) (h : Int) : Nat → Int
  | 0 => h
  | k + 1 => mx (dgJ y h k) (ofP y k)
theorem dgJ_s (y : Ph) (h : Int) {k : Int} (h0 : 0 ≤ k) : dgJ y h (k + 1).toNat = mx (dgJ y h k.toNat) (ofP y k) := by
  rw [show (k + 1).toNat = k.toNat + 1 by omega]
  simp only [dgJ]
  rw [Int.toNat_of_nonneg h0]
theorem tldC_in {N : Int} {nu wo sc me us la : Int → Int} {ct gv kd sl : Int} {Bs : Int → Bk} {nx pc ck ba no fu : Int} {by_ : Int → Int} {le : Int} {o : Bo} {h : List Bo} {t x : List Int} (hC : okC8 N nu wo sc me us la ct gv kd sl Bs nx pc ck ba no fu by_ le o h t x) (k : Int) : rI (tld k (o, h, t, ck, x, ba, no, fu)) := by
  have h1 := hC.hb.xct
  have h2 := hC.hb.xgv
  have h3 := hC.hb.xkd
  have h4 := hC.hb.xsl
  have h5 := hC.hck
  have h6 := hC.ht.2
  have h7 := hC.hh.2
  have h8 := hC.hx
  have h9 := hC.hrf
  have h0 := hC.hN
  have hl : (x.length : Int) = le := by have := h8.1; rw [h8.2.1, rg_len]; omega
  have hl2 := h8.1
  unfold tld
  simp only
  repeat' split
  all_goals omega
