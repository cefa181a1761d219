/-! ===== the worlds: what the objects hold ===== -/
/-- a Book: numbers words scores meanings uses lasts, count given kind slip -/
abbrev Bk : Type := (Int → Int) × (Int → Int) × (Int → Int) × (Int → Int) × (Int → Int) × (Int → Int) × Int × Int × Int × Int
def bkW (a : Nat → Nat) : Bk → Wd
  | (nu, wo, sc, me, us, la, ct, gv, kd, sl) => [(a 0, cO 0 [vP (a 1), vP (a 2), vP (a 3), vP (a 4), vP (a 5), vP (a 6), vI ct, vI gv, vI kd, vI sl]), (a 1, cA 40 nu), (a 2, cL 40 wo), (a 3, cA 40 sc), (a 4, cA 40 me), (a 5, cA 40 us), (a 6, cA 40 la)]
/-- a Listing: slots ranks, count -/
abbrev Li : Type := (Int → Int) × (Int → Int) × Int
def liW (a : Nat → Nat) : Li → Wd
  | (so, ra, lc) => [(a 0, cO 1 [vP (a 1), vP (a 2), vI lc]), (a 1, cA 40 so), (a 2, cA 40 ra)]
/-- Orders: bytes, verbs, words, firsts, seconds; length, count, place, fault -/
abbrev Od : Type := (Int → Int) × (Int → Int) × (Int → Int) × (Int → Int) × (Int → Int) × Int × Int × Int × Int
def odW (a : Nat → Nat) : Od → Wd
  | (by_, ve, ow, fi, se, le, oc, pl, fa) => [(a 0, cO 2 [vP (a 1), vI le, vP (a 2), vP (a 3), vP (a 4), vP (a 5), vI oc, vI pl, vI fa]), (a 1, cA 120 by_), (a 2, cA 24 ve), (a 3, cL 24 ow), (a 4, cA 24 fi), (a 5, cA 24 se)]
/-- Past's own cells: next, count; the books' first cells are h -/
def paW (a : Nat → Nat) (h : Int → Nat → Nat) : Int × Int → Wd
  | (nx, pc) => [(a 0, cO 3 [vP (a 1), vI nx, vI pc]), (a 1, cR 12 (fun i => some (h i 0)))]
/-- the object itself: typed clock bads noes fulls; its book, past, listing, orders -/
def boW (a b p li o : Nat → Nat) : Int × Int × Int × Int × Int → Wd
  | (td, ck, ba, no, fu) => [(a 0, cO 4 [vP (b 0), vP (p 0), vP (li 0), vP (o 0), vJ td, vI ck, vI ba, vI no, vI fu])]
/-- the reference's object -/
abbrev Md : Type := (Int → Int) × (Int → Int) × Int × Int × (Int → Int) × Int × (Int → Int) × Int × (Int → Int) × Int × (Int → Int) × (Int → Int) × Int × Int × (Int → Int) × Int × (Int → Int) × Int
def mdW (a : Nat → Nat) : Md → Wd
  | (st, bk, un, ck, ty, tm, tx, ln, rf, dg, dn, rk, pl, iw, wd, wm, od, oc) => [(a 0, cO 5 [vP (a 1), vP (a 2), vI un, vI ck, vP (a 3), vI tm, vP (a 4), vI ln, vP (a 5), vJ dg, vP (a 6), vP (a 7), vI pl, vI iw, vP (a 8), vI wm, vP (a 9), vI oc]), (a 1, cA 2803 st), (a 2, cA 33636 bk), (a 3, cA 12 ty), (a 4, cA 120 tx), (a 5, cA 3 rf), (a 6, cA 8 dn), (a 7, cA 200 rk), (a 8, cA 8 wd), (a 9, cA 480 od)]
