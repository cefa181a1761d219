theorem rpK_ct {U : Int} {B : Bk} {o : Bo} (h : rpK U B o) : 0 ≤ B.2.2.2.2.2.2.1 ∧ B.2.2.2.2.2.2.1 ≤ 40 := by
  obtain ⟨nu, wo, sc, me, us, la, ct, gv, kd, sl⟩ := B
  exact (rpB.xct h).1
