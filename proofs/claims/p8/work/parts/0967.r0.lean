/-! TWO WORLDS OF ONE HEAP -/
section HVIS
variable {A A' : hs_A}
theorem hs_vis.f (h : hs_vis A A') {i k c : Nat} {ks : List Nat} (hs : hc_get hs_sh i = some (3, c, ks)) (hk : hc_nth ks k = some 0) : A'.1 i k = A.1 i k := by
  obtain ⟨hh, h1, h2⟩ := h
  have e := (h1 i _ hs).symm.trans (h2 i _ hs)
  rw [hs_cell3, hs_cell3] at e
  have e2 : hs_fs A i ks = hs_fs A' i ks := by injection e with e; injection e with e; injection e
  have a1 := hs_fs_at (A := A) (i := i) hk
  have a2 := hs_fs_at (A := A') (i := i) hk
  rw [e2, a2] at a1
  have a3 : Value.int (A'.1 i k) = Value.int (A.1 i k) := Option.some.inj a1
  injection a3
theorem hs_vis.a (h : hs_vis A A') {i t m j : Nat} (hs : hc_get hs_sh i = some (0, t, [m])) (hj : j < m) : A'.2.1 i j = A.2.1 i j := by
  obtain ⟨hh, h1, h2⟩ := h
  have e := (h1 i _ hs).symm.trans (h2 i _ hs)
  rw [hs_cell0, hs_cell0] at e
  have e2 : hs_ar A i m = hs_ar A' i m := by injection e with e; injection e with e; injection e
  have a1 := hs_ar_at (A := A) (i := i) hj
  have a2 := hs_ar_at (A := A') (i := i) hj
  rw [e2, a2] at a1
  have a3 : Value.int (A'.2.1 i j) = Value.int (A.2.1 i j) := Option.some.inj a1
  injection a3
theorem hs_vis.l (h : hs_vis A A') {i t m j : Nat} (hs : hc_get hs_sh i = some (1, t, [m])) (hj : j < m) : A'.2.2.1 i j = A.2.2.1 i j := by
  obtain ⟨hh, h1, h2⟩ := h
  have e := (h1 i _ hs).symm.trans (h2 i _ hs)
  rw [hs_cell1, hs_cell1] at e
  have e2 : hs_al A i m = hs_al A' i m := by injection e with e; injection e with e; injection e
  have a1 := hs_al_at (A := A) (i := i) hj
  have a2 := hs_al_at (A := A') (i := i) hj
  rw [e2, a2] at a1
  have a3 : Value.long (A'.2.2.1 i j) = Value.long (A.2.2.1 i j) := Option.some.inj a1
  injection a3
theorem hs_vis.U (h : hs_vis A A') (u : hcU A') : hcU A := fun q hq => by
  rw [← h.l (i := 374) (t := 2) (m := 20) (by rfl) hq]
  exact u q hq
end HVIS
