theorem hQ.cb {s f : Int} {o g e : Nat} {A : hs_A} (h : hQ s f o g e A) (ht : (A.1 367 11).toInt ≤ 400) : 420 * s ≤ (A.1 367 37).toInt ∧ (A.1 367 37).toInt ≤ 420 * s + 400 := by
  have := h.w
  have h3 := h.2.2.1
  have h5 := h.2.2.2.2
  omega
theorem hQ.zero {s f : Int} {o g e : Nat} {A : hs_A} (h : hQ s f o g e A) (hw : (A.1 367 41).toInt ≤ 0) : g = 0 := by
  have h1 := h.1
  have : (A.1 367 41).toInt.toNat = 0 := by omega
  rw [this] at h1
  exact h1.2
theorem hUnit {s f : Int} {o g : Nat} {A A1 A2 : hs_A} {k v : Int32} (hq' : hQ s f o g 0 A) (e37 : (A1.1 367 37).toInt = (A.1 367 37).toInt + 1) (ea : A1.2.1 = hs_up (hs_up A.2.1 390 (A.1 367 37).toNatClampNeg k) 391 (A.1 367 37).toNatClampNeg v) (f37 : (A2.1 367 37).toInt = (A1.1 367 37).toInt) (f41 : (A2.1 367 41).toInt = (A.1 367 41).toInt) (f11 : (A1.1 367 11).toInt = (A.1 367 11).toInt) (f13 : (A1.1 367 13).toInt = (A.1 367 13).toInt) (ae : A2.2.1 = A1.2.1) (pr : (¬ (A2.1 367 13).toInt = 0 ∨ ((A1.1 367 13).toInt = 0 ∧ (A2.1 367 11).toInt = (A1.1 367 11).toInt + 1)) ∧ (A1.1 367 11).toInt ≤ (A2.1 367 11).toInt ∧ (A2.1 367 11).toInt ≤ (A1.1 367 11).toInt + 1) (hk : k.toInt = 0 ∨ (k.toInt = 1 ∧ 0 ≤ v.toInt ∧ v.toInt ≤ 8)) : (¬ (A2.1 367 13).toInt = 0 ∨ ((A.1 367 13).toInt = 0 ∧ (A2.1 367 11).toInt = (A.1 367 11).toInt + 1 ∧ hQ s f o g 1 A2)) ∧ (A.1 367 11).toInt ≤ (A2.1 367 11).toInt ∧ (A.1 367 37).toInt ≤ (A2.1 367 37).toInt ∧ (A2.1 367 37).toInt ≤ (A.1 367 37).toInt + 1 ∧ hK (A.1 367 37).toInt.toNat A A2 ∧ A2.2.1 392 = A.2.1 392 := by
  have hc0 := hq'.2.2.1
  have hem := hK.em (n := (A.1 367 37).toInt.toNat) (c := A.1 367 37) (ae.trans ea) (by omega) (by omega)
  refine ⟨?_, by omega, by omega, by omega, hem.1, hem.2⟩
  rcases pr.1 with p | p
  · exact Or.inl p
  · exact Or.inr ⟨by omega, by omega, hq'.unit rfl (ae.trans ea) (by omega) f41 (by omega) hk⟩
theorem hUnitF {s f : Int} {o g : Nat} {A A2 : hs_A} (f37 : (A2.1 367 37).toInt = (A.1 367 37).toInt) (ae : A2.2.1 = A.2.1) (pr : ¬ (A2.1 367 13).toInt = 0 ∧ (A2.1 367 11).toInt = (A.1 367 11).toInt) : (¬ (A2.1 367 13).toInt = 0 ∨ ((A.1 367 13).toInt = 0 ∧ (A2.1 367 11).toInt = (A.1 367 11).toInt + 1 ∧ hQ s f o g 1 A2)) ∧ (A.1 367 11).toInt ≤ (A2.1 367 11).toInt ∧ (A.1 367 37).toInt ≤ (A2.1 367 37).toInt ∧ (A2.1 367 37).toInt ≤ (A.1 367 37).toInt + 1 ∧ hK (A.1 367 37).toInt.toNat A A2 ∧ A2.2.1 392 = A.2.1 392 := ⟨Or.inl pr.1, by omega, by omega, by omega, hK.eq ae, by rw [ae]⟩
theorem hOp {s f : Int} {o g g' : Nat} {W0 W1 W2 : hs_A} {x k v : Int32} (hq' : hQ s f o g 1 W0) (e1 : W1.1 = hs_up W0.1 367 41 x) (f1 : W1.2 = W0.2) (hx : x.toInt = (W0.1 367 41).toInt - 1) (ea : W2.2.1 = hs_up (hs_up W1.2.1 390 (W1.1 367 37).toNatClampNeg k) 391 (W1.1 367 37).toNatClampNeg v) (e37 : (W2.1 367 37).toInt = (W1.1 367 37).toInt + 1) (f41 : W2.1 367 41 = W1.1 367 41) (f11 : W2.1 367 11 = W1.1 367 11) (hk : 2 ≤ k.toInt ∧ k.toInt ≤ 5) (hw : 0 < (W0.1 367 41).toInt) (hn : hN (W0.2.1 392) ((W0.1 367 41).toInt - 1).toNat o g') : hQ s f o g' 1 W2 ∧ hK (W0.1 367 37).toInt.toNat W0 W2 ∧ W2.2.1 392 = W0.2.1 392 ∧ (W2.1 367 37).toInt = (W0.1 367 37).toInt + 1 ∧ (W2.1 367 41).toInt = (W0.1 367 41).toInt - 1 := by
  have a37 : W1.1 367 37 = W0.1 367 37 := by rw [e1, hup2 (by omega)]
  have a11 : W1.1 367 11 = W0.1 367 11 := by rw [e1, hup2 (by omega)]
  have a41 : W1.1 367 41 = x := by rw [e1, hup1]
  have hc0 := hq'.2.2.1
  rw [f1, a37] at ea
  rw [a37] at e37
  have b41 : (W2.1 367 41).toInt = (W0.1 367 41).toInt - 1 := by rw [f41, a41]; exact hx
  have hem := hK.em (n := (W0.1 367 37).toInt.toNat) (c := W0.1 367 37) ea (by omega) (by omega)
  exact ⟨hq'.op rfl ea e37 b41 (by rw [f11, a11]) hk hw hn, hem.1, hem.2, e37, b41⟩
