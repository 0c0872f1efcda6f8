/-! FRAMES STEP BY STEP -/
theorem uf_W.put {M i k : Nat} {x : Int32} {A0 A A' : hs_A} (u : uf_W M A0 A) (e : A'.1 = hs_up A.1 i k x) (f : A'.2 = A.2) (b : Nat.testBit M (ug_o (ug_g i) k) = true) : uf_W M A0 A' := u.trans ⟨fun a c ks j _ _ h => by
    rw [e]
    exact hup2 (fun q => by rw [q.1, q.2, b] at h; cases h), fun _ _ _ _ _ _ _ => by rw [f], fun _ _ _ _ _ _ _ => by rw [f], fun _ _ _ _ _ _ _ => by rw [f]⟩
theorem uf_W.ar {M i k : Nat} {x : Int32} {A0 A A' : hs_A} (u : uf_W M A0 A) (e : A'.1 = A.1) (f : A'.2.1 = hs_up A.2.1 i k x) (g : A'.2.2 = A.2.2) (b : Nat.testBit M (ug_g i) = true) : uf_W M A0 A' := u.trans ⟨fun _ _ _ _ _ _ _ => by rw [e], fun a t m j _ _ h => by
    rw [f]
    exact hup2 (fun q => by rw [q.1, b] at h; cases h), fun _ _ _ _ _ _ _ => by rw [g], fun _ _ _ _ _ _ _ => by rw [g]⟩
theorem uf_W.lar {M i k : Nat} {x : Int64} {A0 A A' : hs_A} (u : uf_W M A0 A) (e : A'.1 = A.1) (f : A'.2.1 = A.2.1) (g : A'.2.2.1 = hs_upL A.2.2.1 i k x) (i4 : A'.2.2.2 = A.2.2.2) (b : Nat.testBit M (ug_g i) = true) : uf_W M A0 A' := u.trans ⟨fun _ _ _ _ _ _ _ => by rw [e], fun _ _ _ _ _ _ _ => by rw [f], fun a t m j _ _ h => by
    rw [g]
    unfold hs_upL
    rw [if_neg (fun q => by rw [q, b] at h; cases h)], fun _ _ _ _ _ _ _ => by rw [i4]⟩
theorem uf_H.e {A A' : hs_A} (h : uf_H A) (e : A'.2.2.2 = A.2.2.2) : uf_H A' := by
  unfold uf_H
  rw [e]
  exact h
theorem uf_lng {x : Int64} {as : List ug_T} {vs : List Value} (h : ug_L as vs) : ug_L (ug_j :: as) (.long x :: vs) := ⟨True.intro, h⟩
