theorem hi8 {x : Int32} (h0 : -128 ≤ x.toInt) (h1 : x.toInt ≤ 127) : x.toInt8.toInt32 = x := by
  have key : ∀ j : Fin 256, (Int32.ofInt ((j.1 : Int) - 128)).toInt8.toInt32 = Int32.ofInt ((j.1 : Int) - 128) := by decide +kernel
  have := key ⟨(x.toInt + 128).toNat, by omega⟩
  dsimp only at this
  rw [show (((x.toInt + 128).toNat : Nat) : Int) - 128 = x.toInt by omega, Int32.ofInt_toInt] at this
  exact this
def hmPo (A A' : hs_A) : Prop := A'.1 = A.1 ∧ (∀ i, 370 ≤ i ∧ i ≤ 372 → A'.2.1 i = A.2.1 i) ∧ A'.2.2 = A.2.2
theorem hmPo.a {A A1 A' : hs_A} {i0 k : Nat} {x : Int32} (h : hmPo A A1) (e : A'.1 = A1.1) (f : A'.2.1 = hs_up A1.2.1 i0 k x) (g : A'.2.2 = A1.2.2) (hi0 : 373 ≤ i0) : hmPo A A' := ⟨e.trans h.1, fun i hi => by
  rw [f, ← h.2.1 i hi]
  funext j
  exact hup2 (fun q => by omega), g.trans h.2.2⟩
theorem hmPo.rfl {A : hs_A} : hmPo A A := ⟨Eq.refl _, fun _ _ => Eq.refl _, Eq.refl _⟩
theorem hzk {A1 A' : hs_A} {c i0 k j : Nat} {x : Int32} (h : (A1.2.1 c j).toInt = 0) (f : A'.2.1 = hs_up A1.2.1 i0 k x) (hne : ¬ c = i0) : (A'.2.1 c j).toInt = 0 := by
  rw [f, hup2 (fun q => hne q.1)]
  exact h
/-- the reference at a reading's start -/
theorem hm_init {K V S : Nat → Int} {E : Nat → Nat → Bool} {sd : Nat} {A3 A4 A5 A6 A7 A8 A9 B0 B1 B2 : hs_A} {y : Int32} {x1 x2 : Int32} (hsd : sd ≤ 1) (TE : hmT K V S A3 ∧ hmE K E A3) (e4 : A4.1 = hs_up A3.1 367 11 (Int32.ofNat 0)) (f4 : A4.2 = A3.2) (e5 : A5.1 = hs_up A4.1 367 12 (Int32.ofNat 0)) (f5 : A5.2 = A4.2) (e6 : A6.1 = hs_up A5.1 367 13 (Int32.ofNat 0)) (f6 : A6.2 = A5.2) (e7 : A7.1 = hs_up A6.1 367 15 (Int32.ofNat 0)) (f7 : A7.2 = A6.2) (e8 : A8.1 = hs_up A7.1 367 19 y) (f8 : A8.2 = A7.2) (hy : y.toInt = (sd : Int)) (e9 : A9.1 = hs_up A8.1 367 20 (Int32.ofNat 0)) (f9 : A9.2 = A8.2) (hP : hmPo A9 B0) (z1 : (B0.2.1 376 sd).toInt = 0) (z2 : (B0.2.1 379 sd).toInt = 0) (g1 : B1.1 = hs_up B0.1 367 31 x1) (h1 : B1.2 = B0.2) (g2 : B2.1 = hs_up B1.1 367 37 x2) (h2 : B2.2 = B1.2) : hmB K V S E B2 0 (0, 0, 0, 0, [], 0, 0, none) ∧ hmR S B2 0 [] 0 none sd 0 := by
  have ef : A9.2 = A3.2 := by rw [f9, f8, f7, f6, f5, f4]
  have ar : ∀ i, 370 ≤ i ∧ i ≤ 372 → B2.2.1 i = A3.2.1 i := fun i hi => by rw [h2, h1, hP.2.1 i hi, ef]
  have lg : B2.2.2 = A3.2.2 := by rw [h2, h1, hP.2.2, ef]
  have fd : ∀ k, ¬ k = 31 → ¬ k = 37 → B2.1 367 k = A9.1 367 k := fun k k1 k2 => by rw [g2, hup2 (by omega), g1, hup2 (by omega), hP.1]
  refine ⟨⟨⟨fun j j1 j2 => ?_, fun u t u1 u2 u3 u4 u5 u6 => ?_, TE.2.2.fr (by rw [lg])⟩, ?_, Eq.refl _, ?_⟩, ?_, hsd, ?_, ?_, ?_, ?_, trivial, ?_⟩
  · rw [ar 370 (by omega), ar 371 (by omega), ar 372 (by omega)]
    exact TE.1 j j1 j2
  · rw [lg]
    exact TE.2.1 u t u1 u2 u3 u4 u5 u6
  · rw [fd 11 (by omega) (by omega), e9, hup2 (by omega), e8, hup2 (by omega), e7, hup2 (by omega), e6, hup2 (by omega), e5, hup2 (by omega), e4, hup1]
    exact hk_0
  · rw [fd 13 (by omega) (by omega), e9, hup2 (by omega), e8, hup2 (by omega), e7, hup2 (by omega), e6, hup1]
    exact hk_0
  · rw [fd 19 (by omega) (by omega), e9, hup2 (by omega), e8, hup1]
    exact hy
  · rw [fd 12 (by omega) (by omega), e9, hup2 (by omega), e8, hup2 (by omega), e7, hup2 (by omega), e6, hup2 (by omega), e5, hup1]
    exact hk_0
  · rw [h2, h1]
    exact z1
  · rw [h2, h1]
    exact z2
  · rw [fd 20 (by omega) (by omega), e9, hup1]
    exact hk_0
  · show (B2.1 367 15).toInt = 0
    rw [fd 15 (by omega) (by omega), e9, hup2 (by omega), e8, hup2 (by omega), e7, hup1]
    exact hk_0
theorem hq_res.bad {K V S : Nat → Int} {E : Nat → Nat → Bool} {x y : Int} {b t : Nat} {s : hq_S} (h : hq_q K V E t = some s) (hd : hq_dl K V E t s = .inr 0) (l : hmL S x y b s.2.2.2.2.2.2.2) (hx : 0 < x) : hq_res K V S E x y := by
  refine Or.inr ⟨t, s, h, hd, ?_⟩
  cases ho : s.2.2.2.2.2.2.2 with
  | none =>
    rw [ho] at l
    have l' : x = 0 := l
    omega
  | some c => rw [ho] at l; exact Or.inr ⟨c, rfl, l.1, l.2.1⟩
theorem hq_res.fine {K V S : Nat → Int} {E : Nat → Nat → Bool} {x y : Int} {b t : Nat} {s : hq_S} (h : hq_q K V E t = some s) (hd : hq_dl K V E t s = .inr 0) (l : hmL S x y b s.2.2.2.2.2.2.2) (hx : x ≤ 0) : hq_res K V S E 0 (-1) := by
  refine Or.inr ⟨t, s, h, hd, ?_⟩
  cases ho : s.2.2.2.2.2.2.2 with
  | none => exact Or.inl ⟨rfl, rfl, rfl⟩
  | some c => rw [ho] at l; exact absurd l.2.2.1 (by have := l.1; omega)
