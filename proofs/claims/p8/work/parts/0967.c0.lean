/-! WHAT A READING ANSWERS -/
def hq_res (K V S : Nat → Int) (E : Nat → Nat → Bool) (x y : Int) : Prop := (∃ t k : Nat, hq_f K V E t k ∧ k ≠ 0 ∧ x = (k : Int) ∧ y = S t) ∨ (∃ (t : Nat) (s : hq_S), hq_q K V E t = some s ∧ hq_dl K V E t s = .inr 0 ∧ ((s.2.2.2.2.2.2.2 = none ∧ x = 0 ∧ y = -1) ∨ ∃ c, s.2.2.2.2.2.2.2 = some c ∧ x = (c.1 : Int) ∧ y = S c.2))
theorem hq_res_one {K V S : Nat → Int} {E : Nat → Nat → Bool} {x y x' y' : Int} (h : hq_res K V S E x y) (h' : hq_res K V S E x' y') : x = x' ∧ y = y' := by
  rcases h with ⟨t, k, a, b, c, d⟩ | ⟨t, s, a, b, c⟩
  · rcases h' with ⟨t', k', a', b', c', d'⟩ | ⟨t', s', a', b', c'⟩
    · obtain ⟨rfl, rfl⟩ := hq_f_one K V E a a'
      exact ⟨c.trans c'.symm, d.trans d'.symm⟩
    · obtain ⟨-, q⟩ := hq_f_one K V E a ⟨s', a', b'⟩
      exact absurd q b
  · rcases h' with ⟨t', k', a', b', c', d'⟩ | ⟨t', s', a', b', c'⟩
    · obtain ⟨-, q⟩ := hq_f_one K V E ⟨s, a, b⟩ a'
      exact absurd q.symm b'
    · obtain ⟨rfl, -⟩ := hq_f_one K V E ⟨s, a, b⟩ ⟨s', a', b'⟩
      rw [a] at a'
      cases a'
      rcases c with ⟨c1, c2, c3⟩ | ⟨u, c1, c2, c3⟩
      · rcases c' with ⟨d1, d2, d3⟩ | ⟨u', d1, d2, d3⟩
        · exact ⟨c2.trans d2.symm, c3.trans d3.symm⟩
        · rw [c1] at d1
          cases d1
      · rcases c' with ⟨d1, d2, d3⟩ | ⟨u', d1, d2, d3⟩
        · rw [c1] at d1
          cases d1
        · rw [c1] at d1
          cases d1
          exact ⟨c2.trans d2.symm, c3.trans d3.symm⟩
theorem hq_res.late {K V S : Nat → Int} {E : Nat → Nat → Bool} {x y : Int} {t : Nat} {s : hq_S} (h : hq_q K V E t = some s) (hd : hq_dl K V E t s = .inr 0) (l : hcL S x y s.2.2.2.2.2.2.2) : hq_res K V S E x y := by
  refine Or.inr ⟨t, s, h, hd, ?_⟩
  cases ho : s.2.2.2.2.2.2.2 with
  | none => rw [ho] at l; exact Or.inl ⟨rfl, l⟩
  | some c => rw [ho] at l; exact Or.inr ⟨c, rfl, l.1, l.2.1⟩
def hcZ (T : Nat) (A A' : hs_A) : Prop := (∀ i k, ¬ i = T → ¬ i = T + 4 → A'.1 i k = A.1 i k) ∧ (∀ i, i ≤ T ∨ T + 8 < i → A'.2.1 i = A.2.1 i) ∧ A'.2.2 = A.2.2
section HCZ
variable {T : Nat} {A A1 A' : hs_A}
theorem hcZ.rfl : hcZ T A A := ⟨fun _ _ _ _ => Eq.refl _, fun _ _ => Eq.refl _, Eq.refl _⟩
theorem hcZ.W (h : hcZ T A A1) (w : hcW T A1 A') : hcZ T A A' := ⟨fun i k h1 h2 => (w.1 i k h2).trans (h.1 i k h1 h2), fun i hi => (w.2.1 i (by omega)).trans (h.2.1 i hi), w.2.2.trans h.2.2⟩
theorem hcZ.trans (h : hcZ T A A1) (w : hcZ T A1 A') : hcZ T A A' := ⟨fun i k h1 h2 => (w.1 i k h1 h2).trans (h.1 i k h1 h2), fun i hi => (w.2.1 i hi).trans (h.2.1 i hi), w.2.2.trans h.2.2⟩
theorem hcZ.f {k : Nat} {x : Int32} (h : hcZ T A A1) (e : A'.1 = hs_up A1.1 T k x) (f : A'.2 = A1.2) : hcZ T A A' := ⟨fun i k h1 h2 => by rw [e, hup2 (fun q => h1 q.1)]; exact h.1 i k h1 h2, fun i hi => by rw [f]; exact h.2.1 i hi, by rw [f]; exact h.2.2⟩
theorem hcZ.a {i0 k : Nat} {x : Int32} (h : hcZ T A A1) (e : A'.1 = A1.1) (f : A'.2.1 = hs_up A1.2.1 i0 k x) (g : A'.2.2 = A1.2.2) (hi0 : T + 1 ≤ i0 ∧ i0 ≤ T + 8) : hcZ T A A' := ⟨fun i k h1 h2 => by rw [e]; exact h.1 i k h1 h2, fun i hi => by
  rw [f, ← h.2.1 i hi]
  funext j
  exact hup2 (fun q => by omega), by rw [g]; exact h.2.2⟩
theorem hc_init {K V S : Nat → Int} {E : Nat → Nat → Bool} {A2 A3 A4 A5 A6 A7 A8 : hs_A} {x6 : Int32} (hT9 : T ≤ 11) (hrf : A2.2.2.2 20 2 = T + 1) (h4 : (A2.1 T 4).toInt = 0) (h5 : (A2.1 T 5).toInt = 0) (C : hcC A2 A3) (TE : hcT K V S A3 ∧ hcE K E A3) (e4 : A4.1 = hs_up A3.1 20 3 (Int32.ofNat 0)) (f4 : A4.2 = A3.2) (e5 : A5.1 = hs_up A4.1 20 5 (Int32.ofNat 0)) (f5 : A5.2 = A4.2) (e6 : A6.1 = hs_up A5.1 20 6 x6) (f6 : A6.2 = A5.2) (e7 : A7.1 = hs_up A6.1 20 7 (Int32.ofNat 0)) (f7 : A7.2 = A6.2) (e8 : A8.1 = hs_up A7.1 20 8 (Int32.ofNat 4294967295)) (f8 : A8.2 = A7.2) : hcB K V S E T A8 0 (0, 0, 0, 0, [], 0, 0, none) ∧ hcR S T A8 [] none 0 none := by
  have ef : A8.2 = A3.2 := by rw [f8, f7, f6, f5, f4]
  have far : ∀ i k, ¬ i = 20 → A8.1 i k = A3.1 i k := fun i k hi => by rw [e8, hup2 (by omega), e7, hup2 (by omega), e6, hup2 (by omega), e5, hup2 (by omega), e4, hup2 (by omega)]
  refine ⟨⟨by rw [ef, C.2.2.2]; exact hrf, ⟨TE.1.fr (far 21 3 (by omega)) (by rw [ef]) (by rw [ef]) (by rw [ef]), TE.2.fr (by rw [ef]) (by rw [ef])⟩, ?_, Eq.refl _, ?_⟩, ?_, ?_, trivial, fun u hu => (by cases hu), ?_, ?_⟩
  · rw [e8, hup2 (by omega), e7, hup2 (by omega), e6, hup2 (by omega), e5, hup2 (by omega), e4, hup1]
    exact hk_0
  · rw [e8, hup2 (by omega), e7, hup2 (by omega), e6, hup2 (by omega), e5, hup1]
    exact hk_0
  · rw [far T 4 (by omega), C.1 T 4 (by omega)]
    exact h4
  · rw [far T 5 (by omega), C.1 T 5 (by omega)]
    exact h5
  · rw [e8, hup2 (by omega), e7, hup1]
    exact hk_0
  · rw [e8, hup1]
    exact hk_4294967295
end HCZ
