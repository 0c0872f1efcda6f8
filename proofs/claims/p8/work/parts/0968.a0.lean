/-! WHAT CLASS AND REFERENCE SHARE: the tape, its length, the keys -/
theorem hxC.post {d k : Nat} {e : hc_M} {as : List Value} {A : hs_A} {P P' : Option Value → hs_A → Prop} (w : hxC d k e as A P) (hP : ∀ r A', P r A' → P' r A') : hxC d k e as A P' := fun h hR => by
  obtain ⟨F, r, h', hc, A', hR', hp⟩ := w h hR
  exact ⟨F, r, h', hc, A', hR', hP r A' hp⟩
def hbyte (x : Int32) : Prop := -128 ≤ x.toInt ∧ x.toInt ≤ 127
def hTape (n : Int) (A : hs_A) : Prop := ∀ i : Nat, (i : Int) < n → A.2.1 1 i = A.2.1 368 i ∧ hbyte (A.2.1 1 i)
def hI0 (A : hs_A) : Prop := (A.1 0 1).toInt = (A.1 367 2).toInt ∧ hcU A ∧ hTape (A.1 0 1).toInt A
theorem hI0.fr {A A' : hs_A} (h : hI0 A) (w : hRT 0 A A') : hI0 A' := by
  obtain ⟨h1, h2, h3⟩ := h
  have e1 := w.1 0 1 (by rfl)
  have e3 := w.1 367 2 (by rfl)
  refine ⟨by rw [e1, e3]; exact h1, h2.fr (by rw [w.2.2.1 rfl]), fun i hi => ?_⟩
  rw [e1] at hi
  rw [w.2.1 1 (by rfl) i, w.2.1 368 (by rfl) i]
  exact h3 i hi
theorem hs_vis.t1 {A A' : hs_A} {j : Nat} (h : hs_vis A A') (hj : j < 2000) : A'.2.1 1 j = A.2.1 1 j := h.a (i := 1) (t := 0) (m := 2000) (by rfl) hj
theorem hs_vis.t2 {A A' : hs_A} {j : Nat} (h : hs_vis A A') (hj : j < 2000) : A'.2.1 368 j = A.2.1 368 j := h.a (i := 368) (t := 0) (m := 2000) (by rfl) hj
theorem hfw_al {f g : Nat → Int32} {n : Nat} {w : Int32} (h : ∀ i, i < n → f i = g i ∧ hbyte (f i)) : ∀ i, i < n + 4 → hfw f n w 4 i = hfw g n w 4 i ∧ hbyte (hfw f n w 4 i) := by
  intro i hi
  unfold hfw
  by_cases c : n ≤ i ∧ i < n + 4
  · rw [if_pos c, if_pos c]
    exact ⟨rfl, hvb_rng _⟩
  · rw [if_neg c, if_neg c]
    exact h i (by omega)
theorem hf5_al {f g : Nat → Int32} {n m : Nat} {a b c d e : Int32} (h : ∀ i, i < n → f i = g i ∧ hbyte (f i)) (hm : n ≤ 1980 ∧ m = n + 20 ∨ ¬ n ≤ 1980 ∧ m = n) : ∀ i, i < m → hf5 f n a b c d e i = hf5 g n a b c d e i ∧ hbyte (hf5 f n a b c d e i) := by
  intro i hi
  unfold hf5
  rcases hm with ⟨q, rfl⟩ | ⟨q, rfl⟩
  · rw [if_pos q, if_pos q]
    exact hfw_al (hfw_al (hfw_al (hfw_al (hfw_al h)))) i hi
  · rw [if_neg q, if_neg q]
    exact h i hi
