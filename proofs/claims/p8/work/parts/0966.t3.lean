theorem hsg_neg {c : Int} (h : c < 0) : ht_sg c = 23 := by
  unfold ht_sg
  rw [if_neg (by omega), if_neg (by omega), if_neg (by omega), if_neg (by omega), if_neg (by omega), if_neg (by omega), if_neg (by omega), if_neg (by omega), if_neg (by omega)]
def hcD (B : Nat → Int) (n : Nat) (A : hs_A) (u : Nat) : Prop := (A.2.1 22 u).toInt = ht_K B n u ∧ (A.2.1 24 u).toInt = (ht_S B n u : Int) ∧ (ht_K B n u = 20 → (A.2.2.1 23 u).toInt = ht_g 32 96 (ht_M B n u)) ∧ (ht_K B n u = 21 → (A.2.2.1 23 u).toInt = ht_W B n u)
def hcC (A A' : hs_A) : Prop := (∀ i k, ¬ (i = 21 ∧ k = 3) → A'.1 i k = A.1 i k) ∧ (∀ i, i ≠ 22 → i ≠ 24 → A'.2.1 i = A.2.1 i) ∧ (∀ c, c ≠ 23 → A'.2.2.1 c = A.2.2.1 c) ∧ A'.2.2.2 = A.2.2.2
theorem hcC.rfl {A : hs_A} : hcC A A := ⟨fun _ _ _ => Eq.refl _, fun _ _ _ => Eq.refl _, fun _ _ => Eq.refl _, Eq.refl _⟩
section HCU
variable {B : Nat → Int} {n j p : Nat} {A0 A A1 A2 A3 : hs_A} {x y : Int32}
theorem hcD.more (h : ∀ u, u < j → hcD B n A u) (f1 : A1.2.1 = hs_up A.2.1 24 j x) (g1 : A1.2.2 = A.2.2) (hx : x.toInt = (ht_S B n j : Int)) (G : hcG B n A1 A2 (ht_S B n j) j) (f3 : A3.2 = A2.2) : ∀ u, u < j + 1 → hcD B n A3 u := by
  obtain ⟨k, v, h1, h2, h3, h4, h5, h6, h7⟩ := G
  have ek : A3.2.1 22 j = k := by rw [f3, h2, hup1]
  have ev : A3.2.2.1 23 j = v := by rw [f3, h3, hupL1]
  have es : A3.2.1 24 j = x := by rw [f3, h2, hup2 (by omega), f1, hup1]
  intro u hu
  by_cases q : u = j
  · subst q
    exact ⟨by rw [ek]; exact h5, by rw [es]; exact hx, fun q => by rw [ev]; exact h6 q, fun q => by rw [ev]; exact h7 q⟩
  · obtain ⟨d1, d2, d3, d4⟩ := h u (by omega)
    have e1 : A3.2.1 22 u = A.2.1 22 u := by rw [f3, h2, hup2 (by omega), f1, hup2 (by omega)]
    have e2 : A3.2.1 24 u = A.2.1 24 u := by rw [f3, h2, hup2 (by omega), f1, hup2 (by omega)]
    have e3 : A3.2.2.1 23 u = A.2.2.1 23 u := by rw [f3, h3, hupL2 (by omega), g1]
    exact ⟨by rw [e1]; exact d1, by rw [e2]; exact d2, fun q => by rw [e3]; exact d3 q, fun q => by rw [e3]; exact d4 q⟩
theorem hcC.more (h : hcC A0 A) (e1 : A1.1 = A.1) (f1 : A1.2.1 = hs_up A.2.1 24 j x) (g1 : A1.2.2 = A.2.2) (G : hcG B n A1 A2 p j) (e3 : A3.1 = hs_up A2.1 21 3 y) (f3 : A3.2 = A2.2) : hcC A0 A3 := by
  obtain ⟨k, v, h1, h2, h3, h4, -, -, -⟩ := G
  obtain ⟨c1, c2, c3, c4⟩ := h
  refine ⟨fun i k hi => ?_, fun i hi hi' => ?_, fun c hc => ?_, ?_⟩
  · rw [e3, hup2 hi, h1, e1]
    exact c1 i k hi
  · rw [f3, h2, ← c2 i hi hi']
    funext b
    rw [hup2 (by omega), f1, hup2 (by omega)]
  · rw [f3, h3, ← c3 c hc]
    funext b
    rw [hupL2 (by omega), g1]
  · rw [f3, h4, g1]
    exact c4
theorem hcG.kind (G : hcG B n A1 A2 p j) (f3 : A3.2 = A2.2) : (A3.2.1 22 j).toInt = ht_kind B n p := by
  obtain ⟨k, v, h1, h2, h3, h4, h5, -, -⟩ := G
  rw [f3, h2, hup1]
  exact h5
theorem ht_K20 {u : Nat} (h : ht_K B n u = 20) : ∀ c, c ∈ ht_M B n u → 1 ≤ c - 96 ∧ c - 96 < 27 := by
  obtain ⟨h1, h2, h3⟩ := (ht_kind_rng (B := B) (n := n) (ht_S B n u)).2.2.2.1 h
  intro c hc
  unfold ht_M at hc
  rw [ht_end_le' h1 h2] at hc
  obtain ⟨i, i1, i2, rfl⟩ := ht_rv_mem hc
  have hg : ht_S B n u ≤ ht_run B n ht_le (ht_S B n u) := ht_run_ge B n _
  have := ht_le_iff.mp (ht_run_all (B := B) (n := n) (P := ht_le) i1 (by omega))
  omega
theorem ht_K21 {u : Nat} (h : ht_K B n u = 21) : 0 ≤ ht_W B n u ∧ ht_W B n u < 10000 := by
  obtain ⟨h1, h2, h3, h4⟩ := (ht_kind_rng (B := B) (n := n) (ht_S B n u)).2.2.2.2 h
  have hg : ht_S B n u ≤ ht_run B n ht_di (ht_S B n u) := ht_run_ge B n _
  have hb := ht_g_bd (b := 10) (z := 48) (by omega) (l := ht_M B n u) (fun c hc => by
    unfold ht_M at hc
    rw [ht_end_di h1 h2 h3] at hc
    obtain ⟨i, i1, i2, rfl⟩ := ht_rv_mem hc
    have := ht_di_iff.mp (ht_run_all (B := B) (n := n) (P := ht_di) i1 (by omega))
    omega)
  have hl : (ht_M B n u).length ≤ 4 := by
    unfold ht_M
    rw [ht_rv_len, ht_end_di h1 h2 h3]
    exact h4
  have hp := hpowk (b := 10) (by omega) hl
  unfold ht_W
  omega
theorem h64i {x : Int64} (h0 : 0 ≤ x.toInt) (h1 : x.toInt < 2147483648) : x.toInt32.toInt = x.toInt := by
  rw [Int64.toInt_toInt32]
  exact Int.bmod_eq_of_le (by omega) (by omega)
theorem hcT.of {J : Nat} (hd : ∀ u, u < J → hcD B n A u) (hs : (A.1 21 3).toInt = (J : Int)) (hc : ∀ u, u ≤ 400 → hq_pre (ht_K B n) u → u < J) (hU : hcU A) : hcT (ht_K B n) (ht_W B n) (fun u => (ht_S B n u : Int)) A ∧ hcE (ht_K B n) (ht_E B n) A := by
  constructor
  · intro u h1 h2
    have hu := hc u h1 h2
    obtain ⟨d1, d2, d3, d4⟩ := hd u hu
    refine ⟨d1, d2, by omega, fun q => ?_⟩
    have := ht_K21 q
    rw [h64i (by rw [d4 q]; omega) (by rw [d4 q]; omega)]
    exact d4 q
  · refine ⟨?_, hU⟩
    intro u t h1 h2 h3 h4 h5 h6
    obtain ⟨-, -, du, -⟩ := hd u (hc u h1 h3)
    obtain ⟨-, -, dt, -⟩ := hd t (hc t h2 h4)
    unfold ht_E
    rw [decide_eq_true_iff]
    constructor
    · intro q
      refine ht_g_inj (b := 32) (z := 96) (by omega) (fun c hc => by have := ht_K20 h5 c hc; omega) (fun c hc => by have := ht_K20 h6 c hc; omega) ?_
      rw [← du h5, ← dt h6, q]
    · intro q
      apply Int64.toInt_inj.mp
      rw [du h5, dt h6, q]
end HCU
