/-! THE AUTOMATON'S OWN FACTS -/
def hq_pre (K : Nat → Int) (j : Nat) : Prop := ∀ i, i < j → K i ≠ 22 ∧ K i ≠ 23
section HQI
variable {K V : Nat → Int} {E : Nat → Nat → Bool}
theorem hq_go_inl {t : Nat} {s s' : hq_S} (h : hq_go t s = .inl s') : t < 400 ∧ s' = s := by
  unfold hq_go at h
  split at h
  · cases h; exact ⟨by assumption, rfl⟩
  · cases h
theorem hq_must_inl {k : Int} {t : Nat} {s s' : hq_S} (h : hq_must K k t s = .inl s') : K t = k ∧ t < 400 ∧ s' = s := by
  unfold hq_must at h
  split at h
  · exact ⟨by assumption, hq_go_inl h⟩
  · cases h
theorem hq_unit_inl {t ifs ctx dp : Nat} {r : List Nat × Nat × Nat × Option (Nat × Nat)} {s' : hq_S} (h : hq_unit K t ifs ctx dp r = .inl s') : (K t = 21 ∨ (11 ≤ K t ∧ K t ≤ 19) ∨ K t = 31) ∧ s'.2.2.2.2 = r ∧ (s'.1 = 15 ∨ s'.1 = 14) := by
  unfold hq_unit at h
  split at h
  next q =>
    obtain ⟨-, rfl⟩ := hq_go_inl h
    exact ⟨by omega, rfl, Or.inl rfl⟩
  · split at h
    · split at h
      · obtain ⟨-, rfl⟩ := hq_go_inl h
        exact ⟨by omega, rfl, Or.inr rfl⟩
      · cases h
    · cases h
theorem hq_out_inl {t ifs ctx : Nat} {r : List Nat × Nat × Nat × Option (Nat × Nat)} {s' : hq_S} (h : hq_out K t ifs ctx r = .inl s') : (K t = 30 ∨ K t = 9 ∨ K t = 10 ∨ K t = 24) ∧ s'.2.2.2.2 = r ∧ (s'.1 = 14 ∨ s'.1 = 13 ∨ s'.1 = 0) := by
  unfold hq_out at h
  split at h
  all_goals
    obtain ⟨q, -, rfl⟩ := hq_must_inl h
    exact ⟨by omega, rfl, by dsimp only; omega⟩
/-- what a state keeps -/
def hq_I (K : Nat → Int) (t : Nat) (s : hq_S) : Prop := (∀ u, u ∈ s.2.2.2.2.1 → u < t ∧ K u = 20) ∧ ((s.1 = 2 ∨ s.1 = 3 ∨ s.1 = 4) → s.2.2.2.2.2.1 < t ∧ K s.2.2.2.2.2.1 = 20) ∧ s.2.2.2.2.1.length ≤ 10 ∧ (1 ≤ s.1 ∧ s.1 ≤ 4 → s.2.2.2.2.1.length < 10) ∧ s.1 ≤ 15
theorem hq_I.keep {t : Nat} {s s' : hq_S} (h : hq_I K t s) (e : s'.2.2.2.2.1 = s.2.2.2.2.1) (h1 : (s'.1 = 2 ∨ s'.1 = 3 ∨ s'.1 = 4) → s'.2.2.2.2.2.1 < t + 1 ∧ K s'.2.2.2.2.2.1 = 20) (h2 : 1 ≤ s'.1 ∧ s'.1 ≤ 4 → s.2.2.2.2.1.length < 10) (h3 : s'.1 ≤ 15) : hq_I K (t + 1) s' := by
  obtain ⟨a, b, c, d, -⟩ := h
  refine ⟨fun u hu => ?_, h1, by rw [e]; exact c, fun q => by rw [e]; exact h2 q, h3⟩
  rw [e] at hu
  have := a u hu
  exact ⟨by omega, this.2⟩
theorem hq_dl_I {t : Nat} {s s' : hq_S} (h : hq_I K t s) (hd : hq_dl K V E t s = .inl s') : hq_I K (t + 1) s' ∧ K t ≠ 22 ∧ K t ≠ 23 := by
  unfold hq_dl at hd
  split at hd
  · split at hd
    · cases hd
    · split at hd
      · split at hd
        · obtain ⟨-, rfl⟩ := hq_go_inl hd
          exact ⟨h.keep rfl (by dsimp only; omega) (by dsimp only; omega) (by dsimp only; omega), by omega, by omega⟩
        · cases hd
      · split at hd
        · split at hd
          · obtain ⟨-, rfl⟩ := hq_go_inl hd
            exact ⟨h.keep rfl (by dsimp only; omega) (by dsimp only; omega) (by dsimp only; omega), by omega, by omega⟩
          · cases hd
        · split at hd
          · obtain ⟨-, rfl⟩ := hq_go_inl hd
            exact ⟨h.keep rfl (by dsimp only; omega) (by dsimp only; omega) (by dsimp only; omega), by omega, by omega⟩
          · split at hd
            · obtain ⟨-, rfl⟩ := hq_go_inl hd
              exact ⟨h.keep rfl (by dsimp only; omega) (by dsimp only; omega) (by dsimp only; omega), by omega, by omega⟩
            · split at hd
              · obtain ⟨-, rfl⟩ := hq_go_inl hd
                exact ⟨h.keep rfl (by dsimp only; omega) (by dsimp only; omega) (by dsimp only; omega), by omega, by omega⟩
              · cases hd
  · obtain ⟨q, -, rfl⟩ := hq_must_inl hd
    exact ⟨h.keep rfl (fun _ => ⟨Nat.lt_succ_self t, q⟩) (fun _ => h.2.2.2.1 (by dsimp only; omega)) (by dsimp only; omega), by omega, by omega⟩
  · obtain ⟨q, -, rfl⟩ := hq_must_inl hd
    have := h.2.1 (Or.inl rfl)
    exact ⟨h.keep rfl (fun _ => ⟨Nat.lt_succ_of_lt this.1, this.2⟩) (fun _ => h.2.2.2.1 (by dsimp only; omega)) (by dsimp only; omega), by omega, by omega⟩
  · obtain ⟨q, -, rfl⟩ := hq_must_inl hd
    have := h.2.1 (Or.inr (Or.inl rfl))
    exact ⟨h.keep rfl (fun _ => ⟨Nat.lt_succ_of_lt this.1, this.2⟩) (fun _ => h.2.2.2.1 (by dsimp only; omega)) (by dsimp only; omega), by omega, by omega⟩
  · obtain ⟨q, -, rfl⟩ := hq_must_inl hd
    have h1 := h.2.1 (Or.inr (Or.inr rfl))
    have h2 := h.2.2.2.1 (by dsimp only; omega)
    refine ⟨⟨fun u hu => ?_, by dsimp only; omega, h2, by dsimp only; omega, by dsimp only; omega⟩, by omega, by omega⟩
    rcases List.mem_cons.mp hu with rfl | hu
    · exact ⟨Nat.lt_succ_of_lt h1.1, h1.2⟩
    · have := h.1 u hu
      exact ⟨Nat.lt_succ_of_lt this.1, this.2⟩
  · obtain ⟨q, -, rfl⟩ := hq_must_inl hd
    exact ⟨h.keep rfl (by dsimp only; omega) (by dsimp only; omega) (by dsimp only; omega), by omega, by omega⟩
  · obtain ⟨q, -, rfl⟩ := hq_must_inl hd
    exact ⟨h.keep rfl (by dsimp only; omega) (by dsimp only; omega) (by dsimp only; omega), by omega, by omega⟩
  · obtain ⟨q, -, rfl⟩ := hq_must_inl hd
    exact ⟨h.keep rfl (by dsimp only; omega) (by dsimp only; omega) (by dsimp only; omega), by omega, by omega⟩
  · obtain ⟨q, -, rfl⟩ := hq_must_inl hd
    exact ⟨h.keep rfl (by dsimp only; omega) (by dsimp only; omega) (by dsimp only; omega), by omega, by omega⟩
  · obtain ⟨q, -, rfl⟩ := hq_must_inl hd
    exact ⟨h.keep rfl (by dsimp only; omega) (by dsimp only; omega) (by dsimp only; omega), by omega, by omega⟩
  · obtain ⟨q, -, rfl⟩ := hq_must_inl hd
    exact ⟨h.keep rfl (by dsimp only; omega) (by dsimp only; omega) (by dsimp only; omega), by omega, by omega⟩
  · obtain ⟨q, -, rfl⟩ := hq_must_inl hd
    exact ⟨h.keep rfl (by dsimp only; omega) (by dsimp only; omega) (by dsimp only; omega), by omega, by omega⟩
  · obtain ⟨q, -, rfl⟩ := hq_must_inl hd
    exact ⟨h.keep rfl (by dsimp only; omega) (by dsimp only; omega) (by dsimp only; omega), by omega, by omega⟩
  · split at hd
    · split at hd
      · obtain ⟨-, rfl⟩ := hq_go_inl hd
        exact ⟨h.keep rfl (by dsimp only; omega) (by dsimp only; omega) (by dsimp only; omega), by omega, by omega⟩
      · cases hd
    · obtain ⟨q, e, p⟩ := hq_unit_inl hd
      exact ⟨h.keep (by rw [e]) (by omega) (by omega) (by omega), by omega, by omega⟩
  · obtain ⟨q, e, p⟩ := hq_unit_inl hd
    exact ⟨h.keep (by rw [e]) (by omega) (by omega) (by omega), by omega, by omega⟩
  · split at hd
    · obtain ⟨-, rfl⟩ := hq_go_inl hd
      exact ⟨h.keep rfl (by dsimp only; omega) (by dsimp only; omega) (by dsimp only; omega), by omega, by omega⟩
    · split at hd
      · obtain ⟨q, e, p⟩ := hq_out_inl hd
        exact ⟨h.keep (by rw [e]) (by omega) (by omega) (by omega), by omega, by omega⟩
      · obtain ⟨q, -, rfl⟩ := hq_must_inl hd
        exact ⟨h.keep rfl (by dsimp only; omega) (by dsimp only; omega) (by dsimp only; omega), by omega, by omega⟩
theorem hq_q_inv : ∀ {t : Nat} {s : hq_S}, hq_q K V E t = some s → hq_I K t s ∧ hq_pre K t
  | 0, s, h => by
    cases h
    exact ⟨⟨fun u hu => absurd hu List.not_mem_nil, (by intro q; exact absurd q (by dsimp only; omega)), Nat.zero_le _, (by intro q; exact absurd q (by dsimp only; omega)), Nat.zero_le _⟩, fun i hi => absurd hi (Nat.not_lt_zero i)⟩
  | t + 1, s, h => by
    have h' : (match hq_q K V E t with
      | none => none
      | some s => match hq_dl K V E t s with
        | .inl s' => some s'
        | .inr _ => none) = some s := h
    split at h'
    · cases h'
    next s1 hs1 =>
      split at h'
      next s2 hd =>
        cases h'
        obtain ⟨h1, h2⟩ := hq_q_inv hs1
        obtain ⟨h3, h4⟩ := hq_dl_I h1 hd
        refine ⟨h3, fun i hi => ?_⟩
        by_cases q : i = t
        · subst q; exact h4
        · exact h2 i (by omega)
      · cases h'
end HQI
/-! THE CLASS'S READER against the automaton: K, V, S kinds, ints, places of the tokens, E the same name -/
def hky (q : Nat) : Int64 := Int64.ofNat (([4562600, 10206127, 5948362, 11055682, 173143, 85447, 4081083, 377761, 249, 399641, 107681, 90090, 168984, 2968, 316163, 12253591, 923, 8536420, 257011, 5863] : List Nat).getD q 0)
/-- the reference's keys stand as they were made -/
def hcU (A : hs_A) : Prop := ∀ q, q < 20 → A.2.2.1 374 q = hky q
theorem hcU.fr {A A' : hs_A} (h : hcU A) (e : A'.2.2.1 374 = A.2.2.1 374) : hcU A' := fun q hq => by rw [e]; exact h q hq
def hcT (K V S : Nat → Int) (A : hs_A) : Prop := ∀ j : Nat, j ≤ 400 → hq_pre K j → (A.2.1 22 j).toInt = K j ∧ (A.2.1 24 j).toInt = S j ∧ (j : Int) < (A.1 21 3).toInt ∧ (K j = 21 → (A.2.2.1 23 j).toInt32.toInt = V j)
def hcE (K : Nat → Int) (E : Nat → Nat → Bool) (A : hs_A) : Prop := (∀ u t : Nat, u ≤ 400 → t ≤ 400 → hq_pre K u → hq_pre K t → K u = 20 → K t = 20 → (A.2.2.1 23 u = A.2.2.1 23 t ↔ E u t = true)) ∧ hcU A
def hcB (K V S : Nat → Int) (E : Nat → Nat → Bool) (T : Nat) (A : hs_A) (t : Nat) (s : hq_S) : Prop := A.2.2.2 20 2 = T + 1 ∧ (hcT K V S A ∧ hcE K E A) ∧ (A.1 20 3).toInt = (t : Int) ∧ hq_q K V E t = some s ∧ (A.1 20 5).toInt = 0
def hcN (A : hs_A) : List Nat → Prop
  | [] => True
  | u :: r => A.2.2.1 25 r.length = A.2.2.1 23 u ∧ hcN A r
def hcL (S : Nat → Int) (x y : Int) : Option (Nat × Nat) → Prop
  | none => x = 0 ∧ y = -1
  | some c => x = c.1 ∧ y = S c.2 ∧ c.1 ≠ 0
def hcR (S : Nat → Int) (T : Nat) (A : hs_A) (ns : List Nat) (p : Option Nat) (sn : Nat) (o : Option (Nat × Nat)) : Prop := (A.1 T 4).toInt = (ns.length : Int) ∧ (A.1 T 5).toInt = (sn : Int) ∧ hcN A ns ∧ (∀ u, p = some u → A.2.2.1 25 ns.length = A.2.2.1 23 u) ∧ hcL S (A.1 20 7).toInt (A.1 20 8).toInt o
def hcF (K V S : Nat → Int) (E : Nat → Nat → Bool) (T : Nat) (A : hs_A) : Prop := A.2.2.2 20 2 = T + 1 ∧ hcU A ∧ ∃ t k : Nat, hq_f K V E t k ∧ k ≠ 0 ∧ (A.1 20 5).toInt = (k : Int) ∧ (A.1 20 6).toInt = S t
/-- what the laws' rows may change -/
def hcW (T : Nat) (A A' : hs_A) : Prop := (∀ i k, ¬ i = T + 4 → A'.1 i k = A.1 i k) ∧ (∀ i, i < T + 5 ∨ T + 8 < i → A'.2.1 i = A.2.1 i) ∧ A'.2.2 = A.2.2
section HCP
variable {K V S : Nat → Int} {E : Nat → Nat → Bool} {T : Nat} {A A' : hs_A} {s s' : hq_S} {ns : List Nat} {p : Option Nat} {sn : Nat} {o : Option (Nat × Nat)} {t : Nat}
theorem hcN.fr (e3 : A'.2.2.1 23 = A.2.2.1 23) (e5 : A'.2.2.1 25 = A.2.2.1 25) : ∀ {ns : List Nat}, hcN A ns → hcN A' ns
  | [], _ => trivial
  | u :: r, h => ⟨by rw [e3, e5]; exact h.1, hcN.fr e3 e5 h.2⟩
theorem hcT.fr (e1 : A'.1 21 3 = A.1 21 3) (e2 : A'.2.1 22 = A.2.1 22) (e3 : A'.2.1 24 = A.2.1 24) (e4 : A'.2.2.1 23 = A.2.2.1 23) (h : hcT K V S A) : hcT K V S A' := fun j hj hp => by
  rw [e1, e2, e3, e4]
  exact h j hj hp
theorem hcE.fr (e4 : A'.2.2.1 23 = A.2.2.1 23) (e7 : A'.2.2.1 374 = A.2.2.1 374) (h : hcE K E A) : hcE K E A' := ⟨fun u t h1 h2 h3 h4 h5 h6 => by
  rw [e4]
  exact h.1 u t h1 h2 h3 h4 h5 h6, h.2.fr e7⟩
theorem hcB.fr (h : hcB K V S E T A t s) (e0 : A'.2.2.2 = A.2.2.2) (e1 : A'.1 21 3 = A.1 21 3) (e2 : A'.2.1 22 = A.2.1 22) (e3 : A'.2.1 24 = A.2.1 24) (e4 : A'.2.2.1 23 = A.2.2.1 23) (e5 : A'.1 20 3 = A.1 20 3) (e6 : A'.1 20 5 = A.1 20 5) (e7 : A'.2.2.1 374 = A.2.2.1 374) : hcB K V S E T A' t s := by
  obtain ⟨a, ⟨b, b'⟩, c, d, e⟩ := h
  exact ⟨by rw [e0]; exact a, ⟨b.fr e1 e2 e3 e4, b'.fr e4 e7⟩, by rw [e5]; exact c, d, by rw [e6]; exact e⟩
theorem hcR.fr (h : hcR S T A ns p sn o) (e1 : A'.1 T 4 = A.1 T 4) (e2 : A'.1 T 5 = A.1 T 5) (e3 : A'.2.2.1 23 = A.2.2.1 23) (e5 : A'.2.2.1 25 = A.2.2.1 25) (e6 : A'.1 20 7 = A.1 20 7) (e7 : A'.1 20 8 = A.1 20 8) : hcR S T A' ns p sn o := by
  obtain ⟨a, b, c, d, e⟩ := h
  exact ⟨by rw [e1]; exact a, by rw [e2]; exact b, c.fr e3 e5, fun u hu => by rw [e3, e5]; exact d u hu, by rw [e6, e7]; exact e⟩
theorem hcB.at (h : hcB K V S E T A t s) : t ≤ 400 ∧ hq_pre K t ∧ (A.1 20 3).toNatClampNeg = t ∧ (A.2.1 22 t).toInt = K t ∧ (A.2.1 24 t).toInt = S t ∧ (t : Int) < (A.1 21 3).toInt ∧ (K t = 21 → (A.2.2.1 23 t).toInt32.toInt = V t) := by
  obtain ⟨a, ⟨b, b'⟩, c, d, e⟩ := h
  have hl := hq_le K V E d
  have hp := (hq_q_inv d).2
  obtain ⟨h1, h2, h3, h4⟩ := b _ hl hp
  have := hn_cn (j := A.1 20 3) (by omega)
  exact ⟨hl, hp, by omega, h1, h2, h3, h4⟩
/-- a world that differs in one field of the reader or of the terrace -/
theorem hcB.up {i k : Nat} {x : Int32} (h : hcB K V S E T A t s) (e : A'.1 = hs_up A.1 i k x) (f : A'.2 = A.2) (h1 : ¬ (i = 21 ∧ k = 3)) (h2 : ¬ (i = 20 ∧ k = 3)) (h3 : ¬ (i = 20 ∧ k = 5)) : hcB K V S E T A' t s := by
  refine h.fr (by rw [f]) ?_ (by rw [f]) (by rw [f]) (by rw [f]) ?_ ?_ (by rw [f])
  · rw [e, hup2 (fun q => h1 ⟨q.1.symm, q.2.symm⟩)]
  · rw [e, hup2 (fun q => h2 ⟨q.1.symm, q.2.symm⟩)]
  · rw [e, hup2 (fun q => h3 ⟨q.1.symm, q.2.symm⟩)]
theorem hcR.up {i k : Nat} {x : Int32} (h : hcR S T A ns p sn o) (e : A'.1 = hs_up A.1 i k x) (f : A'.2 = A.2) (h1 : ¬ (i = T ∧ (k = 4 ∨ k = 5))) (h2 : ¬ (i = 20 ∧ (k = 7 ∨ k = 8))) : hcR S T A' ns p sn o := by
  refine h.fr ?_ ?_ (by rw [f]) (by rw [f]) ?_ ?_
  · rw [e, hup2 (fun q => h1 ⟨q.1.symm, Or.inl q.2.symm⟩)]
  · rw [e, hup2 (fun q => h1 ⟨q.1.symm, Or.inr q.2.symm⟩)]
  · rw [e, hup2 (fun q => h2 ⟨q.1.symm, Or.inl q.2.symm⟩)]
  · rw [e, hup2 (fun q => h2 ⟨q.1.symm, Or.inr q.2.symm⟩)]
theorem hcB.step {x : Int32} (h : hcB K V S E T A t s) (hd : hq_dl K V E t s = .inl s') (e : A'.1 = hs_up A.1 20 3 x) (f : A'.2 = A.2) (hx : x.toInt = (t : Int) + 1) : hcB K V S E T A' (t + 1) s' := by
  obtain ⟨a, ⟨b, b'⟩, c, d, g⟩ := h
  have e3 : A'.1 20 3 = x := by rw [e, hup1]
  exact ⟨by rw [f]; exact a, ⟨b.fr (by rw [e, hup2 (by omega)]) (by rw [f]) (by rw [f]) (by rw [f]), b'.fr (by rw [f]) (by rw [f])⟩, by rw [e3]; omega, hq_next K V E d hd, by rw [e, hup2 (by omega)]; exact g⟩
theorem hcB.W (h : hcB K V S E T A t s) (hT : T ≤ 11) (w : hcW T A A') : hcB K V S E T A' t s := h.fr (by rw [w.2.2]) (w.1 _ _ (by omega)) (w.2.1 _ (by omega)) (w.2.1 _ (by omega)) (by rw [w.2.2]) (w.1 _ _ (by omega)) (w.1 _ _ (by omega)) (by rw [w.2.2])
theorem hcR.W (h : hcR S T A ns p sn o) (hT : T ≤ 11) (w : hcW T A A') : hcR S T A' ns p sn o := h.fr (w.1 _ _ (by omega)) (w.1 _ _ (by omega)) (by rw [w.2.2]) (by rw [w.2.2]) (w.1 _ _ (by omega)) (w.1 _ _ (by omega))
theorem hcR.late {x y : Int32} {A1 : hs_A} {c : Nat} (h : hcR S T A ns p sn o) (hT : T ≤ 11) (e : A1.1 = hs_up A.1 20 7 x) (f : A1.2 = A.2) (e' : A'.1 = hs_up A1.1 20 8 y) (f' : A'.2 = A1.2) (h0 : (A.1 20 7).toInt = 0) (hx : x.toInt = (c : Int)) (hy : y.toInt = S t) (hc : c ≠ 0) : hcR S T A' ns p sn (hq_late c t o) := by
  obtain ⟨a, b, n, d, l⟩ := h
  have ef : A'.2 = A.2 := f'.trans f
  have ho : o = none := by
    cases o with
    | none => rfl
    | some q => exact absurd l.1 (by rw [h0]; have := l.2.2; omega)
  subst ho
  refine ⟨by rw [e', hup2 (by omega), e, hup2 (by omega)]; exact a, by rw [e', hup2 (by omega), e, hup2 (by omega)]; exact b, n.fr (by rw [ef]) (by rw [ef]), fun u hu => by rw [ef]; exact d u hu, ?_⟩
  show hcL S (A'.1 20 7).toInt (A'.1 20 8).toInt (some (c, t))
  refine ⟨?_, ?_, hc⟩
  · rw [e', hup2 (by omega), e, hup1]; exact hx
  · rw [e', hup1]; exact hy
theorem hcR.late0 {c : Nat} (h : hcR S T A ns p sn o) (h0 : ¬ (A.1 20 7).toInt = 0) : hcR S T A ns p sn (hq_late c t o) := by
  obtain ⟨a, b, n, d, l⟩ := h
  cases o with
  | none => exact absurd l.1 h0
  | some q => exact ⟨a, b, n, d, l⟩
theorem hcB.ar {i j : Nat} {x : Int32} (h : hcB K V S E T A t s) (e : A'.1 = A.1) (f : A'.2.1 = hs_up A.2.1 i j x) (g : A'.2.2 = A.2.2) (hi : i ≤ 21) : hcB K V S E T A' t s := h.fr (by rw [g]) (by rw [e]) (by rw [f]; funext b; exact hup2 (fun q => by omega)) (by rw [f]; funext b; exact hup2 (fun q => by omega)) (by rw [g]) (by rw [e]) (by rw [e]) (by rw [g])
theorem hcR.ar {i j : Nat} {x : Int32} (h : hcR S T A ns p sn o) (e : A'.1 = A.1) (f : A'.2.1 = hs_up A.2.1 i j x) (g : A'.2.2 = A.2.2) : hcR S T A' ns p sn o := h.fr (by rw [e]) (by rw [e]) (by rw [g]) (by rw [g]) (by rw [e]) (by rw [e])
theorem hcR.house {u : Nat} {x : Int32} (h : hcR S T A ns (some u) sn o) (hT : T ≤ 11) (e : A'.1 = hs_up A.1 T 4 x) (f : A'.2 = A.2) (hx : x.toInt = (ns.length : Int) + 1) : hcR S T A' (u :: ns) none sn o := by
  obtain ⟨a, b, n, d, l⟩ := h
  refine ⟨?_, by rw [e, hup2 (by omega)]; exact b, ⟨?_, n.fr (by rw [f]) (by rw [f])⟩, fun u hu => (by cases hu), by rw [e, hup2 (by omega), hup2 (by omega)]; exact l⟩
  · rw [e, hup1, hx]
    show _ = ((ns.length + 1 : Nat) : Int)
    omega
  · rw [f]
    exact d u (Eq.refl _)
theorem hcR.send {x : Int32} (h : hcR S T A ns p sn o) (hT : T ≤ 11) (e : A'.1 = hs_up A.1 T 5 x) (f : A'.2 = A.2) (hx : x.toInt = (sn : Int) + 1) : hcR S T A' ns p (sn + 1) o := by
  obtain ⟨a, b, n, d, l⟩ := h
  exact ⟨by rw [e, hup2 (by omega)]; exact a, by rw [e, hup1]; omega, n.fr (by rw [f]) (by rw [f]), fun u hu => by rw [f]; exact d u hu, by rw [e, hup2 (by omega), hup2 (by omega)]; exact l⟩
theorem hcF.fr (h : hcF K V S E T A) (e0 : A'.2.2.2 = A.2.2.2) (e1 : A'.1 20 5 = A.1 20 5) (e2 : A'.1 20 6 = A.1 20 6) (e7 : A'.2.2.1 374 = A.2.2.1 374) : hcF K V S E T A' := by
  obtain ⟨r, u, t, k, a, b, c, d⟩ := h
  exact ⟨by rw [e0]; exact r, u.fr e7, t, k, a, b, by rw [e1]; exact c, by rw [e2]; exact d⟩
theorem hcF.W (h : hcF K V S E T A) (hT : T ≤ 11) (w : hcW T A A') : hcF K V S E T A' := h.fr (by rw [w.2.2]) (w.1 _ _ (by omega)) (w.1 _ _ (by omega)) (by rw [w.2.2])
theorem hcW.rfl : hcW T A A := ⟨fun _ _ _ => Eq.refl _, fun _ _ => Eq.refl _, Eq.refl _⟩
theorem hcW.f {A1 : hs_A} {k : Nat} {x : Int32} (h : hcW T A A1) (e : A'.1 = hs_up A1.1 (T + 4) k x) (f : A'.2 = A1.2) : hcW T A A' := ⟨fun i k hi => by rw [e, hup2 (fun q => hi q.1)]; exact h.1 i k hi, fun i hi => by rw [f]; exact h.2.1 i hi, by rw [f]; exact h.2.2⟩
theorem hcW.a {A1 : hs_A} {i0 k : Nat} {x : Int32} (h : hcW T A A1) (e : A'.1 = A1.1) (f : A'.2.1 = hs_up A1.2.1 i0 k x) (g : A'.2.2 = A1.2.2) (hi0 : T + 5 ≤ i0 ∧ i0 ≤ T + 8) : hcW T A A' := ⟨fun i k hi => by rw [e]; exact h.1 i k hi, fun i hi => by
  rw [f, ← h.2.1 i hi]
  funext j
  exact hup2 (fun q => by omega), by rw [g]; exact h.2.2⟩
/-- the same reading of the names' row, with one name more -/
theorem hcN.more {j : Nat} {x : Int64} : ∀ {ns : List Nat}, (g : A'.2.2.1 = hs_upL A.2.2.1 25 j x) → ns.length ≤ j → hcN A ns → hcN A' ns
  | [], _, _, _ => trivial
  | u :: r, g, hj, h => by
    have hl : (u :: r).length = r.length + 1 := Eq.refl _
    refine ⟨?_, hcN.more g (by omega) h.2⟩
    rw [g]
    show (if 25 = 25 then (if r.length = j then x else A.2.2.1 25 r.length) else A.2.2.1 25 r.length) = (if 23 = 25 then (if u = j then x else A.2.2.1 23 u) else A.2.2.1 23 u)
    rw [if_pos (Eq.refl 25), if_neg (by omega), if_neg (by omega)]
    exact h.1
theorem hcL23 {j : Nat} {x : Int64} (g : A'.2.2.1 = hs_upL A.2.2.1 25 j x) : A'.2.2.1 23 = A.2.2.1 23 := by
  rw [g]
  funext u
  show (if 23 = 25 then (if u = j then x else A.2.2.1 23 u) else A.2.2.1 23 u) = _
  rw [if_neg (by omega)]
theorem hcR.name {j : Nat} {x : Int64} (h : hcR S T A ns p sn o) (e : A'.1 = A.1) (g : A'.2.2.1 = hs_upL A.2.2.1 25 j x) (hj : ns.length = j) (hx : x = A.2.2.1 23 t) : hcR S T A' ns (some t) sn o := by
  obtain ⟨a, b, n, d, l⟩ := h
  refine ⟨by rw [e]; exact a, by rw [e]; exact b, n.more g (by omega), fun u hu => ?_, by rw [e]; exact l⟩
  cases hu
  rw [hcL23 g, g, ← hx, hj]
  show (if 25 = 25 then (if j = j then x else A.2.2.1 25 j) else A.2.2.1 25 j) = _
  rw [if_pos (Eq.refl 25), if_pos (Eq.refl j)]
theorem hcN.at : ∀ {ns : List Nat} {i : Nat}, hcN A ns → i < ns.length → ∃ u, u ∈ ns ∧ ns.drop (ns.length - (i + 1)) = u :: ns.drop (ns.length - i) ∧ A.2.2.1 25 i = A.2.2.1 23 u
  | [], i, _, hi => absurd hi (Nat.not_lt_zero i)
  | u :: r, i, h, hi => by
    have hl : (u :: r).length = r.length + 1 := Eq.refl _
    by_cases q : i = r.length
    · subst q
      refine ⟨u, List.mem_cons_self, ?_, h.1⟩
      rw [hl, show r.length + 1 - (r.length + 1) = 0 by omega, show r.length + 1 - r.length = 1 by omega]
      exact Eq.refl _
    · obtain ⟨v, h1, h2, h3⟩ := hcN.at h.2 (i := i) (by omega)
      refine ⟨v, List.mem_cons_of_mem _ h1, ?_, h3⟩
      rw [hl, show r.length + 1 - (i + 1) = (r.length - (i + 1)) + 1 by omega, show r.length + 1 - i = (r.length - i) + 1 by omega, List.drop_succ_cons, List.drop_succ_cons]
      exact h2
end HCP
/-- behind a statement that was read -/
def hcOK (K V S : Nat → Int) (E : Nat → Nat → Bool) (T : Nat) (A : hs_A) (t : Nat) : Prop := ∃ (t' a b c : Nat) (ns : List Nat) (nm sn : Nat) (o : Option (Nat × Nat)), t < t' ∧ hcB K V S E T A t' (0, a, b, c, ns, nm, sn, o) ∧ hcR S T A ns none sn o
theorem hcB.upL {K V S : Nat → Int} {E : Nat → Nat → Bool} {T t : Nat} {A A' : hs_A} {s : hq_S} {j : Nat} {x : Int64} (h : hcB K V S E T A t s) (e : A'.1 = A.1) (f : A'.2.1 = A.2.1) (g : A'.2.2.1 = hs_upL A.2.2.1 25 j x) (i : A'.2.2.2 = A.2.2.2) : hcB K V S E T A' t s := h.fr i (by rw [e]) (by rw [f]) (by rw [f]) (hcL23 g) (by rw [e]) (by rw [e]) (by
  rw [g]
  funext u
  show (if 374 = 25 then (if u = j then x else A.2.2.1 374 u) else A.2.2.1 374 u) = _
  rw [if_neg (by omega)])
theorem hlg0 {x y : Int64} : (lg_cmp x y).toInt = 0 ↔ x = y := by
  unfold lg_cmp
  constructor
  · intro h
    split at h
    · exact absurd h (by decide)
    · split at h
      · assumption
      · exact absurd h (by decide)
  · intro h
    subst h
    rw [if_neg (by show ¬ x < x; rw [Int64.lt_iff_toInt_lt]; omega), if_pos (Eq.refl x)]
    decide
theorem hlate2 {c t : Nat} {o : Option (Nat × Nat)} : hq_late c t (hq_late c t o) = hq_late c t o := by cases o <;> rfl
theorem hanyF {E : Nat → Nat → Bool} {t u i : Nat} {ns : List Nat} {X o : Option (Nat × Nat)} (hdr : ns.drop (ns.length - (i + 1)) = u :: ns.drop (ns.length - i)) (hE : ¬ E u t = true) : (if (ns.drop (ns.length - (i + 1))).any (fun u => E u t) then X else o) = (if (ns.drop (ns.length - i)).any (fun u => E u t) then X else o) := by
  rw [hdr, List.any_cons, eq_false_of_ne_true hE, Bool.false_or]
theorem hanyT {E : Nat → Nat → Bool} {t u i c : Nat} {ns : List Nat} {o : Option (Nat × Nat)} (hdr : ns.drop (ns.length - (i + 1)) = u :: ns.drop (ns.length - i)) (hE : E u t = true) : (if (ns.drop (ns.length - (i + 1))).any (fun u => E u t) then hq_late c t o else o) = hq_late c t (if (ns.drop (ns.length - i)).any (fun u => E u t) then hq_late c t o else o) := by
  rw [hdr, List.any_cons, hE, Bool.true_or, if_pos (Eq.refl true)]
  split
  · exact hlate2.symm
  · exact Eq.refl _
/-! what the automaton does, by kinds -/
section HQD
variable {K V : Nat → Int} {E : Nat → Nat → Bool} {t a b c : Nat} {ns : List Nat} {nm sn : Nat} {o : Option (Nat × Nat)} {r : List Nat × Nat × Nat × Option (Nat × Nat)}
theorem hqd0_end (h : K t = 22) : hq_dl K V E t (0, a, b, c, ns, nm, sn, o) = .inr 0 := by
  show (if K t = 22 then _ else _) = _
  rw [if_pos h]
theorem hqd0_house (h : K t = 0) : hq_dl K V E t (0, a, b, c, ns, nm, sn, o) = if ns.length < 10 then hq_go t (1, 0, 0, 0, ns, nm, sn, o) else .inr 2 := by
  show (if K t = 22 then _ else _) = _
  rw [if_neg (by omega), if_pos h]
theorem hqd0_sends (h : K t = 1) : hq_dl K V E t (0, a, b, c, ns, nm, sn, o) = if sn < 8 then hq_go t (5, 0, 0, 0, ns, nm, sn, o) else .inr 2 := by
  show (if K t = 22 then _ else _) = _
  rw [if_neg (by omega), if_neg (by omega), if_pos h]
theorem hqd0_grief (h : K t = 6) : hq_dl K V E t (0, a, b, c, ns, nm, sn, o) = hq_go t (8, 0, 0, 0, ns, nm, sn, o) := by
  show (if K t = 22 then _ else _) = _
  rw [if_neg (by omega), if_neg (by omega), if_neg (by omega), if_pos h]
theorem hqd0_seed (h : K t = 7) : hq_dl K V E t (0, a, b, c, ns, nm, sn, o) = hq_go t (10, 0, 0, 0, ns, nm, sn, o) := by
  show (if K t = 22 then _ else _) = _
  rw [if_neg (by omega), if_neg (by omega), if_neg (by omega), if_neg (by omega), if_pos h]
theorem hqd0_law (h : 2 ≤ K t ∧ K t ≤ 5) : hq_dl K V E t (0, a, b, c, ns, nm, sn, o) = hq_go t (12, 0, 0, 0, ns, nm, sn, o) := by
  show (if K t = 22 then _ else _) = _
  rw [if_neg (by omega), if_neg (by omega), if_neg (by omega), if_neg (by omega), if_neg (by omega), if_pos h]
theorem hqd0_else (h : ¬ K t = 22) (h0 : ¬ (0 ≤ K t ∧ K t ≤ 7)) : hq_dl K V E t (0, a, b, c, ns, nm, sn, o) = .inr 1 := by
  show (if K t = 22 then _ else _) = _
  rw [if_neg h, if_neg (by omega), if_neg (by omega), if_neg (by omega), if_neg (by omega), if_neg (by omega)]
theorem hq_go_lt {s : hq_S} (h : t < 400) : hq_go t s = .inl s := by unfold hq_go; rw [if_pos h]
theorem hq_go_ge {s : hq_S} (h : ¬ t < 400) : hq_go t s = .inr 2 := by unfold hq_go; rw [if_neg h]
theorem hq_must_ok {k : Int} {s : hq_S} (h : K t = k) : hq_must K k t s = hq_go t s := by unfold hq_must; rw [if_pos h]
theorem hq_must_no {k : Int} {s : hq_S} (h : ¬ K t = k) : hq_must K k t s = .inr 1 := by unfold hq_must; rw [if_neg h]
theorem hqd13_if (h : K t = 8) : hq_dl K V E t (13, a, b, c, r) = if a < 4 then hq_go t (14, a + 1, 0, 0, r) else .inr 2 := by
  show (if K t = 8 then _ else _) = _
  rw [if_pos h]
theorem hqd13_un (h : ¬ K t = 8) : hq_dl K V E t (13, a, b, c, r) = hq_unit K t a 3 0 r := by
  show (if K t = 8 then _ else _) = _
  rw [if_neg h]
theorem hqd15_op (h : 26 ≤ K t ∧ K t ≤ 29) : hq_dl K V E t (15, a, b, c, r) = hq_go t (14, a, b, c, r) := by
  show (if 26 ≤ K t ∧ K t ≤ 29 then _ else _) = _
  rw [if_pos h]
theorem hqd15_cl (h : ¬ (26 ≤ K t ∧ K t ≤ 29)) : hq_dl K V E t (15, a, b, c + 1, r) = hq_must K 32 t (15, a, b, c, r) := by
  show (if 26 ≤ K t ∧ K t ≤ 29 then _ else _) = _
  rw [if_neg h]
theorem hqd15_out (h : ¬ (26 ≤ K t ∧ K t ≤ 29)) : hq_dl K V E t (15, a, b, 0, r) = hq_out K t a b r := by
  show (if 26 ≤ K t ∧ K t ≤ 29 then _ else _) = _
  rw [if_neg h]
theorem hqu_v (h : K t = 21 ∨ (11 ≤ K t ∧ K t ≤ 19)) : hq_unit K t a b c r = hq_go t (15, a, b, c, r) := by
  unfold hq_unit
  rw [if_pos h]
theorem hqu_o (h : K t = 31) (h6 : c < 6) : hq_unit K t a b c r = hq_go t (14, a, b, c + 1, r) := by
  unfold hq_unit
  rw [if_neg (by omega), if_pos h, if_pos h6]
theorem hqu_6 (h : K t = 31) (h6 : ¬ c < 6) : hq_unit K t a b c r = .inr 2 := by
  unfold hq_unit
  rw [if_neg (by omega), if_pos h, if_neg h6]
theorem hqu_n (h : ¬ (K t = 21 ∨ (11 ≤ K t ∧ K t ≤ 19))) (h2 : ¬ K t = 31) : hq_unit K t a b c r = .inr 1 := by
  unfold hq_unit
  rw [if_neg h, if_neg h2]
end HQD
