/-! THE SIDE THAT IS LIVE keeps what it was told while the other one is read -/
def hlq (s c j : Nat) : Prop := ((c = 376 ∨ c = 379 ∨ c = 381 ∨ c = 382) ∧ j = s) ∨ ((c = 377 ∨ c = 378) ∧ 10 * s ≤ j ∧ j < 10 * s + 10) ∨ (c = 380 ∧ 24 * s ≤ j ∧ j < 24 * s + 24)
def hOT (s : Nat) (A A' : hs_A) : Prop := ∀ c j, hlq s c j → A'.2.1 c j = A.2.1 c j
section HOT
variable {V : Nat → Int} {A A1 A' : hs_A} {s : Nat} {ns : List Nat} {d : hg_D} {b z : Nat}
theorem hOT_r : hOT s A A := fun _ _ _ => Eq.refl _
theorem hOT.trans (a : hOT s A A1) (c : hOT s A1 A') : hOT s A A' := fun i j h => (c i j h).trans (a i j h)
theorem hOT.eq (a : hOT s A A1) (e : A'.2.1 = A1.2.1) : hOT s A A' := fun i j h => by
  rw [e]
  exact a i j h
theorem hOT.W {W : Nat} (hs : s ≤ 1) (w : uf_W W A A') (e : ([376, 377, 378, 379, 380, 381, 382].all fun c => !Nat.testBit W (ug_g c)) = true) : hOT s A A' := by
  have ee : ∀ c, c ∈ [376, 377, 378, 379, 380, 381, 382] → Nat.testBit W (ug_g c) = false := fun c hc => by
    have q := List.all_eq_true.mp e c hc
    cases t : Nat.testBit W (ug_g c) with
    | false => rfl
    | true =>
      rw [t] at q
      exact absurd q (by decide)
  intro c j hl
  rcases hl with ⟨h | h | h | h, hj⟩ | ⟨h | h, h1, h2⟩ | ⟨h, h1, h2⟩ <;> subst h
  · exact w.2.1 376 _ _ j rfl (by omega) (ee _ (by decide))
  · exact w.2.1 379 _ _ j rfl (by omega) (ee _ (by decide))
  · exact w.2.1 381 _ _ j rfl (by omega) (ee _ (by decide))
  · exact w.2.1 382 _ _ j rfl (by omega) (ee _ (by decide))
  · exact w.2.1 377 _ _ j rfl (by omega) (ee _ (by decide))
  · exact w.2.1 378 _ _ j rfl (by omega) (ee _ (by decide))
  · exact w.2.1 380 _ _ j rfl (by omega) (ee _ (by decide))
/-- a write to the other side's rows -/
theorem hOT.a {i0 k : Nat} {x : Int32} (a : hOT s A A1) (f : A'.2.1 = hs_up A1.2.1 i0 k x) (h : ¬ hlq s i0 k) : hOT s A A' := fun c j hl => by
  rw [f, hup2 (fun q => h (by rw [← q.1, ← q.2]; exact hl))]
  exact a c j hl
theorem hmB1.lv {c : Nat} {q : hg_C × hg_C × hg_C} (h : hmB1 A z c q) (v : hVb (s : Int) A c) (h1c : 130 * s ≤ c) (h2c : c < 130 * s + 130) (e : ∀ c j, hlr (s : Int) c j → A'.2.1 c j = A.2.1 c j) : hmB1 A' z c q := by
  obtain ⟨f0, h1, h2, h3, h4, h5, h6, h7, h8, h9⟩ := h
  have e5 : ∀ i, 385 ≤ i → i ≤ 389 → A'.2.1 i c = A.2.1 i c := fun i a b => e i c (Or.inr (Or.inl ⟨⟨a, b⟩, by omega, by omega⟩))
  have hn1 : ¬ (A.2.1 385 c).toInt = 0 := by
    rw [h1]
    exact fun w => absurd (hk_1.symm.trans w) (by decide)
  have u1 := (v.1 hn1).1.1
  have u2 := v.2.2.1
  have e9 : ∀ j, f0 ≤ j → j < f0 + q.1.length + q.2.1.length + q.2.2.length → A'.2.1 390 j = A.2.1 390 j ∧ A'.2.1 391 j = A.2.1 391 j := fun j a b => ⟨e 390 j (Or.inr (Or.inr ⟨Or.inl rfl, by omega, by omega⟩)), e 391 j (Or.inr (Or.inr ⟨Or.inr rfl, by omega, by omega⟩))⟩
  exact ⟨f0, by rw [e5 _ (by omega) (by omega)]; exact h1, by rw [e5 _ (by omega) (by omega)]; exact h2, by rw [e5 _ (by omega) (by omega)]; exact h3, by rw [e5 _ (by omega) (by omega)]; exact h4, by rw [e5 _ (by omega) (by omega)]; exact h5, h6, h7.mv (fun i _ _ => e9 i (by omega) (by omega)), h8.mv (fun i _ _ => e9 i (by omega) (by omega)), h9.mv (fun i _ _ => e9 i (by omega) (by omega))⟩
theorem hmT1.lv {c : Nat} {l : hg_C} (h : hmT1 A z c l) (v : hVb (s : Int) A c) (h1c : 130 * s ≤ c) (h2c : c < 130 * s + 130) (e : ∀ c j, hlr (s : Int) c j → A'.2.1 c j = A.2.1 c j) : hmT1 A' z c l := by
  obtain ⟨f0, h1, h2, h3, h4, h5⟩ := h
  have e5 : ∀ i, 385 ≤ i → i ≤ 389 → A'.2.1 i c = A.2.1 i c := fun i a b => e i c (Or.inr (Or.inl ⟨⟨a, b⟩, by omega, by omega⟩))
  have u1 := v.2.1
  have u2 := v.2.2.1
  exact ⟨f0, by rw [e5 _ (by omega) (by omega)]; exact h1, by rw [e5 _ (by omega) (by omega)]; exact h2, by rw [e5 _ (by omega) (by omega)]; exact h3, h4, h5.mv (fun j _ _ => ⟨e 390 j (Or.inr (Or.inr ⟨Or.inl rfl, by omega, by omega⟩)), e 391 j (Or.inr (Or.inr ⟨Or.inr rfl, by omega, by omega⟩))⟩)⟩
theorem hmBr.lv (e : ∀ c j, hlr (s : Int) c j → A'.2.1 c j = A.2.1 c j) : ∀ {l : hg_B} {c : Nat}, hmBr A z c l → (∀ i, c ≤ i → i < c + l.length → hVb (s : Int) A i) → 130 * s ≤ c → c + l.length ≤ 130 * s + 130 → hmBr A' z c l
  | [], _, _, _, _, _ => trivial
  | q :: r, c, h, v, h1, h2 => by
    have hl : (q :: r).length = r.length + 1 := Eq.refl _
    exact ⟨h.1.lv (v c (Nat.le_refl c) (by omega)) h1 (by omega) e, hmBr.lv e h.2 (fun i a b => v i (by omega) (by omega)) (by omega) (by omega)⟩
theorem hmM.lv (h : hmM V A s ns d b z) (hns : ns.length ≤ 10) (vl : hVl (s : Int) A) (e : ∀ c j, hlr (s : Int) c j → A'.2.1 c j = A.2.1 c j) (o : hOT s A A') : hmM V A' s ns d b z := by
  obtain ⟨h1, ⟨h2, h3, h4⟩, h5⟩ := h
  refine ⟨fun k hk => ?_, ⟨fun t ht => ?_, ?_, ?_⟩, h5.mv (fun i hi => ⟨o 377 _ (Or.inr (Or.inl ⟨Or.inl rfl, by omega, by omega⟩)), o 378 _ (Or.inr (Or.inl ⟨Or.inr rfl, by omega, by omega⟩))⟩)⟩
  · obtain ⟨b0, b1, q1, q2, q3⟩ := h1 k hk
    refine ⟨b0, b1, ?_, ?_, ?_⟩
    · rw [e 383 _ (Or.inl ⟨Or.inl rfl, by omega, by omega⟩)]
      exact q1
    · rw [e 384 _ (Or.inl ⟨Or.inr rfl, by omega, by omega⟩)]
      exact q2
    · rcases q3 with q3 | ⟨q4, q5, q6, q7⟩
      · exact Or.inl q3
      · rcases vl (4 * s + k) (by omega) (by omega) with v | ⟨v1, v2, v3⟩
        · exact False.elim (by omega)
        · exact Or.inr ⟨q4, q5, hmBr.lv e q6 (fun i a c => v3 i (by omega) (by omega)) (by omega) (by omega), q7.lv (v3 _ (by omega) (by omega)) (by omega) (by omega) e⟩
  · rw [o 380 _ (Or.inr (Or.inr ⟨rfl, by omega, by omega⟩))]
    exact h2 t ht
  · rw [o 381 _ (Or.inl ⟨Or.inr (Or.inr (Or.inl rfl)), rfl⟩)]
    exact h3
  · rw [o 382 _ (Or.inl ⟨Or.inr (Or.inr (Or.inr rfl)), rfl⟩)]
    exact h4
end HOT
/-! THE ROW AT A START -/
def hmRw (A : hs_A) (a : Nat → Int32) (sd m : Nat) : Prop := (∀ i, i < m → a i = A.2.1 377 (10 * sd + i) ∧ a (10 + i) = A.2.1 378 (10 * sd + i) ∧ (a (20 + i)).toInt = (i : Int) ∧ (a (50 + i)).toInt = 1) ∧ (∀ j, j < 73 → ¬ j = 71 → (∀ i, i < m → ¬ j = i ∧ ¬ j = 10 + i ∧ ¬ j = 20 + i ∧ ¬ j = 50 + i) → (a j).toInt = 0)
theorem hmRw.more {A B0 B1 B2 B3 B4 : hs_A} {sd m k1 k2 k3 k4 : Nat} {x1 x2 x3 x4 : Int32} (h : hmRw A (B0.2.1 396) sd m) (hm : m < 10) (f1 : B1.2.1 = hs_up B0.2.1 396 k1 x1) (f2 : B2.2.1 = hs_up B1.2.1 396 k2 x2) (f3 : B3.2.1 = hs_up B2.2.1 396 k3 x3) (f4 : B4.2.1 = hs_up B3.2.1 396 k4 x4) (e1 : k1 = m) (e2 : k2 = 10 + m) (e3 : k3 = 20 + m) (e4 : k4 = 50 + m) (h1 : x1 = A.2.1 377 (10 * sd + m)) (h2 : x2 = A.2.1 378 (10 * sd + m)) (h3 : x3.toInt = (m : Int)) (h4 : x4.toInt = 1) : hmRw A (B4.2.1 396) sd (m + 1) := by
  subst e1 e2 e3 e4
  have other : ∀ j, ¬ j = k1 → ¬ j = 10 + k1 → ¬ j = 20 + k1 → ¬ j = 50 + k1 → B4.2.1 396 j = B0.2.1 396 j := fun j a b c d => by
    rw [f4, hup2 (by omega), f3, hup2 (by omega), f2, hup2 (by omega), f1, hup2 (by omega)]
  refine ⟨fun i hi => ?_, fun j hj h71 hn => ?_⟩
  · by_cases q : i = k1
    · subst q
      refine ⟨?_, ?_, ?_, ?_⟩
      · rw [f4, hup2 (by omega), f3, hup2 (by omega), f2, hup2 (by omega), f1, hup1]
        exact h1
      · rw [f4, hup2 (by omega), f3, hup2 (by omega), f2, hup1]
        exact h2
      · rw [f4, hup2 (by omega), f3, hup1]
        exact h3
      · rw [f4, hup1]
        exact h4
    · have g := h.1 i (by omega)
      rw [other i (by omega) (by omega) (by omega) (by omega), other (10 + i) (by omega) (by omega) (by omega) (by omega), other (20 + i) (by omega) (by omega) (by omega) (by omega), other (50 + i) (by omega) (by omega) (by omega) (by omega)]
      exact g
  · have g := hn k1 (by omega)
    rw [other j g.1 g.2.1 g.2.2.1 g.2.2.2]
    exact h.2 j hj h71 (fun i hi => hn i (by omega))
/-- what a text that was read told stands in side sd -/
def hm_R (K V : Nat → Int) (E : Nat → Nat → Bool) (sd : Nat) (A : hs_A) : Prop := ∃ (t : Nat) (s : hq_S) (bb zz : Nat), hq_q K V E t = some s ∧ hq_dl K V E t s = .inr 0 ∧ hmM V A sd s.2.2.2.2.1 (hg_q K V E t).1 bb zz
theorem hmRw.m1 {A B B' : hs_A} {sd m k : Nat} {x : Int32} (h : hmRw A (B.2.1 396) sd m) (hm : m ≤ 10) (f : B'.2.1 = hs_up B.2.1 396 k x) (e : k = 71) : hmRw A (B'.2.1 396) sd m := by
  subst e
  refine ⟨fun i hi => ?_, fun j hj h71 hn => ?_⟩
  · have g := h.1 i hi
    rw [f, hup2 (by omega), hup2 (by omega), hup2 (by omega), hup2 (by omega)]
    exact g
  · rw [f, hup2 (by omega)]
    exact h.2 j hj h71 hn
theorem hmRw.fr {A A' : hs_A} {a : Nat → Int32} {sd m : Nat} (h : hmRw A a sd m) (e7 : A'.2.1 377 = A.2.1 377) (e8 : A'.2.1 378 = A.2.1 378) : hmRw A' a sd m := by
  unfold hmRw
  rw [e7, e8]
  exact h
theorem hm_R.fr {K V : Nat → Int} {E : Nat → Nat → Bool} {sd : Nat} {A A' : hs_A} (h : hm_R K V E sd A) (e : ∀ i, 377 ≤ i → i ≤ 391 → A'.2.1 i = A.2.1 i) : hm_R K V E sd A' := by
  obtain ⟨t, s, bb, zz, h1, h2, h3⟩ := h
  exact ⟨t, s, bb, zz, h1, h2, h3.mv (Nat.le_refl _) (Nat.le_refl _) (fun i a b _ => e i a (by omega)) (fun c _ i a b => by rw [e i (by omega) (by omega)]) (fun j _ => by rw [e 390 (by omega) (by omega), e 391 (by omega) (by omega)]; exact ⟨Eq.refl _, Eq.refl _⟩)⟩
/-- the reference's life at its start -/
def hmBg (sd : Nat) (A : hs_A) : Prop := ∃ m : Nat, (A.2.1 376 sd).toInt = (m : Int) ∧ hmRw A (A.2.1 396) sd m ∧ (A.2.1 396 71).toInt = -1 ∧ A.1 367 47 = A.2.1 382 sd ∧ (A.1 367 48).toInt = 0
theorem hmBg.mv {sd : Nat} {A A' : hs_A} (h : hmBg sd A) (e : ∀ i, i = 376 ∨ i = 377 ∨ i = 378 ∨ i = 382 ∨ i = 396 → A'.2.1 i = A.2.1 i) (f : A'.1 367 47 = A.1 367 47) (g : A'.1 367 48 = A.1 367 48) : hmBg sd A' := by
  obtain ⟨m, h1, h2, h3, h4, h5⟩ := h
  refine ⟨m, ?_, ?_, ?_, ?_, ?_⟩
  · rw [e 376 (Or.inl rfl)]
    exact h1
  · rw [e 396 (by omega)]
    exact h2.fr (e 377 (by omega)) (e 378 (by omega))
  · rw [e 396 (by omega)]
    exact h3
  · rw [f, e 382 (by omega)]
    exact h4
  · rw [g]
    exact h5
