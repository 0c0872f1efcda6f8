/-! THE REFERENCE'S READER against the automaton -/
def hmK (y x : Int) : Prop := (0 ≤ x ∧ x ≤ 19 ∧ y = x + 20) ∨ (x = 22 ∧ y = 0) ∨ (x = 20 ∧ y = 1) ∨ (x = 21 ∧ y = 2) ∨ (x = 23 ∧ y = 3) ∨ (x = 24 ∧ y = 4) ∨ (x = 25 ∧ y = 5) ∨ (x = 31 ∧ y = 6) ∨ (x = 32 ∧ y = 7) ∨ (x = 26 ∧ y = 8) ∨ (x = 27 ∧ y = 9) ∨ (x = 28 ∧ y = 10) ∨ (x = 29 ∧ y = 15) ∨ (x = 30 ∧ y = 13)
def hmT (K V S : Nat → Int) (A : hs_A) : Prop := ∀ j : Nat, j ≤ 400 → hq_pre K j → hmK (A.2.1 370 j).toInt (K j) ∧ (A.2.1 371 j).toInt = S j ∧ (K j = 21 → (A.2.1 372 j).toInt = V j)
def hmE (K : Nat → Int) (E : Nat → Nat → Bool) (A : hs_A) : Prop := (∀ u t : Nat, u ≤ 400 → t ≤ 400 → hq_pre K u → hq_pre K t → K u = 20 → K t = 20 → (A.2.2.1 373 u = A.2.2.1 373 t ↔ E u t = true)) ∧ hcU A
def hmB (K V S : Nat → Int) (E : Nat → Nat → Bool) (A : hs_A) (t : Nat) (s : hq_S) : Prop := (hmT K V S A ∧ hmE K E A) ∧ (A.1 367 11).toInt = (t : Int) ∧ hq_q K V E t = some s ∧ (A.1 367 13).toInt = 0
def hmN (A : hs_A) : List Nat → Prop
  | [] => True
  | u :: r => A.2.2.1 375 r.length = A.2.2.1 373 u ∧ hmN A r
def hmL (S : Nat → Int) (x y : Int) (b : Nat) : Option (Nat × Nat) → Prop
  | none => x = 0
  | some c => x = c.1 ∧ y = S c.2 ∧ 0 < c.1 ∧ c.2 < b
def hmR (S : Nat → Int) (A : hs_A) (b : Nat) (ns : List Nat) (sn : Nat) (o : Option (Nat × Nat)) (sd od : Nat) : Prop := (A.1 367 19).toInt = (sd : Int) ∧ sd ≤ 1 ∧ (A.1 367 12).toInt = (od : Int) ∧ (A.2.1 376 sd).toInt = (ns.length : Int) ∧ (A.2.1 379 sd).toInt = (sn : Int) ∧ (A.1 367 20).toInt = (ns.length : Int) ∧ hmN A ns ∧ hmL S (A.1 367 15).toInt (A.1 367 16).toInt b o
def hmF (K V S : Nat → Int) (E : Nat → Nat → Bool) (A : hs_A) : Prop := hcU A ∧ ∃ t k : Nat, hq_f K V E t k ∧ k ≠ 0 ∧ (A.1 367 13).toInt = (k : Int) ∧ (A.1 367 14).toInt = S t
/-- what may change beside -/
def hmW (A A' : hs_A) : Prop := (∀ k, 11 ≤ k → k ≤ 20 → A'.1 367 k = A.1 367 k) ∧ (∀ i, (370 ≤ i ∧ i ≤ 372 ∨ i = 376 ∨ i = 379) → A'.2.1 i = A.2.1 i) ∧ A'.2.2 = A.2.2
/-- the places grow -/
def hmS (K S : Nat → Int) : Prop := ∀ u t : Nat, u < t → t ≤ 400 → hq_pre K t → S u < S t
section HMP
variable {K V S : Nat → Int} {E : Nat → Nat → Bool} {A A' : hs_A} {s s' : hq_S} {ns : List Nat} {sn sd od b : Nat} {o : Option (Nat × Nat)} {t : Nat}
theorem hmN.fr (e3 : A'.2.2.1 373 = A.2.2.1 373) (e5 : A'.2.2.1 375 = A.2.2.1 375) : ∀ {ns : List Nat}, hmN A ns → hmN A' ns
  | [], _ => trivial
  | u :: r, h => ⟨by rw [e3, e5]; exact h.1, hmN.fr e3 e5 h.2⟩
theorem hmB.fr (h : hmB K V S E A t s) (e1 : A'.1 367 11 = A.1 367 11) (e2 : A'.1 367 13 = A.1 367 13) (e3 : A'.2.1 370 = A.2.1 370) (e4 : A'.2.1 371 = A.2.1 371) (e5 : A'.2.1 372 = A.2.1 372) (e6 : A'.2.2.1 373 = A.2.2.1 373) (e7 : A'.2.2.1 374 = A.2.2.1 374) : hmB K V S E A' t s := by
  obtain ⟨⟨a, b⟩, c, d, e⟩ := h
  refine ⟨⟨fun j h1 h2 => ?_, fun u t h1 h2 h3 h4 h5 h6 => ?_, b.2.fr e7⟩, by rw [e1]; exact c, d, by rw [e2]; exact e⟩
  · rw [e3, e4, e5]
    exact a j h1 h2
  · rw [e6]
    exact b.1 u t h1 h2 h3 h4 h5 h6
theorem hmR.fr (h : hmR S A b ns sn o sd od) (e1 : A'.1 367 19 = A.1 367 19) (e2 : A'.1 367 12 = A.1 367 12) (e3 : A'.2.1 376 = A.2.1 376) (e4 : A'.2.1 379 = A.2.1 379) (e5 : A'.1 367 20 = A.1 367 20) (e6 : A'.2.2.1 373 = A.2.2.1 373) (e7 : A'.2.2.1 375 = A.2.2.1 375) (e8 : A'.1 367 15 = A.1 367 15) (e9 : A'.1 367 16 = A.1 367 16) : hmR S A' b ns sn o sd od := by
  obtain ⟨a, a', b, c, d, e, f, g⟩ := h
  exact ⟨by rw [e1]; exact a, a', by rw [e2]; exact b, by rw [e3]; exact c, by rw [e4]; exact d, by rw [e5]; exact e, f.fr e6 e7, by rw [e8, e9]; exact g⟩
theorem hmR.mono {b' : Nat} (h : hmR S A b ns sn o sd od) (hb : b ≤ b') : hmR S A b' ns sn o sd od := by
  obtain ⟨a, a', b, c, d, e, f, g⟩ := h
  refine ⟨a, a', b, c, d, e, f, ?_⟩
  cases o with
  | none => exact g
  | some q => exact ⟨g.1, g.2.1, g.2.2.1, Nat.lt_of_lt_of_le g.2.2.2 hb⟩
theorem hmB.at (h : hmB K V S E A t s) : t ≤ 400 ∧ hq_pre K t ∧ (A.1 367 11).toNatClampNeg = t ∧ hmK (A.2.1 370 t).toInt (K t) ∧ (A.2.1 371 t).toInt = S t ∧ (K t = 21 → (A.2.1 372 t).toInt = V t) := by
  obtain ⟨⟨a, b⟩, c, d, e⟩ := h
  have hl := hq_le K V E d
  have hp := (hq_q_inv d).2
  obtain ⟨h1, h2, h3⟩ := a _ hl hp
  have := hn_cn (j := A.1 367 11) (by omega)
  exact ⟨hl, hp, by omega, h1, h2, h3⟩
theorem hmB.up {k : Nat} {x : Int32} (h : hmB K V S E A t s) (e : A'.1 = hs_up A.1 367 k x) (f : A'.2 = A.2) (h1 : ¬ k = 11) (h2 : ¬ k = 13) : hmB K V S E A' t s := h.fr (by rw [e, hup2 (fun q => h1 q.2.symm)]) (by rw [e, hup2 (fun q => h2 q.2.symm)]) (by rw [f]) (by rw [f]) (by rw [f]) (by rw [f]) (by rw [f])
theorem hmR.up {k : Nat} {x : Int32} (h : hmR S A b ns sn o sd od) (e : A'.1 = hs_up A.1 367 k x) (f : A'.2 = A.2) (h1 : ¬ (k = 12 ∨ k = 15 ∨ k = 16 ∨ k = 19 ∨ k = 20)) : hmR S A' b ns sn o sd od := h.fr (by rw [e, hup2 (fun q => h1 (by omega))]) (by rw [e, hup2 (fun q => h1 (by omega))]) (by rw [f]) (by rw [f]) (by rw [e, hup2 (fun q => h1 (by omega))]) (by rw [f]) (by rw [f]) (by rw [e, hup2 (fun q => h1 (by omega))]) (by rw [e, hup2 (fun q => h1 (by omega))])
theorem hmR.opn {x : Int32} {od' : Nat} (h : hmR S A b ns sn o sd od) (e : A'.1 = hs_up A.1 367 12 x) (f : A'.2 = A.2) (hx : x.toInt = (od' : Int)) : hmR S A' b ns sn o sd od' := by
  obtain ⟨a, a', b, c, d, g, n, l⟩ := h
  exact ⟨by rw [e, hup2 (by omega)]; exact a, a', by rw [e, hup1]; exact hx, by rw [f]; exact c, by rw [f]; exact d, by rw [e, hup2 (by omega)]; exact g, n.fr (by rw [f]) (by rw [f]), by rw [e, hup2 (by omega), hup2 (by omega)]; exact l⟩
theorem hmB.ar {i j : Nat} {x : Int32} (h : hmB K V S E A t s) (e : A'.1 = A.1) (f : A'.2.1 = hs_up A.2.1 i j x) (g : A'.2.2 = A.2.2) (hi : 373 ≤ i) : hmB K V S E A' t s := h.fr (by rw [e]) (by rw [e]) (by rw [f]; funext b; exact hup2 (fun q => by omega)) (by rw [f]; funext b; exact hup2 (fun q => by omega)) (by rw [f]; funext b; exact hup2 (fun q => by omega)) (by rw [g]) (by rw [g])
theorem hmR.ar {i j : Nat} {x : Int32} (h : hmR S A b ns sn o sd od) (e : A'.1 = A.1) (f : A'.2.1 = hs_up A.2.1 i j x) (g : A'.2.2 = A.2.2) (hi : ¬ (i = 376 ∨ i = 379)) : hmR S A' b ns sn o sd od := h.fr (by rw [e]) (by rw [e]) (by rw [f]; funext b; exact hup2 (fun q => by omega)) (by rw [f]; funext b; exact hup2 (fun q => by omega)) (by rw [e]) (by rw [g]) (by rw [g]) (by rw [e]) (by rw [e])
theorem hmF.ar (h : hmF K V S E A) (e : A'.1 = A.1) (e7 : A'.2.2 = A.2.2) : hmF K V S E A' := by
  obtain ⟨u, t, k, a, b, c, d⟩ := h
  exact ⟨u.fr (by rw [e7]), t, k, a, b, by rw [e]; exact c, by rw [e]; exact d⟩
theorem hmF.up {k : Nat} {x : Int32} (h : hmF K V S E A) (e : A'.1 = hs_up A.1 367 k x) (e7 : A'.2 = A.2) (h1 : ¬ (k = 13 ∨ k = 14)) : hmF K V S E A' := by
  obtain ⟨u, t, k, a, b, c, d⟩ := h
  exact ⟨u.fr (by rw [e7]), t, k, a, b, by rw [e, hup2 (fun q => h1 (by omega))]; exact c, by rw [e, hup2 (fun q => h1 (by omega))]; exact d⟩
theorem hmF.pos (h : hmF K V S E A) : 0 < (A.1 367 13).toInt := by
  obtain ⟨u, t, k, a, b, c, d⟩ := h
  omega
theorem hmB.W (h : hmB K V S E A t s) (w : hmW A A') : hmB K V S E A' t s := h.fr (w.1 _ (by omega) (by omega)) (w.1 _ (by omega) (by omega)) (w.2.1 _ (by omega)) (w.2.1 _ (by omega)) (w.2.1 _ (by omega)) (by rw [w.2.2]) (by rw [w.2.2])
theorem hmR.W (h : hmR S A b ns sn o sd od) (w : hmW A A') : hmR S A' b ns sn o sd od := h.fr (w.1 _ (by omega) (by omega)) (w.1 _ (by omega) (by omega)) (w.2.1 _ (by omega)) (w.2.1 _ (by omega)) (w.1 _ (by omega) (by omega)) (by rw [w.2.2]) (by rw [w.2.2]) (w.1 _ (by omega) (by omega)) (w.1 _ (by omega) (by omega))
theorem hmF.W (h : hmF K V S E A) (w : hmW A A') : hmF K V S E A' := by
  obtain ⟨u, t, k, a, b, c, d⟩ := h
  exact ⟨u.fr (by rw [w.2.2]), t, k, a, b, by rw [w.1 13 (by omega) (by omega)]; exact c, by rw [w.1 14 (by omega) (by omega)]; exact d⟩
theorem hmW.rfl : hmW A A := ⟨fun _ _ _ => Eq.refl _, fun _ _ => Eq.refl _, Eq.refl _⟩
theorem hmW.trans {A1 : hs_A} (h : hmW A A1) (h' : hmW A1 A') : hmW A A' := ⟨fun k a b => (h'.1 k a b).trans (h.1 k a b), fun i a => (h'.2.1 i a).trans (h.2.1 i a), h'.2.2.trans h.2.2⟩
theorem hmW.f {A1 : hs_A} {k : Nat} {x : Int32} (h : hmW A A1) (e : A'.1 = hs_up A1.1 367 k x) (f : A'.2 = A1.2) (hk : 20 < k) : hmW A A' := ⟨fun k a b => by rw [e, hup2 (by omega)]; exact h.1 k a b, fun i a => by rw [f]; exact h.2.1 i a, by rw [f]; exact h.2.2⟩
theorem hmW.a {A1 : hs_A} {i0 k : Nat} {x : Int32} (h : hmW A A1) (e : A'.1 = A1.1) (f : A'.2.1 = hs_up A1.2.1 i0 k x) (g : A'.2.2 = A1.2.2) (hi0 : 380 ≤ i0) : hmW A A' := ⟨fun k a b => by rw [e]; exact h.1 k a b, fun i a => by
  rw [f, ← h.2.1 i a]
  funext j
  exact hup2 (fun q => by omega), by rw [g]; exact h.2.2⟩
theorem hmB.step {x : Int32} (h : hmB K V S E A t s) (hd : hq_dl K V E t s = .inl s') (e : A'.1 = hs_up A.1 367 11 x) (f : A'.2 = A.2) (hx : x.toInt = (t : Int) + 1) : hmB K V S E A' (t + 1) s' := by
  obtain ⟨⟨a, b⟩, c, d, g⟩ := h
  refine ⟨⟨fun j h1 h2 => ?_, fun u t h1 h2 h3 h4 h5 h6 => ?_, b.2.fr (by rw [f])⟩, by rw [e, hup1]; omega, hq_next K V E d hd, by rw [e, hup2 (by omega)]; exact g⟩
  · rw [f]
    exact a j h1 h2
  · rw [f]
    exact b.1 u t h1 h2 h3 h4 h5 h6
/-- wrong: the first of them stays -/
theorem hmR.bad {x y : Int32} {A1 : hs_A} {c : Nat} {o1 : Option (Nat × Nat)} (h : hmR S A (t + 1) ns sn o1 sd od) (e : A1.1 = hs_up A.1 367 15 x) (f : A1.2 = A.2) (e' : A'.1 = hs_up A1.1 367 16 y) (f' : A'.2 = A1.2) (hx : x.toInt = (c : Int)) (hy : y.toInt = S t) (hc : 0 < c) (ho : o1 = none) : hmR S A' (t + 1) ns sn (some (c, t)) sd od := by
  obtain ⟨a, a', b, c', d, g, n, l⟩ := h
  have ef : A'.2 = A.2 := f'.trans f
  refine ⟨by rw [e', hup2 (by omega), e, hup2 (by omega)]; exact a, a', by rw [e', hup2 (by omega), e, hup2 (by omega)]; exact b, by rw [ef]; exact c', by rw [ef]; exact d, by rw [e', hup2 (by omega), e, hup2 (by omega)]; exact g, n.fr (by rw [ef]) (by rw [ef]), ?_, ?_, hc, Nat.lt_succ_self t⟩
  · rw [e', hup2 (by omega), e, hup1]; exact hx
  · rw [e', hup1]; exact hy
theorem hmN.more {j : Nat} {x : Int64} : ∀ {ns : List Nat}, (g : A'.2.2.1 = hs_upL A.2.2.1 375 j x) → ns.length ≤ j → hmN A ns → hmN A' ns
  | [], _, _, _ => trivial
  | u :: r, g, hj, h => by
    have hl : (u :: r).length = r.length + 1 := Eq.refl _
    refine ⟨?_, hmN.more g (by omega) h.2⟩
    rw [g]
    show (if 375 = 375 then (if r.length = j then x else A.2.2.1 375 r.length) else A.2.2.1 375 r.length) = (if 373 = 375 then (if u = j then x else A.2.2.1 373 u) else A.2.2.1 373 u)
    rw [if_pos (Eq.refl 375), if_neg (by omega), if_neg (by omega)]
    exact h.1
theorem hmL373 {j : Nat} {x : Int64} (g : A'.2.2.1 = hs_upL A.2.2.1 375 j x) : A'.2.2.1 373 = A.2.2.1 373 := by
  rw [g]
  funext u
  show (if 373 = 375 then (if u = j then x else A.2.2.1 373 u) else A.2.2.1 373 u) = _
  rw [if_neg (by omega)]
theorem hmN.at : ∀ {ns : List Nat} {i : Nat}, hmN A ns → i < ns.length → ∃ u, u ∈ ns ∧ ns.drop (ns.length - (i + 1)) = u :: ns.drop (ns.length - i) ∧ A.2.2.1 375 i = A.2.2.1 373 u
  | [], i, _, hi => absurd hi (Nat.not_lt_zero i)
  | u :: r, i, h, hi => by
    have hl : (u :: r).length = r.length + 1 := Eq.refl _
    by_cases q : i = r.length
    · subst q
      refine ⟨u, List.mem_cons_self, ?_, h.1⟩
      rw [hl, show r.length + 1 - (r.length + 1) = 0 by omega, show r.length + 1 - r.length = 1 by omega]
      exact Eq.refl _
    · obtain ⟨v, h1, h2, h3⟩ := hmN.at h.2 (i := i) (by omega)
      refine ⟨v, List.mem_cons_of_mem _ h1, ?_, h3⟩
      rw [hl, show r.length + 1 - (i + 1) = (r.length - (i + 1)) + 1 by omega, show r.length + 1 - i = (r.length - i) + 1 by omega, List.drop_succ_cons, List.drop_succ_cons]
      exact h2
/-- a house more: its name, the names' number, the houses' number -/
theorem hmR.house {u j : Nat} {x : Int64} {y z : Int32} {A1 A2 : hs_A} (h : hmR S A b ns sn o sd od) (e1 : A1.1 = A.1) (f1 : A1.2.1 = A.2.1) (g1 : A1.2.2.1 = hs_upL A.2.2.1 375 j x) (hj : ns.length = j) (hx : A.2.2.1 373 u = x) (e2 : A2.1 = hs_up A1.1 367 20 y) (f2 : A2.2 = A1.2) (hy : y.toInt = (ns.length : Int) + 1) (e3 : A'.1 = A2.1) (f3 : A'.2.1 = hs_up A2.2.1 376 sd z) (g3 : A'.2.2 = A2.2.2) (hz : z.toInt = (ns.length : Int) + 1) : hmR S A' b (u :: ns) sn o sd od := by
  obtain ⟨a, a', b, c', d, g, n, l⟩ := h
  have hl : (((u :: ns).length : Nat) : Int) = (ns.length : Int) + 1 := by
    show ((ns.length + 1 : Nat) : Int) = _
    omega
  have g' : A'.2.2.1 = hs_upL A.2.2.1 375 j x := by rw [g3, f2, g1]
  refine ⟨by rw [e3, e2, hup2 (by omega), e1]; exact a, a', by rw [e3, e2, hup2 (by omega), e1]; exact b, by rw [f3, hup1, hl]; exact hz, by rw [f3, hup2 (by omega), f2, f1]; exact d, by rw [e3, e2, hup1, hl]; exact hy, ⟨?_, n.more g' (by omega)⟩, by rw [e3, e2, hup2 (by omega), hup2 (by omega), e1]; exact l⟩
  rw [hmL373 g', g', hx, hj]
  show (if 375 = 375 then (if j = j then x else A.2.2.1 375 j) else A.2.2.1 375 j) = _
  rw [if_pos (Eq.refl 375), if_pos (Eq.refl j)]
theorem hmB.house {j : Nat} {x : Int64} {y z : Int32} {A1 A2 : hs_A} (h : hmB K V S E A t s) (e1 : A1.1 = A.1) (f1 : A1.2.1 = A.2.1) (g1 : A1.2.2.1 = hs_upL A.2.2.1 375 j x) (e2 : A2.1 = hs_up A1.1 367 20 y) (f2 : A2.2 = A1.2) (e3 : A'.1 = A2.1) (f3 : A'.2.1 = hs_up A2.2.1 376 sd z) (g3 : A'.2.2 = A2.2.2) : hmB K V S E A' t s := by
  have g' : A'.2.2.1 = hs_upL A.2.2.1 375 j x := by rw [g3, f2, g1]
  refine h.fr (by rw [e3, e2, hup2 (by omega), e1]) (by rw [e3, e2, hup2 (by omega), e1]) ?_ ?_ ?_ (hmL373 g') (by
    rw [g']
    funext u
    show (if 374 = 375 then (if u = j then x else A.2.2.1 374 u) else A.2.2.1 374 u) = _
    rw [if_neg (by omega)])
  all_goals
    rw [f3, f2, f1]
    funext q
    exact hup2 (fun w => by omega)
theorem hmR.send {z : Int32} (h : hmR S A b ns sn o sd od) (e3 : A'.1 = A.1) (f3 : A'.2.1 = hs_up A.2.1 379 sd z) (g3 : A'.2.2 = A.2.2) (hz : z.toInt = (sn : Int) + 1) : hmR S A' b ns (sn + 1) o sd od := by
  obtain ⟨a, a', b, c', d, g, n, l⟩ := h
  exact ⟨by rw [e3]; exact a, a', by rw [e3]; exact b, by rw [f3, hup2 (by omega)]; exact c', by rw [f3, hup1]; omega, by rw [e3]; exact g, n.fr (by rw [g3]) (by rw [g3]), by rw [e3]; exact l⟩
theorem hmB.i0 {a : Int32} (h : hmB K V S E A t s) (ha : a.toInt = 0) : (A.2.1 370 t).toInt = a.toInt ↔ K t = 22 := by
  have q := h.at.2.2.2.1
  unfold hmK at q
  omega
theorem hmB.i1 {a : Int32} (h : hmB K V S E A t s) (ha : a.toInt = 1) : (A.2.1 370 t).toInt = a.toInt ↔ K t = 20 := by
  have q := h.at.2.2.2.1
  unfold hmK at q
  omega
theorem hmB.i2 {a : Int32} (h : hmB K V S E A t s) (ha : a.toInt = 2) : (A.2.1 370 t).toInt = a.toInt ↔ K t = 21 := by
  have q := h.at.2.2.2.1
  unfold hmK at q
  omega
theorem hmB.i3 {a : Int32} (h : hmB K V S E A t s) (ha : a.toInt = 3) : (A.2.1 370 t).toInt = a.toInt ↔ K t = 23 := by
  have q := h.at.2.2.2.1
  unfold hmK at q
  omega
theorem hmB.i4 {a : Int32} (h : hmB K V S E A t s) (ha : a.toInt = 4) : (A.2.1 370 t).toInt = a.toInt ↔ K t = 24 := by
  have q := h.at.2.2.2.1
  unfold hmK at q
  omega
theorem hmB.i5 {a : Int32} (h : hmB K V S E A t s) (ha : a.toInt = 5) : (A.2.1 370 t).toInt = a.toInt ↔ K t = 25 := by
  have q := h.at.2.2.2.1
  unfold hmK at q
  omega
theorem hmB.i6 {a : Int32} (h : hmB K V S E A t s) (ha : a.toInt = 6) : (A.2.1 370 t).toInt = a.toInt ↔ K t = 31 := by
  have q := h.at.2.2.2.1
  unfold hmK at q
  omega
theorem hmB.i7 {a : Int32} (h : hmB K V S E A t s) (ha : a.toInt = 7) : (A.2.1 370 t).toInt = a.toInt ↔ K t = 32 := by
  have q := h.at.2.2.2.1
  unfold hmK at q
  omega
theorem hmB.i8 {a : Int32} (h : hmB K V S E A t s) (ha : a.toInt = 8) : (A.2.1 370 t).toInt = a.toInt ↔ K t = 26 := by
  have q := h.at.2.2.2.1
  unfold hmK at q
  omega
theorem hmB.i9 {a : Int32} (h : hmB K V S E A t s) (ha : a.toInt = 9) : (A.2.1 370 t).toInt = a.toInt ↔ K t = 27 := by
  have q := h.at.2.2.2.1
  unfold hmK at q
  omega
theorem hmB.i10 {a : Int32} (h : hmB K V S E A t s) (ha : a.toInt = 10) : (A.2.1 370 t).toInt = a.toInt ↔ K t = 28 := by
  have q := h.at.2.2.2.1
  unfold hmK at q
  omega
theorem hmB.i15 {a : Int32} (h : hmB K V S E A t s) (ha : a.toInt = 15) : (A.2.1 370 t).toInt = a.toInt ↔ K t = 29 := by
  have q := h.at.2.2.2.1
  unfold hmK at q
  omega
theorem hmB.i13 {a : Int32} (h : hmB K V S E A t s) (ha : a.toInt = 13) : (A.2.1 370 t).toInt = a.toInt ↔ K t = 30 := by
  have q := h.at.2.2.2.1
  unfold hmK at q
  omega
theorem hmB.i26 {a : Int32} (h : hmB K V S E A t s) (ha : a.toInt = 26) : (A.2.1 370 t).toInt = a.toInt ↔ K t = 6 := by
  have q := h.at.2.2.2.1
  unfold hmK at q
  omega
theorem hmB.i27 {a : Int32} (h : hmB K V S E A t s) (ha : a.toInt = 27) : (A.2.1 370 t).toInt = a.toInt ↔ K t = 7 := by
  have q := h.at.2.2.2.1
  unfold hmK at q
  omega
theorem hmB.i28 {a : Int32} (h : hmB K V S E A t s) (ha : a.toInt = 28) : (A.2.1 370 t).toInt = a.toInt ↔ K t = 8 := by
  have q := h.at.2.2.2.1
  unfold hmK at q
  omega
theorem hmB.i29 {a : Int32} (h : hmB K V S E A t s) (ha : a.toInt = 29) : (A.2.1 370 t).toInt = a.toInt ↔ K t = 9 := by
  have q := h.at.2.2.2.1
  unfold hmK at q
  omega
theorem hmB.i30 {a : Int32} (h : hmB K V S E A t s) (ha : a.toInt = 30) : (A.2.1 370 t).toInt = a.toInt ↔ K t = 10 := by
  have q := h.at.2.2.2.1
  unfold hmK at q
  omega
/-- behind a statement -/
def hmOK (K V S : Nat → Int) (E : Nat → Nat → Bool) (A : hs_A) (t sd : Nat) : Prop := ∃ (t' a b c : Nat) (ns : List Nat) (nm sn : Nat) (o : Option (Nat × Nat)), t < t' ∧ hmB K V S E A t' (0, a, b, c, ns, nm, sn, o) ∧ hmR S A t' ns sn o sd 0
end HMP
