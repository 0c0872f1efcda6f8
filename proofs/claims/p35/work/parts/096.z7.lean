/-! the laws that are told: rows of branches -/
def hM (n b : Nat) (A A' : hs_A) : Prop := (∀ c, c = 383 ∨ c = 384 → A'.2.1 c = A.2.1 c) ∧ (∀ c j, 385 ≤ c → c ≤ 389 → ¬ j = b → A'.2.1 c j = A.2.1 c j) ∧ (∀ j, j < n → A'.2.1 390 j = A.2.1 390 j ∧ A'.2.1 391 j = A.2.1 391 j)
section HM
variable {n n' b c j : Nat} {A A' A2 : hs_A} {x : Int32}
theorem hM.refl (n b : Nat) (A : hs_A) : hM n b A A := ⟨fun _ _ => rfl, fun _ _ _ _ _ => rfl, fun _ _ => ⟨rfl, rfl⟩⟩
theorem hM.tM (h : hM n b A A') (k : hM n' b A' A2) (hn : n ≤ n') : hM n b A A2 := ⟨fun c q => (k.1 c q).trans (h.1 c q), fun c j q1 q2 q3 => (k.2.1 c j q1 q2 q3).trans (h.2.1 c j q1 q2 q3), fun j hj => ⟨(k.2.2 j (by omega)).1.trans (h.2.2 j hj).1, (k.2.2 j (by omega)).2.trans (h.2.2 j hj).2⟩⟩
theorem hM.tE (h : hM n b A A') (e : A2.2.1 = A'.2.1) : hM n b A A2 := by
  unfold hM
  rw [e]
  exact h
theorem hM.tF (h : hM n b A A') (f : A2.2 = A'.2) : hM n b A A2 := h.tE (congrArg Prod.fst f)
theorem hM.tW (h : hM n b A A') (f : A2.2.1 = hs_up A'.2.1 c j x) (hj : j = b) (hc : 385 ≤ c ∧ c ≤ 389) : hM n b A A2 := by
  have key : ∀ q i, ¬ (q = c ∧ i = j) → A2.2.1 q i = A'.2.1 q i := fun q i w => by rw [f, hup2 w]
  refine ⟨fun q w => ?_, fun q i q1 q2 q3 => (key q i (by omega)).trans (h.2.1 q i q1 q2 q3), fun i hi => ⟨(key _ _ (by omega)).trans (h.2.2 i hi).1, (key _ _ (by omega)).trans (h.2.2 i hi).2⟩⟩
  have : A2.2.1 q = A'.2.1 q := by
    funext i
    exact key q i (by omega)
  exact this.trans (h.1 q w)
theorem hM.tK (h : hM n b A A') (k : hK n' A' A2) (hn : n ≤ n') : hM n b A A2 := h.tM ⟨fun q w => k.1 q (by omega) (by omega) (by omega), fun q i q1 q2 _ => by rw [k.1 q (by omega) (by omega) (by omega)], k.2⟩ hn
def hSg (s : Int) (A : hs_A) (x y : Int32) : Prop := 420 * s ≤ x.toInt ∧ y.toInt ≤ (A.1 367 37).toInt ∧ y.toInt - x.toInt ≤ 400 ∧ hW (A.2.1 390) (A.2.1 391) (y.toInt - x.toInt).toNat x.toInt.toNat 0
def hVc (s : Int) (A : hs_A) (b : Nat) : Prop := (¬ (A.2.1 385 b).toInt = 0 → hSg s A (A.2.1 386 b) (A.2.1 387 b) ∧ hSg s A (A.2.1 387 b) (A.2.1 388 b)) ∧ hSg s A (A.2.1 388 b) (A.2.1 389 b)
theorem hW_ext {K I K' I' : Nat → Int32} : ∀ (n c h : Nat), (∀ i, i < n → K' (c + i) = K (c + i) ∧ I' (c + i) = I (c + i)) → hW K I n c h → hW K' I' n c h := by
  intro n
  induction n with
  | zero => intro c h _ w; exact w
  | succ n ih =>
    intro c h he w
    have e := he 0 (by omega)
    have he' : ∀ i, i < n → K' (c + 1 + i) = K (c + 1 + i) ∧ I' (c + 1 + i) = I (c + 1 + i) := fun i hi => by
      have := he (i + 1) (by omega)
      have e2 : c + (i + 1) = c + 1 + i := by omega
      rw [e2] at this
      exact this
    have ec : c + 0 = c := rfl
    rw [ec] at e
    rcases w with ⟨a, w⟩ | ⟨a, b, w⟩ | ⟨a, b, w⟩
    · exact Or.inl ⟨by rw [e.1]; exact a, ih _ _ he' w⟩
    · exact Or.inr (Or.inl ⟨by rw [e.1]; exact a, by rw [e.2]; exact b, ih _ _ he' w⟩)
    · exact Or.inr (Or.inr ⟨by rw [e.1]; exact a, b, ih _ _ he' w⟩)
theorem hSg.mv {s : Int} {x y : Int32} (h : hSg s A x y) (hs : 0 ≤ s) (hn : y.toInt ≤ n) (k : hM n b A A') (hc : (A.1 367 37).toInt ≤ (A'.1 367 37).toInt) : hSg s A' x y := by
  obtain ⟨h1, h2, h3, h4⟩ := h
  refine ⟨h1, by omega, h3, ?_⟩
  by_cases q : y.toInt < x.toInt
  · have e : (y.toInt - x.toInt).toNat = 0 := by omega
    rw [e]
    exact True.intro
  · exact hW_ext _ _ _ (fun i hi => ⟨(k.2.2 _ (by omega)).1, (k.2.2 _ (by omega)).2⟩) h4
theorem hSg.of {s : Int} {x y : Int32} {c0 c1 : Int} (hs : 0 ≤ s) (hx : x.toInt = c0) (hy : y.toInt = c1) (h0 : 420 * s ≤ c0) (h1 : c1 ≤ 420 * s + 400) (hc : c1 = (A.1 367 37).toInt) (w : hWe (A.2.1 390) (A.2.1 391) (c1 - c0).toNat c0.toNat 0 1) : hSg s A x y := by
  subst hx
  subst hy
  exact ⟨h0, by omega, by omega, hWe_W _ _ _ _ w⟩
theorem hVc.mv {s : Int} {i : Nat} (h : hVc s A i) (hs : 0 ≤ s) (hn : (A.1 367 37).toInt ≤ n) (k : hM n b A A') (hi : ¬ i = b) (hc : (A.1 367 37).toInt ≤ (A'.1 367 37).toInt) : hVc s A' i := by
  unfold hVc
  rw [k.2.1 385 i (by omega) (by omega) hi, k.2.1 386 i (by omega) (by omega) hi, k.2.1 387 i (by omega) (by omega) hi, k.2.1 388 i (by omega) (by omega) hi, k.2.1 389 i (by omega) (by omega) hi]
  have key : ∀ x y, hSg s A x y → hSg s A' x y := fun x y w => w.mv hs (by have := w.2.1; omega) k hc
  exact ⟨fun w => ⟨key _ _ (h.1 w).1, key _ _ (h.1 w).2⟩, key _ _ h.2⟩
theorem helK {v : Int32} (k : hK n A' A2) (hc : ¬ c = 390 ∧ ¬ c = 391 ∧ ¬ c = 392) (h : A'.2.1 c b = v) : A2.2.1 c b = v := by rw [k.1 c hc.1 hc.2.1 hc.2.2]; exact h
theorem hSg.eq {s : Int} {x y x' y' : Int32} (h : hSg s A x y) (hx : x.toInt = x'.toInt) (hy : y.toInt = y'.toInt) : hSg s A x' y' := by
  rw [← Int32.toInt_inj.mp hx, ← Int32.toInt_inj.mp hy]
  exact h
def hMa (n b : Nat) (A A' : hs_A) : Prop := (∀ c, c = 383 ∨ c = 384 → A'.2.1 c = A.2.1 c) ∧ (∀ c j, 385 ≤ c → c ≤ 389 → j < b → A'.2.1 c j = A.2.1 c j) ∧ (∀ j, j < n → A'.2.1 390 j = A.2.1 390 j ∧ A'.2.1 391 j = A.2.1 391 j)
theorem hMa.step {b' : Nat} (h : hMa n b A A') (k : hM n' b' A' A2) (hn : n ≤ n') (hb : b ≤ b') : hMa n b A A2 := ⟨fun c q => (k.1 c q).trans (h.1 c q), fun c j q1 q2 q3 => (k.2.1 c j q1 q2 (by omega)).trans (h.2.1 c j q1 q2 q3), fun j hj => ⟨(k.2.2 j (by omega)).1.trans (h.2.2 j hj).1, (k.2.2 j (by omega)).2.trans (h.2.2 j hj).2⟩⟩
theorem hMa.eq (e : A2.2.1 = A.2.1) : hMa n b A A2 := by
  unfold hMa
  rw [e]
  exact ⟨fun _ _ => rfl, fun _ _ _ _ _ => rfl, fun _ _ => ⟨rfl, rfl⟩⟩
theorem hVc.ma {s : Int} {i : Nat} (h : hVc s A i) (hs : 0 ≤ s) (hn : (A.1 367 37).toInt ≤ n) (k : hMa n b A A') (hi : i < b) (hc : (A.1 367 37).toInt ≤ (A'.1 367 37).toInt) : hVc s A' i := by
  have key : ∀ x y, hSg s A x y → hSg s A' x y := fun x y w => by
    obtain ⟨h1, h2, h3, h4⟩ := w
    refine ⟨h1, by omega, h3, ?_⟩
    by_cases q : y.toInt < x.toInt
    · have e : (y.toInt - x.toInt).toNat = 0 := by omega
      rw [e]
      exact True.intro
    · exact hW_ext _ _ _ (fun i hi => ⟨(k.2.2 _ (by omega)).1, (k.2.2 _ (by omega)).2⟩) h4
  unfold hVc
  rw [k.2.1 385 i (by omega) (by omega) hi, k.2.1 386 i (by omega) (by omega) hi, k.2.1 387 i (by omega) (by omega) hi, k.2.1 388 i (by omega) (by omega) hi, k.2.1 389 i (by omega) (by omega) hi]
  exact ⟨fun w => ⟨key _ _ (h.1 w).1, key _ _ (h.1 w).2⟩, key _ _ h.2⟩
/-- the laws of a side, as far as they are told -/
def hVr (s : Int) (A : hs_A) : Prop := ∀ a : Nat, 4 * s ≤ a → (a : Int) < 4 * s + 4 → (A.2.1 383 a).toInt = (A.2.1 384 a).toInt ∨ (130 * s ≤ (A.2.1 383 a).toInt ∧ (A.2.1 384 a).toInt ≤ (A.1 367 31).toInt ∧ ∀ i : Nat, (A.2.1 383 a).toInt ≤ i → (i : Int) < (A.2.1 384 a).toInt → hVc s A i)
end HM
theorem hTermS {A A1 A2 A3 A4 : hs_A} {n b : Nat} {x y : Int32} (f1 : A1.2.1 = hs_up A.2.1 388 b x) (hk : hK n A1 A2) (f3 : A3.2.1 = hs_up A2.2.1 389 b y) (f4 : A4.2 = A3.2) : A4.2.1 388 b = x ∧ A4.2.1 389 b = y ∧ A4.2.1 390 = A2.2.1 390 ∧ A4.2.1 391 = A2.2.1 391 := by
  rw [f4, f3]
  refine ⟨?_, hup1, ?_, ?_⟩
  · rw [hup2 (by omega), hk.1 388 (by omega) (by omega) (by omega), f1, hup1]
  · funext i
    exact hup2 (by omega)
  · funext i
    exact hup2 (by omega)
theorem hTermS0 {A A1 A3 A4 : hs_A} {b : Nat} {x y : Int32} (f1 : A1.2.1 = hs_up A.2.1 388 b x) (f3 : A3.2.1 = hs_up A1.2.1 389 b y) (f4 : A4.2 = A3.2) : A4.2.1 388 b = x := by
  rw [f4, f3, hup2 (by omega), f1, hup1]
theorem hVr.ma {s : Int} {A A' : hs_A} (h : hVr s A) (hs : 0 ≤ s) (hb : 0 ≤ (A.1 367 31).toInt) (k : hMa (A.1 367 37).toInt.toNat (A.1 367 31).toInt.toNat A A') (h1 : (A.1 367 31).toInt ≤ (A'.1 367 31).toInt) (h2 : (A.1 367 37).toInt ≤ (A'.1 367 37).toInt) : hVr s A' := by
  intro a ha hb'
  rw [k.1 383 (by omega), k.1 384 (by omega)]
  rcases h a ha hb' with q | q
  · exact Or.inl q
  · refine Or.inr ⟨q.1, by have := q.2.1; omega, fun i h3 h4 => (q.2.2 i h3 h4).ma hs (n := (A.1 367 37).toInt.toNat) (by omega) k (by have := q.2.1; omega) h2⟩
theorem hVc.cg {s : Int} {A A' : hs_A} {i : Nat} (h : hVc s A i) (e1 : A'.1 367 37 = A.1 367 37) (e2 : ∀ c, 385 ≤ c → c ≤ 391 → A'.2.1 c = A.2.1 c) : hVc s A' i := by
  unfold hVc hSg
  rw [e1, e2 385 (by omega) (by omega), e2 386 (by omega) (by omega), e2 387 (by omega) (by omega), e2 388 (by omega) (by omega), e2 389 (by omega) (by omega), e2 390 (by omega) (by omega), e2 391 (by omega) (by omega)]
  exact h
theorem hVr.put {s : Int} {A A1 A2 : hs_A} {j j' x y : Int32} (h : hVr s A) (f1 : A1.2.1 = hs_up A.2.1 383 j.toNatClampNeg x) (f2 : A2.2.1 = hs_up A1.2.1 384 j'.toNatClampNeg y) (e1 : A1.1 = A.1) (e2 : A2.1 = A1.1) (hj : j.toInt = j'.toInt) (h0 : 0 ≤ j.toInt) (hx : 130 * s ≤ x.toInt) (hy : y.toInt = (A.1 367 31).toInt) (hn : ∀ i : Nat, x.toInt ≤ (i : Int) → (i : Int) < (A.1 367 31).toInt → hVc s A i) : hVr s A2 := by
  have ej : j = j' := Int32.toInt_inj.mp hj
  subst ej
  have cg : ∀ i, hVc s A i → hVc s A2 i := fun i w => w.cg (by rw [e2, e1]) (fun c q1 q2 => by
    rw [f2, f1]
    funext k
    rw [hup2 (by omega), hup2 (by omega)])
  have eB : A2.1 367 31 = A.1 367 31 := by rw [e2, e1]
  intro a ha hb
  by_cases q : a = j.toNatClampNeg
  · subst q
    have c1 : A2.2.1 383 j.toNatClampNeg = x := by rw [f2, hup2 (by omega), f1, hup1]
    have c2 : A2.2.1 384 j.toNatClampNeg = y := by rw [f2, hup1]
    rw [c1, c2, eB]
    exact Or.inr ⟨hx, by omega, fun i h1 h2 => cg i (hn i h1 (by omega))⟩
  · have c1 : A2.2.1 383 a = A.2.1 383 a := by rw [f2, hup2 (by omega), f1, hup2 (by omega)]
    have c2 : A2.2.1 384 a = A.2.1 384 a := by rw [f2, hup2 (by omega), f1, hup2 (by omega)]
    rw [c1, c2, eB]
    exact (h a ha hb).imp id (fun w => ⟨w.1, w.2.1, fun i h1 h2 => cg i (w.2.2 i h1 h2)⟩)
theorem hVr.fin {s : Int} {A : hs_A} (h : hVr s A) (h1 : (A.1 367 31).toInt ≤ 130 * s + 130) (h2 : (A.1 367 37).toInt ≤ 420 * s + 420) : hVl s A := by
  have sg : ∀ x y, hSg s A x y → hWt s A x y := fun x y w => ⟨w.1, by have := w.2.1; omega, w.2.2.1, w.2.2.2⟩
  intro a ha hb
  refine (h a ha hb).imp id (fun w => ⟨w.1, by have := w.2.1; omega, fun b h3 h4 => ?_⟩)
  have v := w.2.2 b h3 h4
  exact ⟨fun z => ⟨sg _ _ (v.1 z).1, sg _ _ (v.1 z).2⟩, sg _ _ v.2⟩
