/-! A LAW IS PUT TOGETHER; houses, sends -/
/-- a branch under way: number b, its codes from z on, both sides of < as far as they are -/
def hmP (A : hs_A) (b z : Nat) (c1 c2 : hg_C) (n : Nat) : Prop := A.2.1 385 b = Int32.ofNat 1 ∧ (A.2.1 386 b).toInt = (z : Int) ∧ (1 ≤ n → (A.2.1 387 b).toInt = ((z + c1.length : Nat) : Int)) ∧ hm_seg (A.2.1 390) (A.2.1 391) z c1 ∧ hm_seg (A.2.1 390) (A.2.1 391) (z + c1.length) c2
/-- what term leaves alone -/
def hmTf (z b : Nat) (A A' : hs_A) : Prop := (∀ i j, 373 ≤ i → i ≤ 389 → ¬ ((i = 388 ∨ i = 389) ∧ j = b) → A'.2.1 i j = A.2.1 i j) ∧ (∀ j, j < z → A'.2.1 390 j = A.2.1 390 j ∧ A'.2.1 391 j = A.2.1 391 j)
def hmI (V : Nat → Int) (A : hs_A) (sd : Nat) (ns : List Nat) (dd : hg_D) (b0 : Nat) (br : hg_B) (z : Nat) : Prop := hmBr A z b0 br ∧ hmM V A sd ns dd b0 z
section HML
variable {V : Nat → Int} {A A1 A2 A' : hs_A} {sd : Nat} {ns : List Nat} {dd : hg_D} {b b0 b' z z' : Nat} {br : hg_B} {c1 c2 : hg_C} {n : Nat}
theorem hmI.mv (h : hmI V A sd ns dd b0 br z) (hz : z ≤ z') (g : ∀ i j, 377 ≤ i → i ≤ 389 → (i ≤ 384 ∨ j < b0 + br.length) → ¬ i = 379 → A'.2.1 i j = A.2.1 i j) (f : ∀ j, j < z → A'.2.1 390 j = A.2.1 390 j ∧ A'.2.1 391 j = A.2.1 391 j) : hmI V A' sd ns dd b0 br z' := ⟨hmBr.mv hz f h.1 (fun c _ h2 i h3 h4 => g i c (by omega) (by omega) (Or.inr h2) (by omega)), h.2.mv hz (Nat.le_refl b0) (fun i h1 h2 h3 => funext (fun j => g i j h1 (by omega) (Or.inl h2) h3)) (fun c hc i h1 h2 => g i c (by omega) (by omega) (Or.inr (by omega)) (by omega)) f⟩
theorem hmI.Q (h : hmI V A sd ns dd b0 br z) (q : hmQ A A') : hmI V A' sd ns dd b0 br z := h.mv (Nat.le_refl z) (fun i j _ _ _ _ => by rw [q.2]) (fun j _ => by rw [q.2]; exact ⟨Eq.refl _, Eq.refl _⟩)
theorem hmI.Fr (h : hmI V A sd ns dd b0 br z) (F : hmFr z A A') (hz : z ≤ z') : hmI V A' sd ns dd b0 br z' := h.mv hz (fun i j h1 h2 _ _ => by rw [F.1 i (by omega) h2]) F.2.1
theorem hmI.Tf (h : hmI V A sd ns dd b0 br z) (F : hmTf z (b0 + br.length) A A') (hz : z ≤ z') : hmI V A' sd ns dd b0 br z' := h.mv hz (fun i j h1 h2 h3 _ => F.1 i j (by omega) h2 (by omega)) F.2
theorem hmI.ar {i j : Nat} {y : Int32} (h : hmI V A sd ns dd b0 br z) (f : A'.2.1 = hs_up A.2.1 i j y) (hi : 385 ≤ i ∧ i ≤ 389) (hj : b0 + br.length ≤ j) : hmI V A' sd ns dd b0 br z := h.mv (Nat.le_refl z) (fun a c h1 h2 h3 _ => by rw [f, hup2 (by omega)]) (fun a _ => by rw [f, hup2 (by omega), hup2 (by omega)]; exact ⟨Eq.refl _, Eq.refl _⟩)
theorem hmI.up (h : hmI V A sd ns dd b0 br z) (f : A'.2 = A.2) : hmI V A' sd ns dd b0 br z := h.mv (Nat.le_refl z) (fun i j _ _ _ _ => by rw [f]) (fun j _ => by rw [f]; exact ⟨Eq.refl _, Eq.refl _⟩)
theorem hmP.mv (h : hmP A b z c1 c2 n) (e : ∀ i, 385 ≤ i → i ≤ 387 → A'.2.1 i b = A.2.1 i b) (f : ∀ j, j < z + c1.length + c2.length → A'.2.1 390 j = A.2.1 390 j ∧ A'.2.1 391 j = A.2.1 391 j) : hmP A' b z c1 c2 n := by
  obtain ⟨h1, h2, h3, h4, h5⟩ := h
  exact ⟨by rw [e _ (by omega) (by omega)]; exact h1, by rw [e _ (by omega) (by omega)]; exact h2, fun q => by rw [e _ (by omega) (by omega)]; exact h3 q, h4.mv (fun i _ _ => f i (by omega)), h5.mv (fun i _ _ => f i (by omega))⟩
theorem hmP.Q (h : hmP A b z c1 c2 n) (q : hmQ A A') : hmP A' b z c1 c2 n := h.mv (fun i _ _ => by rw [q.2]) (fun j _ => by rw [q.2]; exact ⟨Eq.refl _, Eq.refl _⟩)
theorem hmP.start {y : Int32} {j : Nat} (e1 : A1.2.1 = hs_up A.2.1 385 b (Int32.ofNat 1)) (e2 : A'.2.1 = hs_up A1.2.1 386 b y) (hy : y.toInt = (z : Int)) : hmP A' b z [] [] 0 := ⟨by rw [e2, hup2 (by omega), e1, hup1], by rw [e2, hup1]; exact hy, fun q => absurd q (by omega), trivial, trivial⟩
theorem hmP.one (h : hmP A b z [] [] 0) (F : hmFr z A A') (s : hm_seg (A'.2.1 390) (A'.2.1 391) z c1) : hmP A' b z c1 [] 0 := ⟨by rw [F.1 _ (by omega) (by omega)]; exact h.1, by rw [F.1 _ (by omega) (by omega)]; exact h.2.1, fun q => absurd q (by omega), s, trivial⟩
theorem hmP.mid {y : Int32} (h : hmP A b z c1 [] 0) (e : A'.2.1 = hs_up A.2.1 387 b y) (hy : y.toInt = ((z + c1.length : Nat) : Int)) : hmP A' b z c1 [] 1 := by
  obtain ⟨h1, h2, -, h4, -⟩ := h
  exact ⟨by rw [e, hup2 (by omega)]; exact h1, by rw [e, hup2 (by omega)]; exact h2, fun _ => by rw [e, hup1]; exact hy, h4.mv (fun i _ _ => by rw [e, hup2 (by omega), hup2 (by omega)]; exact ⟨Eq.refl _, Eq.refl _⟩), trivial⟩
theorem hmP.two (h : hmP A b z c1 [] 1) (F : hmFr (z + c1.length) A A') (s : hm_seg (A'.2.1 390) (A'.2.1 391) (z + c1.length) c2) : hmP A' b z c1 c2 1 := ⟨by rw [F.1 _ (by omega) (by omega)]; exact h.1, by rw [F.1 _ (by omega) (by omega)]; exact h.2.1, fun q => by rw [F.1 _ (by omega) (by omega)]; exact h.2.2.1 q, h.2.2.2.1.mv (fun i _ _ => F.2.1 i (by omega)), s⟩
theorem hmP.done {c3 : hg_C} (h : hmP A b z c1 c2 1) (F : hmTf (z + c1.length + c2.length) b A A') (t1 : (A'.2.1 388 b).toInt = ((z + c1.length + c2.length : Nat) : Int)) (t2 : (A'.2.1 389 b).toInt = ((z + c1.length + c2.length + c3.length : Nat) : Int)) (s : hm_seg (A'.2.1 390) (A'.2.1 391) (z + c1.length + c2.length) c3) : hmB1 A' (z + c1.length + c2.length + c3.length) b (c1, c2, c3) := by
  obtain ⟨h1, h2, h3, h4, h5⟩ := h
  exact ⟨z, by rw [F.1 _ _ (by omega) (by omega) (by omega)]; exact h1, by rw [F.1 _ _ (by omega) (by omega) (by omega)]; exact h2, by rw [F.1 _ _ (by omega) (by omega) (by omega)]; exact h3 (by omega), t1, t2, Nat.le_refl _, h4.mv (fun i _ _ => F.2 i (by omega)), h5.mv (fun i _ _ => F.2 i (by omega)), s⟩
/-- the law is in its place -/
theorem hmM.law {b1 k : Nat} {x1 x2 : Int32} {l : hg_L} (h : hmM V A sd ns dd b z) (hk : k < 4) (f1 : A1.2.1 = hs_up A.2.1 383 (4 * sd + k) x1) (f2 : A'.2.1 = hs_up A1.2.1 384 (4 * sd + k) x2) (hx1 : x1.toInt = (b0 : Int)) (hx2 : x2.toInt = (b1 : Int)) (hb : b ≤ b') (L : hmLw A z b' b0 b1 k l) : hmM V A' sd ns (dd.1, dd.2.1, dd.2.2.1, fun q => if q = k then l else dd.2.2.2 q) b' z := by
  have ff : ∀ i j, ¬ i = 383 → ¬ i = 384 → A'.2.1 i j = A.2.1 i j := fun i j h1 h2 => by rw [f2, hup2 (by omega), f1, hup2 (by omega)]
  have e1 : ∀ c, ∀ i, 385 ≤ i → i ≤ 389 → A'.2.1 i c = A.2.1 i c := fun c i h1 h2 => ff i c (by omega) (by omega)
  have e2 : ∀ j, A'.2.1 390 j = A.2.1 390 j ∧ A'.2.1 391 j = A.2.1 391 j := fun j => ⟨ff _ _ (by omega) (by omega), ff _ _ (by omega) (by omega)⟩
  obtain ⟨h1, ⟨h2, h3, h4⟩, h5⟩ := h
  refine ⟨fun q hq => ?_, ⟨fun j hj => by rw [ff _ _ (by omega) (by omega)]; exact h2 j hj, by rw [ff _ _ (by omega) (by omega)]; exact h3, by rw [ff _ _ (by omega) (by omega)]; exact h4⟩, h5.mv (fun i _ => ⟨ff _ _ (by omega) (by omega), ff _ _ (by omega) (by omega)⟩)⟩
  show ∃ b0 b1 : Nat, (A'.2.1 383 (4 * sd + q)).toInt = (b0 : Int) ∧ (A'.2.1 384 (4 * sd + q)).toInt = (b1 : Int) ∧ hmLw A' z b' b0 b1 q (if q = k then l else dd.2.2.2 q)
  by_cases w : q = k
  · subst w
    rw [if_pos rfl]
    refine ⟨b0, b1, by rw [f2, hup2 (by omega), f1, hup1]; exact hx1, by rw [f2, hup1]; exact hx2, L.mv (Nat.le_refl z) (Nat.le_refl b') (fun c _ => e1 c) (fun j _ => e2 j)⟩
  · rw [if_neg w]
    obtain ⟨a0, a1, q1, q2, q3⟩ := h1 q hq
    exact ⟨a0, a1, by rw [f2, hup2 (by omega), f1, hup2 (by omega)]; exact q1, by rw [f2, hup2 (by omega), f1, hup2 (by omega)]; exact q2, q3.mv (Nat.le_refl z) hb (fun c _ => e1 c) (fun j _ => e2 j)⟩
theorem hmM.ga {i j : Nat} {y : Int32} (h : hmM V A sd ns dd b z) (f : A'.2.1 = hs_up A.2.1 i j y) (hi : (i ≤ 376 ∨ i = 379) ∨ (i = 377 ∨ i = 378) ∧ 10 * sd + ns.length ≤ j) : hmM V A' sd ns dd b z := by
  have ff : ∀ a c, ¬ (a = i ∧ c = j) → A'.2.1 a c = A.2.1 a c := fun a c q => by rw [f, hup2 q]
  obtain ⟨h1, ⟨h2, h3, h4⟩, h5⟩ := h
  refine ⟨fun q hq => ?_, ⟨fun k hk => by rw [ff _ _ (by omega)]; exact h2 k hk, by rw [ff _ _ (by omega)]; exact h3, by rw [ff _ _ (by omega)]; exact h4⟩, h5.mv (fun k hk => ⟨ff _ _ (by omega), ff _ _ (by omega)⟩)⟩
  obtain ⟨a0, a1, q1, q2, q3⟩ := h1 q hq
  exact ⟨a0, a1, by rw [ff _ _ (by omega)]; exact q1, by rw [ff _ _ (by omega)]; exact q2, q3.mv (Nat.le_refl z) (Nat.le_refl b) (fun c _ i _ _ => ff _ _ (by omega)) (fun j _ => ⟨ff _ _ (by omega), ff _ _ (by omega)⟩)⟩
theorem hmM.up (h : hmM V A sd ns dd b z) (f : A'.2.1 = A.2.1) : hmM V A' sd ns dd b z := h.mv (Nat.le_refl z) (Nat.le_refl b) (fun i _ _ _ => by rw [f]) (fun c _ i _ _ => by rw [f]) (fun j _ => by rw [f]; exact ⟨Eq.refl _, Eq.refl _⟩)
theorem hmM.more {u : Nat} (h : hmM V A sd ns dd b z) (h1 : (A.2.1 377 (10 * sd + ns.length)).toInt = V (u + 1)) (h2 : (A.2.1 378 (10 * sd + ns.length)).toInt = V (u + 2)) : hmM V A sd (u :: ns) dd b z := ⟨h.1, h.2.1, h1, h2, h.2.2⟩
theorem hmM.sd2 {y : Int32} {p c : Int} {j : Nat} (h : hmM V A sd ns dd b z) (hp : p ≤ 23) (hp0 : 0 ≤ p) (f : A'.2.1 = hs_up A.2.1 380 j y) (hj : (j : Int) = 24 * (sd : Int) + p) (hy : y.toInt = c) : hmM V A' sd ns (fun h => if (h : Int) = p then c else dd.1 h, dd.2) b z := by
  have ff : ∀ a c, ¬ (a = 380 ∧ c = j) → A'.2.1 a c = A.2.1 a c := fun a c q => by rw [f, hup2 q]
  obtain ⟨h1, ⟨h2, h3, h4⟩, h5⟩ := h
  refine ⟨fun q hq => ?_, ⟨fun k hk => ?_, by rw [ff _ _ (by omega)]; exact h3, by rw [ff _ _ (by omega)]; exact h4⟩, h5.mv (fun k hk => ⟨ff _ _ (by omega), ff _ _ (by omega)⟩)⟩
  · obtain ⟨a0, a1, q1, q2, q3⟩ := h1 q hq
    exact ⟨a0, a1, by rw [ff _ _ (by omega)]; exact q1, by rw [ff _ _ (by omega)]; exact q2, q3.mv (Nat.le_refl z) (Nat.le_refl b) (fun c _ i _ _ => ff _ _ (by omega)) (fun j _ => ⟨ff _ _ (by omega), ff _ _ (by omega)⟩)⟩
  · show _ = if (k : Int) = p then c else dd.1 k
    by_cases w : (k : Int) = p
    · rw [if_pos w, show 24 * sd + k = j by omega, f, hup1]; exact hy
    · rw [if_neg w, ff _ _ (by omega)]; exact h2 k hk
theorem hmM.sd0 {p c : Int} (h : hmM V A sd ns dd b z) (hp : ¬ p ≤ 23) : hmM V A sd ns (fun h => if (h : Int) = p then c else dd.1 h, dd.2) b z := by
  obtain ⟨h1, ⟨h2, h3, h4⟩, h5⟩ := h
  refine ⟨h1, ⟨fun k hk => ?_, h3, h4⟩, h5⟩
  show _ = if (k : Int) = p then c else dd.1 k
  rw [if_neg (by omega)]
  exact h2 k hk
theorem hmM.gr {y : Int32} {c : Int} (h : hmM V A sd ns dd b z) (f : A'.2.1 = hs_up A.2.1 381 sd y) (hy : y.toInt = c) : hmM V A' sd ns (dd.1, c, dd.2.2) b z := by
  have ff : ∀ a c, ¬ (a = 381 ∧ c = sd) → A'.2.1 a c = A.2.1 a c := fun a c q => by rw [f, hup2 q]
  obtain ⟨h1, ⟨h2, h3, h4⟩, h5⟩ := h
  refine ⟨fun q hq => ?_, ⟨fun k hk => by rw [ff _ _ (by omega)]; exact h2 k hk, by rw [f, hup1]; exact hy, by rw [ff _ _ (by omega)]; exact h4⟩, h5.mv (fun k hk => ⟨ff _ _ (by omega), ff _ _ (by omega)⟩)⟩
  obtain ⟨a0, a1, q1, q2, q3⟩ := h1 q hq
  exact ⟨a0, a1, by rw [ff _ _ (by omega)]; exact q1, by rw [ff _ _ (by omega)]; exact q2, q3.mv (Nat.le_refl z) (Nat.le_refl b) (fun c _ i _ _ => ff _ _ (by omega)) (fun j _ => ⟨ff _ _ (by omega), ff _ _ (by omega)⟩)⟩
theorem hmM.se {y : Int32} {c : Int} (h : hmM V A sd ns dd b z) (f : A'.2.1 = hs_up A.2.1 382 sd y) (hy : y.toInt = c) : hmM V A' sd ns (dd.1, dd.2.1, c, dd.2.2.2) b z := by
  have ff : ∀ a c, ¬ (a = 382 ∧ c = sd) → A'.2.1 a c = A.2.1 a c := fun a c q => by rw [f, hup2 q]
  obtain ⟨h1, ⟨h2, h3, h4⟩, h5⟩ := h
  refine ⟨fun q hq => ?_, ⟨fun k hk => by rw [ff _ _ (by omega)]; exact h2 k hk, by rw [ff _ _ (by omega)]; exact h3, by rw [f, hup1]; exact hy⟩, h5.mv (fun k hk => ⟨ff _ _ (by omega), ff _ _ (by omega)⟩)⟩
  obtain ⟨a0, a1, q1, q2, q3⟩ := h1 q hq
  exact ⟨a0, a1, by rw [ff _ _ (by omega)]; exact q1, by rw [ff _ _ (by omega)]; exact q2, q3.mv (Nat.le_refl z) (Nat.le_refl b) (fun c _ i _ _ => ff _ _ (by omega)) (fun j _ => ⟨ff _ _ (by omega), ff _ _ (by omega)⟩)⟩
end HML
def hmOK2 (K V S : Nat → Int) (E : Nat → Nat → Bool) (A : hs_A) (t sd : Nat) : Prop := ∃ (t' a b c : Nat) (ns : List Nat) (nm sn : Nat) (o : Option (Nat × Nat)) (bb zz : Nat), t < t' ∧ hmB K V S E A t' (0, a, b, c, ns, nm, sn, o) ∧ hmR S A t' ns sn o sd 0 ∧ hmM V A sd ns (hg_q K V E t').1 bb zz ∧ (A.1 367 31).toInt = (bb : Int) ∧ (A.1 367 37).toInt = (zz : Int)
