/-! WHAT THE REFERENCE'S READING HAS TOLD: codes and branches -/
def hmQ (A A' : hs_A) : Prop := (∀ k, k ≤ 10 ∨ 17 ≤ k → A'.1 367 k = A.1 367 k) ∧ A'.2 = A.2
def hm_seg (a b : Nat → Int32) : Nat → hg_C → Prop
  | _, [] => True
  | s, x :: r => (a s).toInt = (x.1 : Int) ∧ (b s).toInt = x.2 ∧ hm_seg a b (s + 1) r
def hm_ws (a : Nat → Int32) : List Nat → Prop
  | [] => True
  | x :: r => (hmK (a r.length).toInt (x : Int) ∧ (x = 31 ∨ 26 ≤ x ∧ x ≤ 29)) ∧ hm_ws a r
/-- an expression under way: its codes stand from z0 on, the pile waits -/
def hmX (A : hs_A) (z0 : Nat) (o : hg_C) (w : List Nat) : Prop := (A.1 367 37).toInt = ((z0 + o.length : Nat) : Int) ∧ hm_seg (A.2.1 390) (A.2.1 391) z0 o ∧ (A.1 367 41).toInt = (w.length : Int) ∧ hm_ws (A.2.1 392) w
/-- what an expression leaves alone -/
def hmFr (z : Nat) (A A' : hs_A) : Prop := (∀ i, 373 ≤ i → i ≤ 389 → A'.2.1 i = A.2.1 i) ∧ (∀ j, j < z → A'.2.1 390 j = A.2.1 390 j ∧ A'.2.1 391 j = A.2.1 391 j) ∧ A'.1 367 31 = A.1 367 31
/-- one step more -/
def hmE1 (A A' : hs_A) (z k : Nat) (v : Int) : Prop := ∃ x1 x2 y : Int32, A'.1 = hs_up A.1 367 37 y ∧ y.toInt = (z : Int) + 1 ∧ A'.2.1 = hs_up (hs_up A.2.1 390 z x1) 391 z x2 ∧ A'.2.2 = A.2.2 ∧ x1.toInt = (k : Int) ∧ x2.toInt = v
/-- how many brackets are open -/
def hg_ct : List Nat → Nat
  | [] => 0
  | x :: w => if x = 31 then hg_ct w + 1 else hg_ct w
section HMX
variable {A A1 A2 A' : hs_A} {z z0 k n : Nat} {v : Int} {o o1 : hg_C} {w w1 : List Nat} {x : Nat} {st : Bool}
theorem hmQ.rfl : hmQ A A := ⟨fun _ _ => Eq.refl _, Eq.refl _⟩
theorem hmQ.trans (h : hmQ A A1) (h' : hmQ A1 A') : hmQ A A' := ⟨fun k hk => (h'.1 k hk).trans (h.1 k hk), h'.2.trans h.2⟩
theorem hmQ.f {q : Nat} {y : Int32} (h : hmQ A A1) (e : A'.1 = hs_up A1.1 367 q y) (f : A'.2 = A1.2) (hq : 11 ≤ q ∧ q ≤ 16) : hmQ A A' := ⟨fun k hk => by rw [e, hup2 (by omega)]; exact h.1 k hk, f.trans h.2⟩
theorem hm_seg_app {a b : Nat → Int32} : ∀ (l r : hg_C) (s : Nat), hm_seg a b s (l ++ r) ↔ hm_seg a b s l ∧ hm_seg a b (s + l.length) r
  | [], r, s => ⟨fun h => ⟨trivial, h⟩, fun h => h.2⟩
  | x :: l, r, s => by
    show ((a s).toInt = (x.1 : Int) ∧ (b s).toInt = x.2 ∧ hm_seg a b (s + 1) (l ++ r)) ↔ ((a s).toInt = (x.1 : Int) ∧ (b s).toInt = x.2 ∧ hm_seg a b (s + 1) l) ∧ hm_seg a b (s + (l.length + 1)) r
    rw [hm_seg_app l r (s + 1), show s + 1 + l.length = s + (l.length + 1) by omega]
    exact ⟨fun h => ⟨⟨h.1, h.2.1, h.2.2.1⟩, h.2.2.2⟩, fun h => ⟨h.1.1, h.1.2.1, h.1.2.2, h.2⟩⟩
theorem hm_seg.mv {a b a' b' : Nat → Int32} : ∀ {l : hg_C} {s : Nat}, hm_seg a b s l → (∀ i, s ≤ i → i < s + l.length → a' i = a i ∧ b' i = b i) → hm_seg a' b' s l
  | [], _, _, _ => trivial
  | x :: l, s, h, e => by
    have hl : (x :: l).length = l.length + 1 := Eq.refl _
    have q := e s (Nat.le_refl s) (by omega)
    exact ⟨by rw [q.1]; exact h.1, by rw [q.2]; exact h.2.1, hm_seg.mv h.2.2 (fun i h1 h2 => e i (by omega) (by omega))⟩
theorem hm_ws.mv {a a' : Nat → Int32} : ∀ {w : List Nat}, hm_ws a w → (∀ i, i < w.length → a' i = a i) → hm_ws a' w
  | [], _, _ => trivial
  | x :: w, h, e => by
    have hl : (x :: w).length = w.length + 1 := Eq.refl _
    exact ⟨by rw [e w.length (by omega)]; exact h.1, hm_ws.mv h.2 (fun i hi => e i (by omega))⟩
theorem hmX.mv (h : hmX A z0 o w) (e1 : A'.1 367 37 = A.1 367 37) (e2 : A'.1 367 41 = A.1 367 41) (f : ∀ i, 390 ≤ i → i ≤ 392 → A'.2.1 i = A.2.1 i) : hmX A' z0 o w := by
  obtain ⟨a, b, c, d⟩ := h
  exact ⟨by rw [e1]; exact a, by rw [f 390 (by omega) (by omega), f 391 (by omega) (by omega)]; exact b, by rw [e2]; exact c, by rw [f 392 (by omega) (by omega)]; exact d⟩
theorem hmX.Q (h : hmX A z0 o w) (q : hmQ A A') : hmX A' z0 o w := h.mv (q.1 37 (by omega)) (q.1 41 (by omega)) (fun i _ _ => by rw [q.2])
theorem hmX.up {q : Nat} {y : Int32} (h : hmX A z0 o w) (e : A'.1 = hs_up A.1 367 q y) (f : A'.2 = A.2) (hq : ¬ q = 37 ∧ ¬ q = 41) : hmX A' z0 o w := h.mv (by rw [e, hup2 (by omega)]) (by rw [e, hup2 (by omega)]) (fun i _ _ => by rw [f])
theorem hmX.ar {i j : Nat} {y : Int32} (h : hmX A z0 o w) (e : A'.1 = A.1) (f : A'.2.1 = hs_up A.2.1 i j y) (hi : i ≤ 389) : hmX A' z0 o w := h.mv (by rw [e]) (by rw [e]) (fun a _ _ => by rw [f]; funext b; exact hup2 (by omega))
theorem hmFr.rfl : hmFr z A A := ⟨fun _ _ _ => Eq.refl _, fun _ _ => ⟨Eq.refl _, Eq.refl _⟩, Eq.refl _⟩
theorem hmFr.trans (h : hmFr z A A1) (h' : hmFr z A1 A') : hmFr z A A' := ⟨fun i a b => (h'.1 i a b).trans (h.1 i a b), fun j hj => ⟨(h'.2.1 j hj).1.trans (h.2.1 j hj).1, (h'.2.1 j hj).2.trans (h.2.1 j hj).2⟩, h'.2.2.trans h.2.2⟩
theorem hmFr.Q (h : hmFr z A A1) (q : hmQ A1 A') : hmFr z A A' := h.trans ⟨fun i _ _ => by rw [q.2], fun j _ => by rw [q.2]; exact ⟨Eq.refl _, Eq.refl _⟩, q.1 31 (by omega)⟩
theorem hmFr.up {q : Nat} {y : Int32} (h : hmFr z A A1) (e : A'.1 = hs_up A1.1 367 q y) (f : A'.2 = A1.2) (hq : ¬ q = 31) : hmFr z A A' := h.trans ⟨fun i _ _ => by rw [f], fun j _ => by rw [f]; exact ⟨Eq.refl _, Eq.refl _⟩, by rw [e, hup2 (by omega)]⟩
theorem hmFr.wt {j : Nat} {y : Int32} (h : hmFr z A A1) (e : A'.1 = A1.1) (f : A'.2.1 = hs_up A1.2.1 392 j y) : hmFr z A A' := h.trans ⟨fun i _ _ => by rw [f]; funext b; exact hup2 (by omega), fun i _ => by rw [f, hup2 (by omega), hup2 (by omega)]; exact ⟨Eq.refl _, Eq.refl _⟩, by rw [e]⟩
theorem hmE1.fr (h : hmE1 A A' z k v) (hz : z0 ≤ z) : hmFr z0 A A' := by
  obtain ⟨x1, x2, y, e, -, f, -, -, -⟩ := h
  exact ⟨fun i _ _ => by rw [f]; funext b; rw [hup2 (by omega), hup2 (by omega)], fun j hj => by rw [f, hup2 (by omega), hup2 (by omega), hup2 (by omega), hup2 (by omega)]; exact ⟨Eq.refl _, Eq.refl _⟩, by rw [e, hup2 (by omega)]⟩
theorem hmE1.W (h : hmE1 A A' z k v) : hmW A A' := by
  obtain ⟨x1, x2, y, e, -, f, g, -, -⟩ := h
  exact ⟨fun k _ _ => by rw [e, hup2 (by omega)], fun i hi => by rw [f]; funext b; rw [hup2 (by omega), hup2 (by omega)], g⟩
theorem hmX.emit (h : hmX A z0 o w) (E : hmE1 A A' (z0 + o.length) k v) : hmX A' z0 (o ++ [(k, v)]) w := by
  obtain ⟨a, b, c, d⟩ := h
  obtain ⟨x1, x2, y, e, hy, f, -, g1, g2⟩ := E
  have f0 : ∀ j, ¬ j = z0 + o.length → A'.2.1 390 j = A.2.1 390 j := fun j hj => by rw [f, hup2 (by omega), hup2 (by omega)]
  have f1 : ∀ j, ¬ j = z0 + o.length → A'.2.1 391 j = A.2.1 391 j := fun j hj => by rw [f, hup2 (by omega), hup2 (by omega)]
  refine ⟨by rw [e, hup1, hg_ln]; omega, (hm_seg_app o [(k, v)] z0).mpr ⟨b.mv (fun i h1 h2 => ⟨f0 i (by omega), f1 i (by omega)⟩), ?_, ?_, trivial⟩, by rw [e, hup2 (by omega)]; exact c, d.mv (fun i _ => by rw [f, hup2 (by omega), hup2 (by omega)])⟩
  · rw [f, hup2 (by omega), hup1]; exact g1
  · rw [f, hup1]; exact g2
theorem hmX.pop {y : Int32} (h : hmX A z0 o (x :: w)) (e : A'.1 = hs_up A.1 367 41 y) (f : A'.2 = A.2) (hy : y.toInt + 1 = (A.1 367 41).toInt) : hmX A' z0 o w := by
  obtain ⟨a, b, c, d⟩ := h
  have hl : (x :: w).length = w.length + 1 := Eq.refl _
  exact ⟨by rw [e, hup2 (by omega)]; exact a, by rw [f]; exact b, by rw [e, hup1]; omega, by rw [f]; exact d.2⟩
theorem hmX.push {y1 y2 : Int32} {j : Nat} (h : hmX A z0 o w) (hj : j = w.length) (e1 : A1.1 = A.1) (f1 : A1.2.1 = hs_up A.2.1 392 j y1) (e2 : A'.1 = hs_up A1.1 367 41 y2) (f2 : A'.2 = A1.2) (hy : y2.toInt = (w.length : Int) + 1) (hk : hmK y1.toInt (x : Int)) (hx : x = 31 ∨ 26 ≤ x ∧ x ≤ 29) : hmX A' z0 o (x :: w) := by
  obtain ⟨a, b, c, d⟩ := h
  have hl : (x :: w).length = w.length + 1 := Eq.refl _
  have ff : ∀ i q, ¬ (i = 392 ∧ q = j) → A'.2.1 i q = A.2.1 i q := fun i q hq => by rw [f2, f1, hup2 hq]
  refine ⟨by rw [e2, hup2 (by omega), e1]; exact a, b.mv (fun i _ _ => ⟨ff _ _ (by omega), ff _ _ (by omega)⟩), by rw [e2, hup1]; omega, ⟨?_, hx⟩, d.mv (fun i hi => ff _ _ (by omega))⟩
  rw [f2, f1, ← hj, hup1]
  exact hk
theorem hg_fl_pop (h : ¬ (x = 31 ∨ (st = true ∧ x < 28))) : hg_fl st o (x :: w) = hg_fl st (o ++ [(x - 24, 0)]) w := by
  show (if x = 31 ∨ (st = true ∧ x < 28) then _ else _) = _
  rw [if_neg h]
theorem hg_fl_stop (h : x = 31 ∨ (st = true ∧ x < 28)) : hg_fl st o (x :: w) = (o, x :: w) := by
  show (if x = 31 ∨ (st = true ∧ x < 28) then _ else _) = _
  rw [if_pos h]
theorem hg_ct_fl : ∀ (w : List Nat) (o : hg_C), hg_ct (hg_fl false o w).2 = hg_ct w ∧ hg_t0 (hg_fl false o w).2
  | [], o => ⟨Eq.refl _, trivial⟩
  | x :: w, o => by
    by_cases h : x = 31
    · rw [hg_fl_stop (Or.inl h)]
      exact ⟨Eq.refl _, h⟩
    · rw [hg_fl_pop (fun q => by rcases q with q | q; exact h q; exact absurd q.1 (by decide))]
      have := hg_ct_fl w (o ++ [(x - 24, 0)])
      refine ⟨?_, this.2⟩
      rw [this.1]
      show _ = if x = 31 then hg_ct w + 1 else hg_ct w
      rw [if_neg h]
theorem hg_ct0 (e : hg_fl false o w = (o1, w1)) (h : hg_ct w = 0) : w1 = [] := by
  have q := hg_ct_fl w o
  rw [e] at q
  cases w1 with
  | nil => exact Eq.refl _
  | cons x r =>
    have q2 : x = 31 := q.2
    subst q2
    have q1 : hg_ct r + 1 = hg_ct w := q.1
    omega
theorem hg_ctS (e : hg_fl false o w = (o1, w1)) (h : hg_ct w = n + 1) : ∃ r, w1 = 31 :: r ∧ hg_ct r = n := by
  have q := hg_ct_fl w o
  rw [e] at q
  cases w1 with
  | nil =>
    have q1 : 0 = hg_ct w := q.1
    omega
  | cons x r =>
    have q2 : x = 31 := q.2
    subst q2
    have q1 : hg_ct r + 1 = hg_ct w := q.1
    exact ⟨r, Eq.refl _, by omega⟩
theorem hg_ct_fls : ∀ (w : List Nat) (o : hg_C), hg_ct (hg_fl true o w).2 = hg_ct w
  | [], o => Eq.refl _
  | x :: w, o => by
    by_cases h : x = 31 ∨ (true = true ∧ x < 28)
    · rw [hg_fl_stop h]
    · rw [hg_fl_pop h, hg_ct_fls w _]
      show _ = if x = 31 then hg_ct w + 1 else hg_ct w
      rw [if_neg (fun q => h (Or.inl q))]
theorem hg_ct_st (e : hg_fl st o w = (o1, w1)) : hg_ct w1 = hg_ct w := by
  cases st with
  | false => have := (hg_ct_fl w o).1; rw [e] at this; exact this
  | true => have := hg_ct_fls w o; rw [e] at this; exact this
theorem hg_ct_op (h : ¬ x = 31) : hg_ct (x :: w) = hg_ct w := by
  show (if x = 31 then hg_ct w + 1 else hg_ct w) = _
  rw [if_neg h]
end HMX
/-- a branch's marks: b its number -/
def hmB1 (A : hs_A) (z b : Nat) (q : hg_C × hg_C × hg_C) : Prop := ∃ f : Nat, A.2.1 385 b = Int32.ofNat 1 ∧ (A.2.1 386 b).toInt = (f : Int) ∧ (A.2.1 387 b).toInt = ((f + q.1.length : Nat) : Int) ∧ (A.2.1 388 b).toInt = ((f + q.1.length + q.2.1.length : Nat) : Int) ∧ (A.2.1 389 b).toInt = ((f + q.1.length + q.2.1.length + q.2.2.length : Nat) : Int) ∧ f + q.1.length + q.2.1.length + q.2.2.length ≤ z ∧ hm_seg (A.2.1 390) (A.2.1 391) f q.1 ∧ hm_seg (A.2.1 390) (A.2.1 391) (f + q.1.length) q.2.1 ∧ hm_seg (A.2.1 390) (A.2.1 391) (f + q.1.length + q.2.1.length) q.2.2
def hmT1 (A : hs_A) (z b : Nat) (c : hg_C) : Prop := ∃ f : Nat, A.2.1 385 b = Int32.ofNat 0 ∧ (A.2.1 388 b).toInt = (f : Int) ∧ (A.2.1 389 b).toInt = ((f + c.length : Nat) : Int) ∧ f + c.length ≤ z ∧ hm_seg (A.2.1 390) (A.2.1 391) f c
def hmBr (A : hs_A) (z : Nat) : Nat → hg_B → Prop
  | _, [] => True
  | b, q :: r => hmB1 A z b q ∧ hmBr A z (b + 1) r
/-- a law: none told, or its branches from b0 on -/
def hmLw (A : hs_A) (z b b0 b1 k : Nat) (l : hg_L) : Prop := (b0 = b1 ∧ l = ([], [(0, if k = 0 then 1 else 0)])) ∨ (b1 = b0 + l.1.length + 1 ∧ b1 ≤ b ∧ hmBr A z b0 l.1 ∧ hmT1 A z (b0 + l.1.length) l.2)
def hm_hs (V : Nat → Int) (sd : Nat) (A : hs_A) : List Nat → Prop
  | [] => True
  | u :: r => (A.2.1 377 (10 * sd + r.length)).toInt = V (u + 1) ∧ (A.2.1 378 (10 * sd + r.length)).toInt = V (u + 2) ∧ hm_hs V sd A r
/-- all that was told: b branches, z codes -/
def hmM (V : Nat → Int) (A : hs_A) (sd : Nat) (ns : List Nat) (d : hg_D) (b z : Nat) : Prop :=
  (∀ k, k < 4 → ∃ b0 b1 : Nat, (A.2.1 383 (4 * sd + k)).toInt = (b0 : Int) ∧ (A.2.1 384 (4 * sd + k)).toInt = (b1 : Int) ∧ hmLw A z b b0 b1 k (d.2.2.2 k)) ∧
  ((∀ h : Nat, h < 24 → (A.2.1 380 (24 * sd + h)).toInt = d.1 h) ∧ (A.2.1 381 sd).toInt = d.2.1 ∧ (A.2.1 382 sd).toInt = d.2.2.1) ∧ hm_hs V sd A ns
section HMM
variable {V : Nat → Int} {A A1 A' : hs_A} {sd : Nat} {ns : List Nat} {d : hg_D} {b b' z z' : Nat}
theorem hmB1.mv {q : hg_C × hg_C × hg_C} (h : hmB1 A z b q) (hz : z ≤ z') (e : ∀ i, 385 ≤ i → i ≤ 389 → A'.2.1 i b = A.2.1 i b) (f : ∀ j, j < z → A'.2.1 390 j = A.2.1 390 j ∧ A'.2.1 391 j = A.2.1 391 j) : hmB1 A' z' b q := by
  obtain ⟨f0, h1, h2, h3, h4, h5, h6, h7, h8, h9⟩ := h
  exact ⟨f0, by rw [e _ (by omega) (by omega)]; exact h1, by rw [e _ (by omega) (by omega)]; exact h2, by rw [e _ (by omega) (by omega)]; exact h3, by rw [e _ (by omega) (by omega)]; exact h4, by rw [e _ (by omega) (by omega)]; exact h5, by omega, h7.mv (fun i _ _ => f i (by omega)), h8.mv (fun i _ _ => f i (by omega)), h9.mv (fun i _ _ => f i (by omega))⟩
theorem hmT1.mv {c : hg_C} (h : hmT1 A z b c) (hz : z ≤ z') (e : ∀ i, 385 ≤ i → i ≤ 389 → A'.2.1 i b = A.2.1 i b) (f : ∀ j, j < z → A'.2.1 390 j = A.2.1 390 j ∧ A'.2.1 391 j = A.2.1 391 j) : hmT1 A' z' b c := by
  obtain ⟨f0, h1, h2, h3, h4, h5⟩ := h
  exact ⟨f0, by rw [e _ (by omega) (by omega)]; exact h1, by rw [e _ (by omega) (by omega)]; exact h2, by rw [e _ (by omega) (by omega)]; exact h3, by omega, h5.mv (fun i _ _ => f i (by omega))⟩
theorem hmBr.mv (hz : z ≤ z') (f : ∀ j, j < z → A'.2.1 390 j = A.2.1 390 j ∧ A'.2.1 391 j = A.2.1 391 j) : ∀ {l : hg_B} {b : Nat}, hmBr A z b l → (∀ c, b ≤ c → c < b + l.length → ∀ i, 385 ≤ i → i ≤ 389 → A'.2.1 i c = A.2.1 i c) → hmBr A' z' b l
  | [], _, _, _ => trivial
  | q :: r, b, h, e => by
    have hl : (q :: r).length = r.length + 1 := Eq.refl _
    exact ⟨h.1.mv hz (e b (Nat.le_refl b) (by omega)) f, hmBr.mv hz f h.2 (fun c h1 h2 => e c (by omega) (by omega))⟩
theorem hmBr.snoc : ∀ {l : hg_B} {b : Nat} {q : hg_C × hg_C × hg_C}, hmBr A z b l → hmB1 A z (b + l.length) q → hmBr A z b (l ++ [q])
  | [], _, _, _, h => ⟨h, trivial⟩
  | p :: r, b, q, h, h' => by
    have hl : (p :: r).length = r.length + 1 := Eq.refl _
    refine ⟨h.1, hmBr.snoc h.2 ?_⟩
    rw [hl] at h'
    rw [show b + 1 + r.length = b + (r.length + 1) by omega]
    exact h'
theorem hmLw.mv {b0 b1 k : Nat} {l : hg_L} (h : hmLw A z b b0 b1 k l) (hz : z ≤ z') (hb : b ≤ b') (e : ∀ c, c < b → ∀ i, 385 ≤ i → i ≤ 389 → A'.2.1 i c = A.2.1 i c) (f : ∀ j, j < z → A'.2.1 390 j = A.2.1 390 j ∧ A'.2.1 391 j = A.2.1 391 j) : hmLw A' z' b' b0 b1 k l := by
  rcases h with h | ⟨h1, h2, h3, h4⟩
  · exact Or.inl h
  · exact Or.inr ⟨h1, by omega, hmBr.mv hz f h3 (fun c _ hc => e c (by omega)), h4.mv hz (e _ (by omega)) f⟩
theorem hm_hs.mv : ∀ {ns : List Nat}, hm_hs V sd A ns → (∀ i, i < ns.length → A'.2.1 377 (10 * sd + i) = A.2.1 377 (10 * sd + i) ∧ A'.2.1 378 (10 * sd + i) = A.2.1 378 (10 * sd + i)) → hm_hs V sd A' ns
  | [], _, _ => trivial
  | u :: r, h, e => by
    have hl : (u :: r).length = r.length + 1 := Eq.refl _
    have q := e r.length (by omega)
    exact ⟨by rw [q.1]; exact h.1, by rw [q.2]; exact h.2.1, hm_hs.mv h.2.2 (fun i hi => e i (by omega))⟩
theorem hmM.mv (h : hmM V A sd ns d b z) (hz : z ≤ z') (hb : b ≤ b') (g : ∀ i, 377 ≤ i → i ≤ 384 → ¬ i = 379 → A'.2.1 i = A.2.1 i) (e : ∀ c, c < b → ∀ i, 385 ≤ i → i ≤ 389 → A'.2.1 i c = A.2.1 i c) (f : ∀ j, j < z → A'.2.1 390 j = A.2.1 390 j ∧ A'.2.1 391 j = A.2.1 391 j) : hmM V A' sd ns d b' z' := by
  obtain ⟨h1, ⟨h2, h3, h4⟩, h5⟩ := h
  refine ⟨fun k hk => ?_, ⟨fun j hj => ?_, ?_, ?_⟩, h5.mv (fun i _ => ⟨by rw [g 377 (by omega) (by omega) (by omega)], by rw [g 378 (by omega) (by omega) (by omega)]⟩)⟩
  · obtain ⟨b0, b1, a1, a2, a3⟩ := h1 k hk
    exact ⟨b0, b1, by rw [g 383 (by omega) (by omega) (by omega)]; exact a1, by rw [g 384 (by omega) (by omega) (by omega)]; exact a2, a3.mv hz hb e f⟩
  · rw [g 380 (by omega) (by omega) (by omega)]; exact h2 j hj
  · rw [g 381 (by omega) (by omega) (by omega)]; exact h3
  · rw [g 382 (by omega) (by omega) (by omega)]; exact h4
theorem hmM.Q (h : hmM V A sd ns d b z) (q : hmQ A A') : hmM V A' sd ns d b z := h.mv (Nat.le_refl z) (Nat.le_refl b) (fun i _ _ _ => by rw [q.2]) (fun c _ i _ _ => by rw [q.2]) (fun j _ => by rw [q.2]; exact ⟨Eq.refl _, Eq.refl _⟩)
theorem hmM.Fr (h : hmM V A sd ns d b z) (F : hmFr z A A') (hz : z ≤ z') : hmM V A' sd ns d b z' := h.mv hz (Nat.le_refl b) (fun i h1 h2 _ => F.1 i (by omega) (by omega)) (fun c _ i h1 h2 => by rw [F.1 i (by omega) (by omega)]) F.2.1
end HMM
