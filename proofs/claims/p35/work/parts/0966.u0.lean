/-! THE REFERENCE'S TOKENS -/
def hmTp (B : Nat → Int) (n : Nat) (A : hs_A) : Prop := (A.1 367 4).toInt = (n : Int) ∧ ∀ i, i < n → (A.2.1 369 i).toInt = B i
/-- the keys' row -/
def hmKy (A : hs_A) : Prop := ∀ q, q < 20 → (A.2.2.1 374 q).toInt = ht_g 27 96 (hw_w q).reverse
theorem hcU.ky {A : hs_A} (h : hcU A) : hmKy A := fun q hq => by
  have key : ∀ q : Fin 20, (hky q.1).toInt = ht_g 27 96 (hw_w q.1).reverse := by decide +kernel
  rw [h q hq]
  exact key ⟨q, hq⟩
theorem hand255 {x : Int32} (h0 : -128 ≤ x.toInt) (h1 : x.toInt ≤ 127) : (0 ≤ x.toInt ∧ (x &&& Int32.ofNat 255).toInt = x.toInt) ∨ (x.toInt < 0 ∧ (x &&& Int32.ofNat 255).toInt = x.toInt + 256) := by
  have hc : x.toInt = if 2 * x.toBitVec.toNat < 2 ^ 32 then (x.toBitVec.toNat : Int) else (x.toBitVec.toNat : Int) - ((2 ^ 32 : Nat) : Int) := BitVec.toInt_eq_toNat_cond x.toBitVec
  have hlt := x.toBitVec.isLt
  have hn : (x.toBitVec &&& 255#32).toNat = x.toBitVec.toNat % 2 ^ 8 := by
    rw [BitVec.toNat_and, show (255#32).toNat = 2 ^ 8 - 1 from rfl, Nat.and_two_pow_sub_one_eq_mod]
  have ha : (x &&& Int32.ofNat 255).toInt = ((x.toBitVec.toNat % 2 ^ 8 : Nat) : Int) := by
    show (x.toBitVec &&& 255#32).toInt = _
    rw [BitVec.toInt_eq_toNat_cond, hn, if_pos (by omega)]
  rw [ha]
  split at hc <;> omega
theorem h64app {x : Int64} {y : Int32} (hx0 : 0 ≤ x.toInt) (hx1 : x.toInt < 1099511627776) (hy0 : 0 ≤ y.toInt) (hy1 : y.toInt < 32) : (Int64.ofNat 27 * x + y.toInt64).toInt = 27 * x.toInt + y.toInt := by
  have e1 := h64c 27 (by omega)
  have e3 : y.toInt64.toInt = y.toInt := Int32.toInt_toInt64 y
  have m := h64mul (x := Int64.ofNat 27) (y := x) (by rw [e1]; omega) (by rw [e1]; omega)
  rw [e1] at m
  have a := h64add (x := Int64.ofNat 27 * x) (y := y.toInt64) (by omega) (by omega)
  omega
def hmG (A A' : hs_A) (j : Nat) (k p v : Int32) (x : Int64) : Prop := (A'.1 367 10).toInt = (j : Int) + 1 ∧ (∀ i q, ¬ (i = 367 ∧ q = 10) → A'.1 i q = A.1 i q) ∧ (A'.2.1 370 j = k ∧ A'.2.1 371 j = p ∧ A'.2.1 372 j = v ∧ A'.2.2.1 373 j = x) ∧ (∀ i u, ¬ ((i = 370 ∨ i = 371 ∨ i = 372) ∧ u = j) → A'.2.1 i u = A.2.1 i u) ∧ (∀ c u, ¬ (c = 373 ∧ u = j) → A'.2.2.1 c u = A.2.2.1 c u) ∧ A'.2.2.2 = A.2.2.2
theorem hmG.of {A A1 A2 A3 A4 A5 : hs_A} {j : Nat} {k p v y : Int32} {x : Int64} (e1 : A1.1 = A.1) (f1 : A1.2.1 = hs_up A.2.1 370 j k) (g1 : A1.2.2 = A.2.2) (e2 : A2.1 = A1.1) (f2 : A2.2.1 = hs_up A1.2.1 371 j p) (g2 : A2.2.2 = A1.2.2) (e3 : A3.1 = A2.1) (f3 : A3.2.1 = hs_up A2.2.1 372 j v) (g3 : A3.2.2 = A2.2.2) (e4 : A4.1 = A3.1) (f4 : A4.2.1 = A3.2.1) (g4 : A4.2.2.1 = hs_upL A3.2.2.1 373 j x) (i4 : A4.2.2.2 = A3.2.2.2) (e5 : A5.1 = hs_up A4.1 367 10 y) (f5 : A5.2 = A4.2) (hy : y.toInt = (j : Int) + 1) : hmG A A5 j k p v x := by
  refine ⟨by rw [e5, hup1]; exact hy, fun i q h => by rw [e5, hup2 h, e4, e3, e2, e1], ⟨?_, ?_, ?_, ?_⟩, fun i u h => ?_, fun c u h => ?_, ?_⟩
  · rw [f5, f4, f3, hup2 (by omega), f2, hup2 (by omega), f1, hup1]
  · rw [f5, f4, f3, hup2 (by omega), f2, hup1]
  · rw [f5, f4, f3, hup1]
  · rw [f5, g4, hupL1]
  · rw [f5, f4, f3, hup2 (by omega), f2, hup2 (by omega), f1, hup2 (by omega)]
  · rw [f5, g4, hupL2 (by omega), g3, g2, g1]
  · rw [f5, i4, g3, g2, g1]
def hmD (B : Nat → Int) (n : Nat) (A : hs_A) (u : Nat) : Prop := hmK (A.2.1 370 u).toInt (ht_K B n u) ∧ (A.2.1 371 u).toInt = (ht_S B n u : Int) ∧ (ht_K B n u = 21 → (A.2.1 372 u).toInt = ht_W B n u) ∧ (ht_K B n u = 20 → (A.2.2.1 373 u).toInt = ht_g 27 96 (ht_M B n u))
def hmC (A A' : hs_A) : Prop := (∀ i k, ¬ (i = 367 ∧ k = 10) → A'.1 i k = A.1 i k) ∧ (∀ i, i ≠ 370 → i ≠ 371 → i ≠ 372 → A'.2.1 i = A.2.1 i) ∧ (∀ c, c ≠ 373 → A'.2.2.1 c = A.2.2.1 c) ∧ A'.2.2.2 = A.2.2.2
section HMU
variable {B : Nat → Int} {n j : Nat} {A0 A A' : hs_A} {k p v : Int32} {x : Int64}
theorem hmC.more (h : hmC A0 A) (G : hmG A A' j k p v x) : hmC A0 A' := by
  obtain ⟨c1, c2, c3, c4⟩ := h
  obtain ⟨-, g2, -, g4, g5, g6⟩ := G
  refine ⟨fun i k hi => (g2 i k hi).trans (c1 i k hi), fun i h1 h2 h3 => ?_, fun c hc => ?_, g6.trans c4⟩
  · rw [← c2 i h1 h2 h3]
    funext u
    exact g4 i u (by omega)
  · rw [← c3 c hc]
    funext u
    exact g5 c u (by omega)
theorem hmD.more (h : ∀ u, u < j → hmD B n A u) (G : hmG A A' j k p v x) (h1 : hmK k.toInt (ht_K B n j)) (h2 : p.toInt = (ht_S B n j : Int)) (h3 : ht_K B n j = 21 → v.toInt = ht_W B n j) (h4 : ht_K B n j = 20 → x.toInt = ht_g 27 96 (ht_M B n j)) : ∀ u, u < j + 1 → hmD B n A' u := by
  obtain ⟨-, -, ⟨a, b, c, d⟩, g4, g5, -⟩ := G
  intro u hu
  by_cases q : u = j
  · subst q
    exact ⟨by rw [a]; exact h1, by rw [b]; exact h2, fun w => by rw [c]; exact h3 w, fun w => by rw [d]; exact h4 w⟩
  · obtain ⟨d1, d2, d3, d4⟩ := h u (by omega)
    exact ⟨by rw [g4 370 u (by omega)]; exact d1, by rw [g4 371 u (by omega)]; exact d2, fun w => by rw [g4 372 u (by omega)]; exact d3 w, fun w => by rw [g5 373 u (by omega)]; exact d4 w⟩
theorem hmTp.C (h : hmTp B n A) (w : hmC A A') : hmTp B n A' := ⟨by rw [w.1 367 4 (by omega)]; exact h.1, fun i hi => by rw [w.2.1 369 (by omega) (by omega) (by omega)]; exact h.2 i hi⟩
theorem hcU.C (h : hcU A) (w : hmC A A') : hcU A' := h.fr (w.2.2.1 374 (by omega))
theorem hmT.of {J : Nat} (hd : ∀ u, u < J → hmD B n A u) (hc : ∀ u, u ≤ 400 → hq_pre (ht_K B n) u → u < J) (hU : hcU A) : hmT (ht_K B n) (ht_W B n) (fun u => (ht_S B n u : Int)) A ∧ hmE (ht_K B n) (ht_E B n) A := by
  constructor
  · intro u h1 h2
    obtain ⟨d1, d2, d3, d4⟩ := hd u (hc u h1 h2)
    exact ⟨d1, d2, d3⟩
  · refine ⟨?_, hU⟩
    intro u t h1 h2 h3 h4 h5 h6
    obtain ⟨-, -, -, du⟩ := hd u (hc u h1 h3)
    obtain ⟨-, -, -, dt⟩ := hd t (hc t h2 h4)
    unfold ht_E
    rw [decide_eq_true_iff]
    constructor
    · intro q
      refine ht_g_inj (b := 27) (z := 96) (by omega) (fun c hc => by have := ht_K20 h5 c hc; omega) (fun c hc => by have := ht_K20 h6 c hc; omega) ?_
      rw [← du h5, ← dt h6, q]
    · intro q
      apply Int64.toInt_inj.mp
      rw [du h5, dt h6, q]
theorem hmS.of : hmS (ht_K B n) (fun u => (ht_S B n u : Int)) := by
  intro u t hut ht hp
  have key : ∀ d : Nat, u + (d + 1) ≤ t → ht_S B n u < ht_S B n (u + (d + 1)) := by
    have one : ∀ w, w < t → ht_S B n w < ht_S B n (w + 1) := fun w hw => by
      refine ht_S_lt B n ?_
      have h1 := ht_S_le B n w
      by_cases q : ht_S B n w < n
      · exact q
      · exact absurd (ht_kind_end (B := B) (p := ht_S B n w) (by omega)) (hp w hw).1
    intro d
    induction d with
    | zero => intro h; exact one u (by omega)
    | succ d ih =>
      intro h
      have h1 := ih (by omega)
      have h2 := one (u + (d + 1)) (by omega)
      exact Nat.lt_trans h1 h2
  have := key (t - u - 1) (by omega)
  rw [show u + (t - u - 1 + 1) = t by omega] at this
  show (ht_S B n u : Int) < (ht_S B n t : Int)
  omega
end HMU
theorem hsg_one {b : Int} : (b = 59 → ht_sg b = 24) ∧ (b = 61 → ht_sg b = 25) ∧ (b = 43 → ht_sg b = 26) ∧ (b = 45 → ht_sg b = 27) ∧ (b = 42 → ht_sg b = 28) ∧ (b = 47 → ht_sg b = 29) ∧ (b = 60 → ht_sg b = 30) ∧ (b = 40 → ht_sg b = 31) ∧ (b = 41 → ht_sg b = 32) := ⟨fun q => by subst q; decide, fun q => by subst q; decide, fun q => by subst q; decide, fun q => by subst q; decide, fun q => by subst q; decide, fun q => by subst q; decide, fun q => by subst q; decide, fun q => by subst q; decide, fun q => by subst q; decide⟩
theorem hsg_no {b : Int} (h1 : ¬ b = 59) (h2 : ¬ b = 61) (h3 : ¬ b = 43) (h4 : ¬ b = 45) (h5 : ¬ b = 42) (h6 : ¬ b = 47) (h7 : ¬ b = 60) (h8 : ¬ b = 40) (h9 : ¬ b = 41) : ht_sg b = 23 := by
  unfold ht_sg
  rw [if_neg h1, if_neg h2, if_neg h3, if_neg h4, if_neg h5, if_neg h6, if_neg h7, if_neg h8, if_neg h9]
/-- the words' letters; no word twice -/
theorem hww_le {q : Nat} (hq : q < 20) : ∀ c, c ∈ (hw_w q).reverse → 1 ≤ c - 96 ∧ c - 96 < 27 := by
  have key : ∀ q : Fin 20, ∀ c, c ∈ hw_w q.1 → 1 ≤ c - 96 ∧ c - 96 < 27 := by decide +kernel
  intro c hc
  exact key ⟨q, hq⟩ c (List.mem_reverse.mp hc)
theorem hww_ne {q q' : Nat} (hq : q < 20) (hq' : q' < 20) (h : hw_w q = hw_w q') : q = q' := by
  have key : ∀ q q' : Fin 20, hw_w q.1 = hw_w q'.1 → q.1 = q'.1 := by decide +kernel
  exact key ⟨q, hq⟩ ⟨q', hq'⟩ h
theorem hkey_iff {B : Nat → Int} {p m q : Nat} {x y : Int64} (hq : q < 20) (hx : x.toInt = ht_g 27 96 (hw_w q).reverse) (hy : y.toInt = ht_g 27 96 (ht_rv B p m)) (hl : ∀ i, p ≤ i → i < p + m → ht_le (B i) = true) : x = y ↔ ht_ws[q]? = some (ht_sub B p (p + m)) := by
  rw [hww_get hq]
  constructor
  · intro e
    have h1 := ht_g_inj (b := 27) (z := 96) (by omega) (hww_le hq) (fun c hc => by obtain ⟨i, i1, i2, rfl⟩ := ht_rv_mem hc; have := ht_le_iff.mp (hl i i1 i2); omega) (hx.symm.trans ((congrArg Int64.toInt e).trans hy))
    rw [ht_rv_sub] at h1
    exact congrArg some (List.reverse_inj.mp h1)
  · intro e
    apply Int64.toInt_inj.mp
    rw [hx, hy, ht_rv_sub, ← Option.some.inj e]
theorem hmK0 : hmK 0 22 := Or.inr (Or.inl ⟨rfl, rfl⟩)
theorem hmK1 : hmK 1 20 := Or.inr (Or.inr (Or.inl ⟨rfl, rfl⟩))
theorem hmK2 : hmK 2 21 := Or.inr (Or.inr (Or.inr (Or.inl ⟨rfl, rfl⟩)))
theorem hmK3 : hmK 3 23 := Or.inr (Or.inr (Or.inr (Or.inr (Or.inl ⟨rfl, rfl⟩))))
theorem hmKw {x : Int} (h0 : 0 ≤ x) (h1 : x ≤ 19) : hmK (20 + x) x := Or.inl ⟨h0, h1, by omega⟩
theorem hkd_word {B : Nat → Int} {n j m : Nat} {l6 l7 : Int} (hpn : ht_S B n j < n) (hl : ht_le (B (ht_S B n j)) = true) (hend : ht_run B n ht_le (ht_S B n j) = ht_S B n j + m) (hm8 : m ≤ 8) (h20 : 20 ≤ l7) (h20' : l7 ≤ 20) (kd : (l6 = 1 ∧ ∀ q : Nat, (q : Int) < l7 → ht_ws[q]? ≠ some (ht_sub B (ht_S B n j) (ht_S B n j + m))) ∨ (∃ q : Nat, (q : Int) < l7 ∧ l6 = 20 + (q : Int) ∧ ht_ws[q]? = some (ht_sub B (ht_S B n j) (ht_S B n j + m)))) : hmK l6 (ht_K B n j) ∧ ht_K B n j ≠ 21 := by
  have hKdef : ht_K B n j = ht_kind B n (ht_S B n j) := rfl
  have hw20 : ht_ws.length = 20 := by decide
  rcases kd with ⟨k1, k2⟩ | ⟨q, k1, k2, k3⟩
  · have e : ht_K B n j = 20 := by rw [hKdef, ht_kind_le hpn hl, if_pos (by omega), hend, ht_ix_none (fun q hq => k2 q (by omega))]
    rw [e, k1]
    exact ⟨hmK1, by omega⟩
  · have e : ht_K B n j = (q : Int) := by rw [hKdef, ht_kind_le hpn hl, if_pos (by omega), hend, ht_ix_some (fun i hi w => absurd (hww_ne (q := i) (q' := q) (by omega) (by omega) (Option.some.inj ((hww_get (by omega)).symm.trans (w.trans (k3.symm.trans (hww_get (by omega))))))) (by omega)) k3, Nat.zero_add]
    rw [e, k2]
    exact ⟨hmKw (by omega) (by omega), by omega⟩
