/-! THE MODEL'S READING: rows of its modes -/
theorem hafA {A A' : hs_A} {c c' j : Nat} {x : Int32} {B : Nat → Int32} (f : A'.2.1 = hs_up A.2.1 c' j x) (hne : ¬ c = c') (h : A.2.1 c = B) : A'.2.1 c = B := by
  rw [f, ← h]
  funext k
  exact hup2 (fun e => hne e.1)
theorem hafF {A A' : hs_A} {c : Nat} {B : Nat → Int32} (f : A'.2 = A.2) (h : A.2.1 c = B) : A'.2.1 c = B := by rw [f]; exact h
theorem hafL {A A' : hs_A} {c : Nat} {B : Nat → Int32} (f : A'.2.1 = A.2.1) (h : A.2.1 c = B) : A'.2.1 c = B := by rw [f]; exact h
section HEL
variable {b c j : Nat} {A A' A2 : hs_A} {x : Int32}
theorem helF {v : Int32} (f : A2.2 = A'.2) (h : A'.2.1 c b = v) : A2.2.1 c b = v := by rw [f]; exact h
theorem helE {v : Int32} (f : A2.2.1 = A'.2.1) (h : A'.2.1 c b = v) : A2.2.1 c b = v := by rw [f]; exact h
theorem helA {v : Int32} {c' : Nat} (f : A2.2.1 = hs_up A'.2.1 c' j x) (hne : ¬ c = c') (h : A'.2.1 c b = v) : A2.2.1 c b = v := by rw [f, hup2 (fun e => hne e.1)]; exact h
theorem helS (f : A2.2.1 = hs_up A'.2.1 c j x) : A2.2.1 c j = x := by rw [f, hup1]
theorem helX {v : Int32} (f : A2.2.1 c = A'.2.1 c) (h : A'.2.1 c b = v) : A2.2.1 c b = v := by rw [f]; exact h
end HEL
noncomputable def hby (A : hs_A) (a : Int32) : Int32 := if a.toInt < (A.1 367 4).toInt then A.2.1 369 a.toNatClampNeg &&& Int32.ofNat 255 else Int32.ofNat 0
theorem hby_c {A : hs_A} {a b : Int32} (h : a.toInt = b.toInt) : hby A a = hby A b := by rw [Int32.toInt_inj.mp h]
theorem hlrA {L l ej : Int} {c : Nat} {j : Int32} (hl : L = l) (hj : j.toInt = ej) (h0 : 0 ≤ ej) (h : ej < 4 * l ∨ 4 * l + 4 ≤ ej) (hc : c = 383 ∨ c = 384) : ¬ hlr L c j.toNatClampNeg := by
  subst hj
  have := hn_cn h0
  unfold hlr
  omega
theorem hlrB {L l ej : Int} {c : Nat} {j : Int32} (hl : L = l) (hj : j.toInt = ej) (h0 : 0 ≤ ej) (h : ej < 130 * l ∨ 130 * l + 130 ≤ ej) (hc : 385 ≤ c ∧ c ≤ 389) : ¬ hlr L c j.toNatClampNeg := by
  subst hj
  have := hn_cn h0
  unfold hlr
  omega
theorem hlrC {L l ej : Int} {c : Nat} {j : Int32} (hl : L = l) (hj : j.toInt = ej) (h0 : 0 ≤ ej) (h : ej < 420 * l ∨ 420 * l + 420 ≤ ej) (hc : c = 390 ∨ c = 391) : ¬ hlr L c j.toNatClampNeg := by
  subst hj
  have := hn_cn h0
  unfold hlr
  omega
section HPM
variable {d : Nat} {ret : Option FieldType} {tb : hc_K} {pc len r1 r2 : Nat} {l st : List Value} {A : hs_A} {P : Option Value → hs_A → Prop} {Q : Nat} {Bn Br : Int} {A0 : hs_A}
theorem hJ.setE {i j : Nat} {x : Int32} (h : hJ Q Bn Br A0 A) (hQ : Q = 4 ∨ Q = 5) (hi : 383 ≤ i ∧ i ≤ 391) (hne : ¬ hlr (A0.1 367 18).toInt i j) : hJ Q Bn Br A0 (A.1, hs_up A.2.1 i j x, A.2.2) := by
  have hm : hEm A0 A → hEm A0 (A.1, hs_up A.2.1 i j x, A.2.2) := fun w c k hl => by
    show hs_up A.2.1 i j x c k = _
    rw [hup2 (fun e => by obtain ⟨rfl, rfl⟩ := e; exact hne hl)]
    exact w c k hl
  have hi' : i = 383 ∨ i = 384 ∨ i = 385 ∨ i = 386 ∨ i = 387 ∨ i = 388 ∨ i = 389 ∨ i = 390 ∨ i = 391 := by omega
  have hb : hb_a i = none := by rcases hi' with rfl | rfl | rfl | rfl | rfl | rfl | rfl | rfl | rfl <;> rfl
  have hn : hq0 i = true := by rcases hi' with rfl | rfl | rfl | rfl | rfl | rfl | rfl | rfl | rfl <;> rfl
  rcases hQ with rfl | rfl
  · exact h.setG (hbokN hb) (by rcases hi' with rfl | rfl | rfl | rfl | rfl | rfl | rfl | rfl | rfl <;> rfl) hn (hm h.2.2.2.2)
  · exact h.setG (hbokN hb) (by rcases hi' with rfl | rfl | rfl | rfl | rfl | rfl | rfl | rfl | rfl <;> rfl) hn (hm h.2.2.2.2)
theorem hxj_iastE {i m : Nat} {j x : Int32} {ej : Int} (hI : hc_get tb pc = some (.iastore, len, r1, r2)) (hs : hc_get hs_sh i = some (0, 1, [m])) (hj : j.toInt = ej) (h0 : 0 ≤ ej) (h1 : ej < (m : Int)) (hA : hJ Q Bn Br A0 A) (hQ : (Q = 4 ∨ Q = 5) ∧ 383 ≤ i ∧ i ≤ 391) (hne : ¬ hlr (A0.1 367 18).toInt i j.toNatClampNeg) (k : ∀ A' : hs_A, hJ Q Bn Br A0 A' → A'.1 = A.1 → A'.2.1 = hs_up A.2.1 i j.toNatClampNeg x → A'.2.2 = A.2.2 → hxa d ret tb (pc + 1) l st A' P) : hxa d ret tb pc l (.int x :: .int j :: .ref (i + 1) :: st) A P := by
  subst hj
  exact hxa_iast hI hs (hn_ix h0 h1).1 (hn_ix h0 h1).2 (k _ (hA.setE hQ.1 hQ.2 hne) rfl rfl rfl)
theorem hxj_zastE {i m : Nat} {j x : Int32} {ej ex : Int} (hI : hc_get tb pc = some (.bastore, len, r1, r2)) (hs : hc_get hs_sh i = some (0, 3, [m])) (hj : j.toInt = ej) (h0 : 0 ≤ ej) (h1 : ej < (m : Int)) (hx0 : x.toInt = ex) (hx1 : 0 ≤ ex) (hx2 : ex ≤ 1) (hA : hJ Q Bn Br A0 A) (hQ : (Q = 4 ∨ Q = 5) ∧ 383 ≤ i ∧ i ≤ 391) (hne : ¬ hlr (A0.1 367 18).toInt i j.toNatClampNeg) (k : ∀ A' : hs_A, hJ Q Bn Br A0 A' → A'.1 = A.1 → A'.2.1 = hs_up A.2.1 i j.toNatClampNeg x → A'.2.2 = A.2.2 → hxa d ret tb (pc + 1) l st A' P) : hxa d ret tb pc l (.int x :: .int j :: .ref (i + 1) :: st) A P := by
  subst hj
  subst hx0
  exact hxa_zast hI (hn_01 hx1 hx2) hs (hn_ix h0 h1).1 (hn_ix h0 h1).2 (k _ (hA.setE hQ.1 hQ.2 hne) rfl rfl rfl)
theorem hxj_ialdK {i m : Nat} {j v : Int32} {ej : Int} (hI : hc_get tb pc = some (.iaload, len, r1, r2)) (hs : hc_get hs_sh i = some (0, 1, [m])) (hj : j.toInt = ej) (h0 : 0 ≤ ej) (h1 : ej < (m : Int)) (e : A.2.1 i j.toNatClampNeg = v) (k : hxa d ret tb (pc + 1) l (.int v :: st) A P) : hxa d ret tb pc l (.int j :: .ref (i + 1) :: st) A P := by
  subst hj
  subst e
  exact hxa_iald hI hs (hn_ix h0 h1).1 (hn_ix h0 h1).2 k
theorem hxj_bast {i m : Nat} {j x : Int32} {ej : Int} (hI : hc_get tb pc = some (.bastore, len, r1, r2)) (hs : hc_get hs_sh i = some (0, 0, [m])) (hj : j.toInt = ej) (h0 : 0 ≤ ej) (h1 : ej < (m : Int)) (hA : hJ Q Bn Br A0 A) (hb : hb_a i = none) (hr : hr_a Q i = true) (hn : hq Q i = true) (k : ∀ A' : hs_A, hJ Q Bn Br A0 A' → A'.1 = A.1 → A'.2.1 = hs_up A.2.1 i j.toNatClampNeg x.toInt8.toInt32 → A'.2.2 = A.2.2 → hxa d ret tb (pc + 1) l st A' P) : hxa d ret tb pc l (.int x :: .int j :: .ref (i + 1) :: st) A P := by
  subst hj
  exact hxa_bast hI hs (hn_ix h0 h1).1 (hn_ix h0 h1).2 (k _ (hA.setI (hbokN hb) hr hn) rfl rfl rfl)
theorem hpl {A A1 A2 : hs_A} {s k0 : Int} {j j' x x' k1 : Int32} (e1 : A1.2.1 = hs_up A.2.1 383 j.toNatClampNeg x) (e2 : A2.2.1 = hs_up A1.2.1 384 j'.toNatClampNeg x') (hx : x = x') (hj : j.toInt = 4 * s + k0) (hj' : j'.toInt = 4 * s + k0) (h0 : 0 ≤ 4 * s + k0) (hk : k1.toInt = k0 + 1) (u : ∀ a : Nat, 4 * s ≤ a → (a : Int) < 4 * s + k0 → (A.2.1 383 a).toInt = (A.2.1 384 a).toInt) : ∀ a : Nat, 4 * s ≤ a → (a : Int) < 4 * s + k1.toInt → (A2.2.1 383 a).toInt = (A2.2.1 384 a).toInt := by
  intro a h1 h2
  have c1 := hn_cn (j := j) (by omega)
  have c2 := hn_cn (j := j') (by omega)
  have ej : j.toNatClampNeg = j'.toNatClampNeg := by omega
  rw [e2, hup2 (a := 383) (by omega), e1]
  by_cases q : a = j.toNatClampNeg
  · subst q
    rw [hup1, ej, hup1, hx]
  · rw [hup2 (fun w => q w.2), hup2 (fun w => q (w.2.trans ej.symm)), hup2 (by omega)]
    exact u a h1 (by omega)
end HPM
