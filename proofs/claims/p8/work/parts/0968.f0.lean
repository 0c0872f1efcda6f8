/-! WHAT A THING DONE LEAVES: the row that is, the rows that were -/
def hDone (A A' : hs_A) (g : Nat → Int32) : Prop := (∀ k : Nat, k < 73 → A'.2.1 395 k = g k) ∧ ∃ u s : Nat, u ≤ 39 ∧ (A'.1 367 51).toInt = (u : Int) + 1 ∧ ((A.1 367 51).toInt = (u : Int) ∧ s = 0 ∨ (A.1 367 51).toInt = 40 ∧ u = 39 ∧ s = 1) ∧ (∀ k : Nat, k < 73 → A'.2.1 399 (73 * u + k) = A.2.1 395 k) ∧ (∀ i : Nat, i < u → ∀ k : Nat, k < 73 → A'.2.1 399 (73 * i + k) = A.2.1 399 (73 * (i + s) + k))
theorem hDone.pre {A A2 A' : hs_A} {g : Nat → Int32} (h : hDone A2 A' g) (e5 : ∀ k : Nat, k < 73 → A2.2.1 395 k = A.2.1 395 k) (e9 : ∀ j : Nat, j < 2920 → A2.2.1 399 j = A.2.1 399 j) (e1 : A2.1 367 51 = A.1 367 51) : hDone A A' g := by
  obtain ⟨h1, u, s, h2, h3, h4, h5, h6⟩ := h
  rw [e1] at h4
  exact ⟨h1, u, s, h2, h3, h4, fun k hk => (h5 k hk).trans (e5 k hk), fun i hi k hk => (h6 i hi k hk).trans (e9 _ (by omega))⟩
theorem hDone.cg {A A' : hs_A} {g g' : Nat → Int32} (h : hDone A A' g) (e : ∀ k : Nat, k < 73 → g' k = g k) : hDone A A' g' := ⟨fun k hk => (h.1 k hk).trans (e k hk).symm, h.2⟩
theorem uf_i190 {d : Nat} {A : hs_A} {P : Option Value → hs_A → Prop} (hH : uf_H A) (w : hxC d 190 hm_m190 [.ref 368] A P) : hxC d 190 hm_m190 [.ref 368] A (fun r A' => P r A' ∧ uf_W ug_x201.2.2.2.1 A A' ∧ uf_H A') := uf_X (X := ug_x201) (j := 201) rfl rfl (ug_L.cons uf_r1 uf_nil) hH w
theorem uf_i171 {d : Nat} {A : hs_A} {P : Option Value → hs_A → Prop} (hH : uf_H A) (w : hxC d 171 hm_m171 [.ref 368] A P) : hxC d 171 hm_m171 [.ref 368] A (fun r A' => P r A' ∧ uf_W ug_x113.2.2.2.1 A A' ∧ uf_H A') := uf_X (X := ug_x113) (j := 113) rfl rfl (ug_L.cons uf_r1 uf_nil) hH w
theorem uf_i170 {d : Nat} {A : hs_A} {P : Option Value → hs_A → Prop} (hH : uf_H A) (w : hxC d 170 hm_m170 [.ref 368] A P) : hxC d 170 hm_m170 [.ref 368] A (fun r A' => P r A' ∧ uf_W ug_x95.2.2.2.1 A A' ∧ uf_H A') := uf_X (X := ug_x95) (j := 95) rfl rfl (ug_L.cons uf_r1 uf_nil) hH w
theorem hY171g {d : Nat} {Bn Br : Int} {A0 A : hs_A} (hA : hJ 0 Bn Br A0 A)    {P : Option Value → hs_A → Prop} (hP : ∀ (r : Option Value) (A' : hs_A), (hJ 0 Bn Bn A0 A' ∧ r = none ∧ (∀ k : Nat, k < 73 → A'.2.1 396 k = A.2.1 395 k)) → P r A') : hxa (d + 0) none hm_t171 0 [.ref 368, .retAddr 0] [] A P := by
  have k0 := hk_0
  have hB0 := hA.pos
  have H1 : hJ 0 Bn (Br + Bn) A0 A := hJ.mono hA (by omega) (by omega)
  have L2 : ∀ (m2 : Nat) (x2_1 : Int32) (Ac2 : hs_A) (hAc2 : hJ 0 Bn (Br + Bn) A0 Ac2) (bx2_1 : 0 ≤ x2_1.toInt) (cx2_1 : x2_1.toInt ≤ 73) (u2_0 : x2_1.toInt ≤ 70 ∨ (Ac2.2.1 396 70).toInt ≤ Bn) (hm2 : 73 - x2_1.toInt < (m2 : Int)) (iv2 : (∀ k : Nat, (k : Int) < x2_1.toInt → Ac2.2.1 396 k = A.2.1 395 k) ∧ (∀ k : Nat, Ac2.2.1 395 k = A.2.1 395 k)), hxa (d + 0) none hm_t171 2 [.ref 368, .int x2_1] [] Ac2 P := by
    intro m2
    induction m2 with
    | zero => intro x2_1 Ac2 hAc2 bx2_1 cx2_1 u2_0 hm2 iv2;  exact False.elim (by omega)
    | succ m2 ih2 =>
      intro x2_1 Ac2 hAc2 bx2_1 cx2_1 u2_0 hm2 iv2
      refine hxa_iload_n (by rfl) rfl ?_
      refine hxa_bipush (by rfl) rfl ?_
      refine hxj_cge (by rfl) rfl hk_73 (fun q2 => ?_) (fun q2 => ?_)
      ·
        have H3 : hJ 0 Bn Bn A0 Ac2 := hJ.low hAc2 (by omega)
        refine hxa_aload_n (by rfl) rfl ?_
        refine hxa_aload_n (by rfl) rfl ?_
        refine hxa_get (v := .ref 383) (by rfl) (by rfl) (by rfl) rfl ?_
        refine hxa_aload_n (by rfl) rfl ?_
        refine hxj_getB (by rfl) (by rfl) (by rfl) H3 (by rfl) (fun z4 ez4 fz4 gz4 => ?_)
        refine hxj_iald (by rfl) (by rfl) rfl (by omega) (by omega) (fun z5 ez5 => ?_)
        refine hxj_putI (by rfl) (by rfl) (by rfl) (by rfl) H3 (hbokN (by rfl)) (by rfl) (by rfl) (fun A6 hA6 eA6 fA6 => ?_)
        refine hxa_aload_n (by rfl) rfl ?_
        refine hxa_iconst (by rfl) rfl ?_
        refine hxj_putI (by rfl) (by rfl) (by rfl) (by rfl) hA6 (hbokN (by rfl)) (by rfl) (by rfl) (fun A7 hA7 eA7 fA7 => ?_)
        exact hxa_return (by rfl) rfl (hP _ _ ⟨hA7, rfl, fun k hk => by rw [fA7, fA6]; exact iv2.1 k (by omega)⟩)
      ·
        refine hxa_aload_n (by rfl) rfl ?_
        refine hxa_get (v := .ref 397) (by rfl) (by rfl) (by rfl) rfl ?_
        refine hxa_iload_n (by rfl) rfl ?_
        refine hxa_aload_n (by rfl) rfl ?_
        refine hxa_get (v := .ref 396) (by rfl) (by rfl) (by rfl) rfl ?_
        refine hxa_iload_n (by rfl) rfl ?_
        refine hxj_iald395 (by rfl) rfl (by omega) (by omega) hAc2 (fun z8 ez8 fz8 => ?_)
        refine hxj_iast396 (by rfl) rfl (by omega) (by omega) rfl hAc2 (by omega) (fun A9 hA9 eA9 fA9 gA9 => ?_)
        refine hxj_iinc (by rfl) rfl rfl hk_1 (by omega) (by omega) (fun _ => rfl) (fun z10 ez10 => ?_)
        refine hxa_goto (by rfl) ?_
        exact ih2 z10 A9 hA9 (by omega) (by omega) (by first | (left; omega) | exact hcp (by assumption) (by omega) (by assumption) (by assumption) u2_0) (by omega) (⟨fun k hk => by rw [fA9]; by_cases q : k = x2_1.toNatClampNeg; (rw [q, hup1, ← ez8]; exact iv2.2 _); (rw [hup2 (fun w => q w.2)]; exact iv2.1 k (by have := hn_cn (j := x2_1) (by omega); omega)), fun k => by rw [fA9, hup2 (by omega)]; exact iv2.2 k⟩)
  refine hxa_iconst (by rfl) rfl ?_
  refine hxa_s1 (by rfl) (Or.inl ⟨_, rfl, rfl⟩) rfl ?_
  exact L2 (Int.toNat (73 - 0) + 1) (Int32.ofNat 0) A H1 (by omega) (by omega) (by first | (left; omega) | exact hcp (by assumption) (by omega) (by assumption) (by assumption) u2_0) (by omega) (⟨fun k hk => absurd hk (by omega), fun _ => rfl⟩)
theorem hX171g {d : Nat} {Bn Br : Int} {A0 A : hs_A} (hA : hJ 0 Bn Br A0 A)    : hxC (d + 1) 171 hm_m171 [.ref 368] A (fun r A' => hJ 0 Bn Bn A0 A' ∧ r = none ∧ (∀ k : Nat, k < 73 → A'.2.1 396 k = A.2.1 395 k)) := hxC.of (by rfl) (hY171g hA   (fun r A' h => h))
theorem hY170g {d : Nat} {Bn Br : Int} {A0 A : hs_A} (hA : hJ 0 Bn Br A0 A) (hBr : Br ≤ Bn + 72)   {P : Option Value → hs_A → Prop} (hP : ∀ (r : Option Value) (A' : hs_A), (hJ 0 (Bn + 72) Br A0 A' ∧ r = none ∧ (∀ k : Nat, k < 73 → A'.2.1 395 k = A.2.1 396 k)) → P r A') : hxa (d + 0) none hm_t170 0 [.ref 368, .retAddr 0] [] A P := by
  have k0 := hk_0
  have L2 : ∀ (m2 : Nat) (x2_1 : Int32) (Ac2 : hs_A) (hAc2 : hJ 0 (Bn + 72) Br A0 Ac2) (bx2_1 : 0 ≤ x2_1.toInt) (cx2_1 : x2_1.toInt ≤ 73) (hm2 : 73 - x2_1.toInt < (m2 : Int)) (iv2 : (∀ k : Nat, (k : Int) < x2_1.toInt → Ac2.2.1 395 k = A.2.1 396 k) ∧ (∀ k : Nat, Ac2.2.1 396 k = A.2.1 396 k)), hxa (d + 0) none hm_t170 2 [.ref 368, .int x2_1] [] Ac2 P := by
    intro m2
    induction m2 with
    | zero => intro x2_1 Ac2 hAc2 bx2_1 cx2_1 hm2 iv2;  exact False.elim (by omega)
    | succ m2 ih2 =>
      intro x2_1 Ac2 hAc2 bx2_1 cx2_1 hm2 iv2
      refine hxa_iload_n (by rfl) rfl ?_
      refine hxa_bipush (by rfl) rfl ?_
      refine hxj_cge (by rfl) rfl hk_73 (fun q1 => ?_) (fun q1 => ?_)
      ·
        exact hxa_return (by rfl) rfl (hP _ _ ⟨hAc2, rfl, fun k hk => iv2.1 k (by omega)⟩)
      ·
        refine hxa_aload_n (by rfl) rfl ?_
        refine hxa_get (v := .ref 396) (by rfl) (by rfl) (by rfl) rfl ?_
        refine hxa_iload_n (by rfl) rfl ?_
        refine hxa_aload_n (by rfl) rfl ?_
        refine hxa_get (v := .ref 397) (by rfl) (by rfl) (by rfl) rfl ?_
        refine hxa_iload_n (by rfl) rfl ?_
        refine hxj_iald396 (by rfl) rfl (by omega) (by omega) hAc2 (fun z2 ez2 fz2 => ?_)
        refine hxj_iast395 (by rfl) rfl (by omega) (by omega) rfl hAc2 (by omega) (fun A3 hA3 eA3 fA3 gA3 => ?_)
        refine hxj_iinc (by rfl) rfl rfl hk_1 (by omega) (by omega) (fun _ => rfl) (fun z4 ez4 => ?_)
        refine hxa_goto (by rfl) ?_
        exact ih2 z4 A3 hA3 (by omega) (by omega) (by omega) (⟨fun k hk => by rw [fA3]; by_cases q : k = x2_1.toNatClampNeg; (rw [q, hup1, ← ez2]; exact iv2.2 _); (rw [hup2 (fun w => q w.2)]; exact iv2.1 k (by have := hn_cn (j := x2_1) (by omega); omega)), fun k => by rw [fA3, hup2 (by omega)]; exact iv2.2 k⟩)
  have H5 : hJ 0 (Bn + 72) Br A0 A := hJ.mono hA (by omega) (by omega)
  refine hxa_iconst (by rfl) rfl ?_
  refine hxa_s1 (by rfl) (Or.inl ⟨_, rfl, rfl⟩) rfl ?_
  exact L2 (Int.toNat (73 - 0) + 1) (Int32.ofNat 0) A H5 (by omega) (by omega) (by omega) (⟨fun k hk => absurd hk (by omega), fun _ => rfl⟩)
theorem hX170g {d : Nat} {Bn Br : Int} {A0 A : hs_A} (hA : hJ 0 Bn Br A0 A) (hBr : Br ≤ Bn + 72)   : hxC (d + 1) 170 hm_m170 [.ref 368] A (fun r A' => hJ 0 (Bn + 72) Br A0 A' ∧ r = none ∧ (∀ k : Nat, k < 73 → A'.2.1 395 k = A.2.1 396 k)) := hxC.of (by rfl) (hY170g hA hBr  (fun r A' h => h))
theorem hrec_s {A Ac A8 : hs_A} {w x z6 z7 z9 : Int32} (iv : ∃ u s : Nat, w.toInt = (u : Int) ∧ ((A.1 367 51).toInt = (u : Int) ∧ s = 0 ∨ (A.1 367 51).toInt = 40 ∧ u = 39 ∧ s = 1) ∧ (∀ k : Nat, (k : Int) < x.toInt → Ac.2.1 399 (73 * u + k) = A.2.1 395 k) ∧ (∀ i : Nat, i < u → ∀ k : Nat, k < 73 → Ac.2.1 399 (73 * i + k) = A.2.1 399 (73 * (i + s) + k)) ∧ (∀ k : Nat, Ac.2.1 395 k = A.2.1 395 k) ∧ (∀ k : Nat, Ac.2.1 396 k = A.2.1 396 k)) (f : A8.2.1 = hs_up Ac.2.1 399 z6.toNatClampNeg z7) (e : Ac.2.1 395 x.toNatClampNeg = z7) (h6 : z6.toInt = 73 * w.toInt + x.toInt) (hx : 0 ≤ x.toInt) (h9 : z9.toInt = x.toInt + 1) : ∃ u s : Nat, w.toInt = (u : Int) ∧ ((A.1 367 51).toInt = (u : Int) ∧ s = 0 ∨ (A.1 367 51).toInt = 40 ∧ u = 39 ∧ s = 1) ∧ (∀ k : Nat, (k : Int) < z9.toInt → A8.2.1 399 (73 * u + k) = A.2.1 395 k) ∧ (∀ i : Nat, i < u → ∀ k : Nat, k < 73 → A8.2.1 399 (73 * i + k) = A.2.1 399 (73 * (i + s) + k)) ∧ (∀ k : Nat, A8.2.1 395 k = A.2.1 395 k) ∧ (∀ k : Nat, A8.2.1 396 k = A.2.1 396 k) := by
  obtain ⟨u, s, i1, i2, i3, i4, i5, i6⟩ := iv
  have c6 := hn_cn (j := z6) (by omega)
  have cx := hn_cn (j := x) hx
  refine ⟨u, s, i1, i2, fun k hk => ?_, fun i hi k hk => ?_, fun k => ?_, fun k => ?_⟩
  · rw [f]
    by_cases q : 73 * u + k = z6.toNatClampNeg
    · rw [q, hup1, ← e, i5, show x.toNatClampNeg = k by omega]
    · rw [hup2 (fun w => q w.2)]
      exact i3 k (by omega)
  · rw [f, hup2 (by omega)]
    exact i4 i hi k hk
  · rw [f, hup2 (by omega)]
    exact i5 k
  · rw [f, hup2 (by omega)]
    exact i6 k
theorem hrec_t {A Ac A15 : hs_A} {x z13 z14 z16 : Int32} (iv : (∀ j : Nat, (j : Int) < x.toInt → Ac.2.1 399 j = A.2.1 399 (j + 73)) ∧ (∀ j : Nat, x.toInt ≤ (j : Int) → Ac.2.1 399 j = A.2.1 399 j) ∧ (∀ k : Nat, Ac.2.1 395 k = A.2.1 395 k) ∧ (∀ k : Nat, Ac.2.1 396 k = A.2.1 396 k)) (f : A15.2.1 = hs_up Ac.2.1 399 x.toNatClampNeg z14) (e : Ac.2.1 399 z13.toNatClampNeg = z14) (h13 : z13.toInt = x.toInt + 73) (hx : 0 ≤ x.toInt) (h16 : z16.toInt = x.toInt + 1) : (∀ j : Nat, (j : Int) < z16.toInt → A15.2.1 399 j = A.2.1 399 (j + 73)) ∧ (∀ j : Nat, z16.toInt ≤ (j : Int) → A15.2.1 399 j = A.2.1 399 j) ∧ (∀ k : Nat, A15.2.1 395 k = A.2.1 395 k) ∧ (∀ k : Nat, A15.2.1 396 k = A.2.1 396 k) := by
  obtain ⟨i1, i2, i3, i4⟩ := iv
  have c13 := hn_cn (j := z13) (by omega)
  have cx := hn_cn (j := x) hx
  refine ⟨fun j hj => ?_, fun j hj => ?_, fun k => ?_, fun k => ?_⟩
  · rw [f]
    by_cases q : j = x.toNatClampNeg
    · rw [q, hup1, ← e, i2 _ (by omega), show z13.toNatClampNeg = x.toNatClampNeg + 73 by omega]
    · rw [hup2 (fun w => q w.2)]
      exact i1 j (by omega)
  · rw [f, hup2 (fun w => by omega)]
    exact i2 j (by omega)
  · rw [f, hup2 (by omega)]
    exact i3 k
  · rw [f, hup2 (by omega)]
    exact i4 k
theorem hrec_e {A Ac A3 A4 : hs_A} {w x z2 : Int32} (iv : ∃ u s : Nat, w.toInt = (u : Int) ∧ ((A.1 367 51).toInt = (u : Int) ∧ s = 0 ∨ (A.1 367 51).toInt = 40 ∧ u = 39 ∧ s = 1) ∧ (∀ k : Nat, (k : Int) < x.toInt → Ac.2.1 399 (73 * u + k) = A.2.1 395 k) ∧ (∀ i : Nat, i < u → ∀ k : Nat, k < 73 → Ac.2.1 399 (73 * i + k) = A.2.1 399 (73 * (i + s) + k)) ∧ (∀ k : Nat, Ac.2.1 395 k = A.2.1 395 k) ∧ (∀ k : Nat, Ac.2.1 396 k = A.2.1 396 k)) (hx : 73 ≤ x.toInt) (hw : w.toInt ≤ 39) (h2 : z2.toInt = w.toInt + 1) (e3 : A3.1 = hs_up Ac.1 367 51 z2) (f3 : A3.2 = Ac.2) (w4 : uf_W ug_x95.2.2.2.1 A3 A4) (g4 : ∀ k : Nat, k < 73 → A4.2.1 395 k = A3.2.1 396 k) : hDone A A4 (fun k => A.2.1 396 k) := by
  obtain ⟨u, s, i1, i2, i3, i4, i5, i6⟩ := iv
  refine ⟨fun k hk => ?_, u, s, by omega, ?_, i2, fun k hk => ?_, fun i hi k hk => ?_⟩
  · rw [g4 k hk, f3]
    exact i6 k
  · rw [w4.1 367 _ _ 51 rfl rfl (by decide +kernel), e3, hup1]
    omega
  · rw [w4.2.1 399 _ _ _ rfl (by omega) (by decide +kernel), f3]
    exact i3 k (by omega)
  · rw [w4.2.1 399 _ _ _ rfl (by omega) (by decide +kernel), f3]
    exact i4 i hi k hk
theorem hY190g {d : Nat} {Bn Br : Int} {A0 A : hs_A} (hA : hJ 0 Bn Br A0 A) (hBr : Br ≤ Bn + 72)  (uH : uf_H A) {P : Option Value → hs_A → Prop} (hP : ∀ (r : Option Value) (A' : hs_A), (hJ 0 (Bn + 72) Br A0 A' ∧ r = none ∧ hDone A A' (fun k => A.2.1 396 k)) → P r A') : hxa (d + 1) none hm_t190 0 [.ref 368, .retAddr 0] [] A P := by
  have k0 := hk_0
  have L51 : ∀ (m51 : Nat) (w51_0 : Int32) (x51_1 : Int32) (Ac51 : hs_A) (hAc51 : hJ 0 Bn Br A0 Ac51) (ek51_0 : Ac51.1 367 51 = w51_0) (bx51_1 : 0 ≤ x51_1.toInt) (cx51_1 : x51_1.toInt ≤ 73) (bw51_0 : 0 ≤ w51_0.toInt) (cw51_0 : w51_0.toInt ≤ 39) (hm51 : 73 - x51_1.toInt < (m51 : Int)) (iv51 : (∃ u s : Nat, w51_0.toInt = (u : Int) ∧ ((A.1 367 51).toInt = (u : Int) ∧ s = 0 ∨ (A.1 367 51).toInt = 40 ∧ u = 39 ∧ s = 1) ∧ (∀ k : Nat, (k : Int) < x51_1.toInt → Ac51.2.1 399 (73 * u + k) = A.2.1 395 k) ∧ (∀ i : Nat, i < u → ∀ k : Nat, k < 73 → Ac51.2.1 399 (73 * i + k) = A.2.1 399 (73 * (i + s) + k)) ∧ (∀ k : Nat, Ac51.2.1 395 k = A.2.1 395 k) ∧ (∀ k : Nat, Ac51.2.1 396 k = A.2.1 396 k)) ∧ uf_H Ac51), hxa (d + 1) none hm_t190 51 [.ref 368, .int x51_1] [] Ac51 P := by
    intro m51
    induction m51 with
    | zero => intro w51_0 x51_1 Ac51 hAc51 ek51_0 bx51_1 cx51_1 bw51_0 cw51_0 hm51 iv51;  exact False.elim (by omega)
    | succ m51 ih51 =>
      intro w51_0 x51_1 Ac51 hAc51 ek51_0 bx51_1 cx51_1 bw51_0 cw51_0 hm51 iv51
      refine hxa_iload_n (by rfl) rfl ?_
      refine hxa_bipush (by rfl) rfl ?_
      refine hxj_cge (by rfl) rfl hk_73 (fun q1 => ?_) (fun q1 => ?_)
      ·
        refine hxa_aload_n (by rfl) rfl ?_
        refine hxa_dupR (by rfl) ?_
        refine hxj_getK (by rfl) (by rfl) (by rfl) ek51_0 ?_
        refine hxa_iconst (by rfl) rfl ?_
        refine hxj_iadd (by rfl) rfl hk_1 (by omega) (by omega) (fun z2 ez2 => ?_)
        refine hxj_putI (by rfl) (by rfl) (by rfl) (by rfl) hAc51 (hbok (by rfl) rfl (by omega) (by omega)) (by rfl) (by rfl) (fun A3 hA3 eA3 fA3 => ?_)
        refine hxa_aload_n (by rfl) rfl ?_
        refine hxa_call0 (by rfl) (by rfl) (by rfl) (by rfl) (by rfl) (by rfl) (uf_i170 (iv51.2.e (congrArg (fun q => q.2.2) fA3)) (hX170g (d := d + 0) hA3 (by omega))) ?_
        rintro _ A4 ⟨⟨hA4, rfl, g4⟩, w4, -⟩
        exact hxa_return (by rfl) rfl (hP _ _ ⟨hA4, rfl, hrec_e iv51.1 (by omega) (by omega) (by omega) eA3 fA3 w4 g4⟩)
      ·
        refine hxa_aload_n (by rfl) rfl ?_
        refine hxa_get (v := .ref 400) (by rfl) (by rfl) (by rfl) rfl ?_
        refine hxa_bipush (by rfl) rfl ?_
        refine hxa_aload_n (by rfl) rfl ?_
        refine hxj_getK (by rfl) (by rfl) (by rfl) ek51_0 ?_
        refine hxj_imul (by rfl) hk_73 rfl (by omega) (by omega) (fun z5 ez5 => ?_)
        refine hxa_iload_n (by rfl) rfl ?_
        refine hxj_iadd (by rfl) rfl rfl (by omega) (by omega) (fun z6 ez6 => ?_)
        refine hxa_aload_n (by rfl) rfl ?_
        refine hxa_get (v := .ref 396) (by rfl) (by rfl) (by rfl) rfl ?_
        refine hxa_iload_n (by rfl) rfl ?_
        refine hxj_iald395 (by rfl) rfl (by omega) (by omega) hAc51 (fun z7 ez7 fz7 => ?_)
        refine hxj_iast399 (by rfl) rfl (by omega) (by omega) rfl hAc51 (by omega) (fun A8 hA8 eA8 fA8 gA8 => ?_)
        refine hxj_iinc (by rfl) rfl rfl hk_1 (by omega) (by omega) (fun _ => rfl) (fun z9 ez9 => ?_)
        refine hxa_goto (by rfl) ?_
        exact ih51 w51_0 z9 A8 hA8 (hkA eA8 ek51_0) (by omega) (by omega) (by omega) (by omega) (by omega) (⟨hrec_s iv51.1 fA8 ez7 (by omega) (by omega) (by omega), iv51.2.e (congrArg (fun q => q.2) gA8)⟩)
  have L11 : ∀ (m11 : Nat) (w11_0 : Int32) (x11_1 : Int32) (Ac11 : hs_A) (hAc11 : hJ 0 Bn Br A0 Ac11) (ek11_0 : Ac11.1 367 51 = w11_0) (bx11_1 : 0 ≤ x11_1.toInt) (cx11_1 : x11_1.toInt ≤ 2847) (bw11_0 : 40 ≤ w11_0.toInt) (cw11_0 : w11_0.toInt ≤ 40) (hm11 : 2847 - x11_1.toInt < (m11 : Int)) (iv11 : ((∀ j : Nat, (j : Int) < x11_1.toInt → Ac11.2.1 399 j = A.2.1 399 (j + 73)) ∧ (∀ j : Nat, x11_1.toInt ≤ (j : Int) → Ac11.2.1 399 j = A.2.1 399 j) ∧ (∀ k : Nat, Ac11.2.1 395 k = A.2.1 395 k) ∧ (∀ k : Nat, Ac11.2.1 396 k = A.2.1 396 k)) ∧ uf_H Ac11 ∧ (A.1 367 51).toInt = 40), hxa (d + 1) none hm_t190 11 [.ref 368, .int x11_1] [] Ac11 P := by
    intro m11
    induction m11 with
    | zero => intro w11_0 x11_1 Ac11 hAc11 ek11_0 bx11_1 cx11_1 bw11_0 cw11_0 hm11 iv11;  exact False.elim (by omega)
    | succ m11 ih11 =>
      intro w11_0 x11_1 Ac11 hAc11 ek11_0 bx11_1 cx11_1 bw11_0 cw11_0 hm11 iv11
      refine hxa_iload_n (by rfl) rfl ?_
      refine hxa_sipush (by rfl) rfl ?_
      refine hxj_cge (by rfl) rfl hk_2847 (fun q10 => ?_) (fun q10 => ?_)
      ·
        refine hxa_aload_n (by rfl) rfl ?_
        refine hxa_dupR (by rfl) ?_
        refine hxj_getK (by rfl) (by rfl) (by rfl) ek11_0 ?_
        refine hxa_iconst (by rfl) rfl ?_
        refine hxj_isub (by rfl) rfl hk_1 (by omega) (by omega) (fun z11 ez11 => ?_)
        refine hxj_putI (by rfl) (by rfl) (by rfl) (by rfl) hAc11 (hbok (by rfl) rfl (by omega) (by omega)) (by rfl) (by rfl) (fun A12 hA12 eA12 fA12 => ?_)
        refine hxa_iconst (by rfl) rfl ?_
        refine hxa_s1 (by rfl) (Or.inl ⟨_, rfl, rfl⟩) rfl ?_
        exact L51 (Int.toNat (73 - 0) + 1) z11 (Int32.ofNat 0) A12 hA12 (hkS eA12) (by omega) (by omega) (by omega) (by omega) (by omega) (⟨⟨40 - 1, 1, by omega, Or.inr ⟨iv11.2.2, rfl, rfl⟩, fun k hk => absurd hk (by omega), fun i hi k hk => by rw [fA12, iv11.1.1 (73 * i + k) (by omega), show 73 * i + k + 73 = 73 * (i + 1) + k by omega], fun k => by rw [fA12]; exact iv11.1.2.2.1 k, fun k => by rw [fA12]; exact iv11.1.2.2.2 k⟩, iv11.2.1.e (congrArg (fun q => q.2.2) fA12)⟩)
      ·
        refine hxa_aload_n (by rfl) rfl ?_
        refine hxa_get (v := .ref 400) (by rfl) (by rfl) (by rfl) rfl ?_
        refine hxa_iload_n (by rfl) rfl ?_
        refine hxa_aload_n (by rfl) rfl ?_
        refine hxa_get (v := .ref 400) (by rfl) (by rfl) (by rfl) rfl ?_
        refine hxa_iload_n (by rfl) rfl ?_
        refine hxa_bipush (by rfl) rfl ?_
        refine hxj_iadd (by rfl) rfl hk_73 (by omega) (by omega) (fun z13 ez13 => ?_)
        refine hxj_iald399 (by rfl) rfl (by omega) (by omega) hAc11 (fun z14 ez14 fz14 => ?_)
        refine hxj_iast399 (by rfl) rfl (by omega) (by omega) rfl hAc11 (by omega) (fun A15 hA15 eA15 fA15 gA15 => ?_)
        refine hxj_iinc (by rfl) rfl rfl hk_1 (by omega) (by omega) (fun _ => rfl) (fun z16 ez16 => ?_)
        refine hxa_goto (by rfl) ?_
        exact ih11 w11_0 z16 A15 hA15 (hkA eA15 ek11_0) (by omega) (by omega) (by omega) (by omega) (by omega) (⟨hrec_t iv11.1 fA15 ez14 (by omega) (by omega) (by omega), iv11.2.1.e (congrArg (fun q => q.2) gA15), iv11.2.2⟩)
  refine hxa_aload_n (by rfl) rfl ?_
  refine hxj_getB (by rfl) (by rfl) (by rfl) hA (by rfl) (fun z17 ez17 fz17 gz17 => ?_)
  refine hxa_bipush (by rfl) rfl ?_
  refine hxj_cne (by rfl) rfl hk_40 (fun q18 => ?_) (fun q18 => ?_)
  ·
    refine hxa_iconst (by rfl) rfl ?_
    refine hxa_s1 (by rfl) (Or.inl ⟨_, rfl, rfl⟩) rfl ?_
    exact L51 (Int.toNat (73 - 0) + 1) z17 (Int32.ofNat 0) A hA ez17 (by omega) (by omega) (by omega) (by omega) (by omega) (⟨⟨z17.toNatClampNeg, 0, by have := hn_cn (j := z17) (by omega); omega, Or.inl ⟨by rw [ez17]; have := hn_cn (j := z17) (by omega); omega, rfl⟩, fun k hk => absurd hk (by omega), fun i hi k hk => rfl, fun k => rfl, fun k => rfl⟩, uH⟩)
  ·
    refine hxa_iconst (by rfl) rfl ?_
    refine hxa_s1 (by rfl) (Or.inl ⟨_, rfl, rfl⟩) rfl ?_
    exact L11 (Int.toNat (2847 - 0) + 1) z17 (Int32.ofNat 0) A hA ez17 (by omega) (by omega) (by omega) (by omega) (by omega) (⟨⟨fun j hj => absurd hj (by omega), fun j hj => rfl, fun k => rfl, fun k => rfl⟩, uH, by rw [ez17]; omega⟩)
theorem hX190g {d : Nat} {Bn Br : Int} {A0 A : hs_A} (hA : hJ 0 Bn Br A0 A) (hBr : Br ≤ Bn + 72)  (uH : uf_H A) : hxC (d + 2) 190 hm_m190 [.ref 368] A (fun r A' => hJ 0 (Bn + 72) Br A0 A' ∧ r = none ∧ hDone A A' (fun k => A.2.1 396 k)) := hxC.of (by rfl) (hY190g hA hBr uH (fun r A' h => h))
