/-! UNDONE, HELD, RESTORED -/
def hGv (A A' : hs_A) : Prop := ∃ p : Nat, p < 40 ∧ 0 < (A.1 40 2).toInt ∧ (p : Int) = ((A.1 40 1).toInt + ((A.1 40 2).toInt - 1)) % 40 ∧ (A'.1 40 2).toInt = (A.1 40 2).toInt - 1 ∧ A'.1 40 1 = A.1 40 1 ∧ (∀ k, 6 ≤ k → k ≤ 10 → A'.1 26 k = A.1 (42 + 7 * p) k) ∧ (∀ j, 1 ≤ j → j ≤ 6 → ∀ x : Nat, x < 10 → A'.2.1 (26 + j) x = A.2.1 (42 + 7 * p + j) x)
theorem hGv.pre {A A1 A' : hs_A} {v : Int32} (h : hGv A1 A') (e : A1.1 = hs_up A.1 328 1 v) (f : A1.2 = A.2) : hGv A A' := by
  obtain ⟨p, h1, h2, h3, h4, h5, h6, h7⟩ := h
  rw [e, hup2 (by omega)] at h2
  rw [e, hup2 (by omega), hup2 (by omega)] at h3
  rw [e, hup2 (by omega)] at h4
  rw [e, hup2 (by omega)] at h5
  exact ⟨p, h1, h2, h3, h4, h5, fun k a b => by rw [h6 k a b, e, hup2 (by omega)], fun j a b x hx => by rw [h7 j a b x hx, f]⟩
theorem hGv_mk {A A4 A9 : hs_A} {L : Nat} {z1 z3 z5 z6 z7 : Int32} (hz1 : A.1 40 2 = z1) (q1 : 0 < z1.toInt) (e3 : z3.toInt = z1.toInt - 1) (e4 : A4.1 = hs_up A.1 40 2 z3) (f4 : A4.2 = A.2) (hz5 : A4.1 40 1 = z5) (e6 : z6.toInt = z5.toInt + z3.toInt) (e7 : z7.toInt = z6.toInt % 40) (b7 : 0 ≤ z7.toInt ∧ z7.toInt ≤ 39) (sL : L = 42 + 7 * z7.toNatClampNeg) (c : hCp 26 L A4 A9) : hGv A A9 := by
  have c7 := hn_cn (j := z7) b7.1
  have k1 : A4.1 40 1 = A.1 40 1 := by rw [e4, hup2 (by omega)]
  subst sL
  refine ⟨z7.toNatClampNeg, by omega, by rw [hz1]; omega, by rw [← k1, hz5, hz1]; omega, ?_, ?_, fun k a b => ?_, fun j a b x hx => ?_⟩
  · rw [c.2.2.1 40 2 (by omega), e4, hup1, hz1]; omega
  · rw [c.2.2.1 40 1 (by omega)]; exact k1
  · rw [c.1 k a b, e4, hup2 (by omega)]
  · rw [c.2.1 j a b x, f4]
theorem hY35g {d : Nat} {Bn Br : Int} {A0 A : hs_A} (hA : hJ 0 Bn Br A0 A)   {P : Option Value → hs_A → Prop} (hP : ∀ (r : Option Value) (A' : hs_A), (hJ 0 Bn Br A0 A' ∧ ∃ z : Int32, r = some (.int z) ∧ ((z.toInt = 1 ∧ hGv A A') ∨ (z.toInt = 0 ∧ (A.1 40 2).toInt = 0 ∧ A' = A))) → P r A') : hxa (d + 1) (some (.boolean)) hm_t35 0 [.ref 41, .ref 27] [] A P := by
  have k0 := hk_0
  have k1 := hk_1
  refine hxa_aload_n (by rfl) rfl ?_
  refine hxj_getB (by rfl) (by rfl) (by rfl) hA (by rfl) (fun z1 ez1 fz1 gz1 => ?_)
  refine hxj_zne (by rfl) rfl (fun q2 => ?_) (fun q2 => ?_)
  ·
    refine hxa_aload_n (by rfl) rfl ?_
    refine hxa_dupR (by rfl) ?_
    refine hxj_getK (by rfl) (by rfl) (by rfl) ez1 ?_
    refine hxa_iconst (by rfl) rfl ?_
    refine hxj_isub (by rfl) rfl hk_1 (by omega) (by omega) (fun z3 ez3 => ?_)
    refine hxj_putI (by rfl) (by rfl) (by rfl) (by rfl) hA (hbok (by rfl) rfl (by omega) (by omega)) (by rfl) (by rfl) (fun A4 hA4 eA4 fA4 => ?_)
    refine hxa_aload_n (by rfl) rfl ?_
    refine hxa_aload_n (by rfl) rfl ?_
    refine hxa_get (v := .ref 42) (by rfl) (by rfl) (by rfl) rfl ?_
    refine hxa_aload_n (by rfl) rfl ?_
    refine hxj_getB (by rfl) (by rfl) (by rfl) hA4 (by rfl) (fun z5 ez5 fz5 gz5 => ?_)
    refine hxa_aload_n (by rfl) rfl ?_
    refine hxj_getK (by rfl) (by rfl) (by rfl) (hkS eA4) ?_
    refine hxj_iadd (by rfl) rfl rfl (by omega) (by omega) (fun z6 ez6 => ?_)
    refine hxa_bipush (by rfl) rfl ?_
    refine hxj_iremP (by rfl) rfl hk_40 (by omega) (by omega) (fun z7 ez7 => ?_)
    obtain ⟨L8, hL8, eL8, sL8⟩ := haa_livesE (j := z7) (by omega) (by omega)
    refine hxa_aald (by rfl) (Or.inl rfl) (by rfl) (hn_ix0 rfl (by omega)) eL8 ?_
    refine hxa_call0 (by rfl) (by rfl) (by rfl) (by rfl) (by rfl) (by rfl) (hX17g (d := d + 0) hA4 hL26 hL8 (by omega)) ?_
    rintro _ A9 ⟨hA9, rfl, c9⟩
    refine hxa_iconst (by rfl) rfl ?_
    exact hxa_ireturn (by rfl) (by rfl) (hP _ _ ⟨hA9, _, rfl, Or.inl ⟨hk_1, hGv_mk ez1 (by omega) ez3 eA4 fA4 ez5 ez6 ez7 (by omega) sL8 c9⟩⟩)
  ·
    refine hxa_iconst (by rfl) rfl ?_
    exact hxa_ireturn (by rfl) (by rfl) (hP _ _ ⟨hA, _, rfl, Or.inr ⟨hk_0, by rw [ez1]; omega, rfl⟩⟩)
theorem hX35g {d : Nat} {Bn Br : Int} {A0 A : hs_A} (hA : hJ 0 Bn Br A0 A)   : hxC (d + 2) 35 hm_m35 [.ref 41, .ref 27] A (fun r A' => hJ 0 Bn Br A0 A' ∧ ∃ z : Int32, r = some (.int z) ∧ ((z.toInt = 1 ∧ hGv A A') ∨ (z.toInt = 0 ∧ (A.1 40 2).toInt = 0 ∧ A' = A))) := hxC.of (by rfl) (hY35g hA  (fun r A' h => h))
theorem hY88g {d : Nat} {Bn Br : Int} {A0 A : hs_A} (hA : hJ 0 Bn Br A0 A)    {P : Option Value → hs_A → Prop} (hP : ∀ (r : Option Value) (A' : hs_A), (hJ 0 Bn Br A0 A' ∧ ∃ z : Int32, r = some (.int z) ∧ ((z.toInt = 1 ∧ hGv A A') ∨ (z.toInt = 0 ∧ (A.1 40 2).toInt = 0 ∧ (∀ i k, ¬ i = 328 → A'.1 i k = A.1 i k) ∧ A'.2 = A.2))) → P r A') : hxa (d + 2) (some (.boolean)) hm_t88 0 [.ref 1] [] A P := by
  refine hxa_aload_n (by rfl) rfl ?_
  refine hxa_get (v := .ref 329) (by rfl) (by rfl) (by rfl) rfl ?_
  refine hxa_iconst (by rfl) rfl ?_
  refine hxj_putI (by rfl) (by rfl) (by rfl) (by rfl) hA (hbok (by rfl) hk_0 (by omega) (by omega)) (by rfl) (by rfl) (fun A1 hA1 eA1 fA1 => ?_)
  refine hxa_aload_n (by rfl) rfl ?_
  refine hxa_get (v := .ref 41) (by rfl) (by rfl) (by rfl) rfl ?_
  refine hxa_aload_n (by rfl) rfl ?_
  refine hxa_get (v := .ref 27) (by rfl) (by rfl) (by rfl) rfl ?_
  refine hxa_call0 (by rfl) (by rfl) (by rfl) (by rfl) (by rfl) (by rfl) (hX35g (d := d + 0) hA1) ?_
  rintro _ A2 ⟨hA2, z3, rfl, fz3⟩
  exact hxa_ireturn (by rfl) (hn_fitB (by omega) (by omega)) (hP _ _ ⟨hA2, _, rfl, by rcases fz3 with ⟨u1, u2⟩ | ⟨u1, u2, u3⟩; exact Or.inl ⟨u1, u2.pre eA1 fA1⟩; exact Or.inr ⟨u1, by rw [eA1, hup2 (by omega)] at u2; exact u2, fun i k hi => by rw [u3, eA1, hup2 (fun w => hi w.1)], by rw [u3, fA1]⟩⟩)
theorem hX88g {d : Nat} {Bn Br : Int} {A0 A : hs_A} (hA : hJ 0 Bn Br A0 A)    : hxC (d + 3) 88 hm_m88 [.ref 1] A (fun r A' => hJ 0 Bn Br A0 A' ∧ ∃ z : Int32, r = some (.int z) ∧ ((z.toInt = 1 ∧ hGv A A') ∨ (z.toInt = 0 ∧ (A.1 40 2).toInt = 0 ∧ (∀ i k, ¬ i = 328 → A'.1 i k = A.1 i k) ∧ A'.2 = A.2))) := hxC.of (by rfl) (hY88g hA   (fun r A' h => h))
def hSv (s : Nat) (A A' : hs_A) : Prop := (∀ k, 6 ≤ k → k ≤ 10 → A'.1 (346 + 7 * s) k = A.1 26 k) ∧ (∀ j, 1 ≤ j → j ≤ 6 → ∀ x : Nat, x < 10 → A'.2.1 (346 + 7 * s + j) x = A.2.1 (26 + j) x) ∧ (∀ q : Nat, q < 3 → ¬ q = s → (∀ k, 6 ≤ k → k ≤ 10 → A'.1 (346 + 7 * q) k = A.1 (346 + 7 * q) k) ∧ ∀ j, 1 ≤ j → j ≤ 6 → ∀ x : Nat, x < 10 → A'.2.1 (346 + 7 * q + j) x = A.2.1 (346 + 7 * q + j) x)
theorem hSv_mk {A A4 A8 : hs_A} {s L : Nat} {v : Int32} (c : hCp L 26 A A4) (sL : L = 346 + 7 * s) (e : A8.1 = hs_up A4.1 0 10 v) (f : A8.2 = A4.2) : hSv s A A8 := by
  subst sL
  refine ⟨fun k a b => ?_, fun j a b x hx => ?_, fun q hq hne => ⟨fun k a b => ?_, fun j a b x hx => ?_⟩⟩
  · rw [e, hup2 (by omega)]; exact c.1 k a b
  · rw [f]; exact c.2.1 j a b x
  · rw [e, hup2 (by omega)]; exact c.2.2.1 _ k (by omega)
  · rw [f]; exact c.2.2.2.1 _ (by omega) x
theorem hY128g {d : Nat} {Bn Br : Int} {A0 A : hs_A} (hA : hJ 0 Bn Br A0 A)  (a1 : Int32)  {P : Option Value → hs_A → Prop} (hP : ∀ (r : Option Value) (A' : hs_A), (hJ 0 Bn Br A0 A' ∧ ∃ z : Int32, r = some (.int z) ∧ ((z.toInt = 1 ∧ 0 ≤ a1.toInt ∧ a1.toInt ≤ 2 ∧ hSv a1.toNatClampNeg A A' ∧ A'.1 0 10 = A.1 0 10 ||| (Int32.ofNat 1 <<< (a1 &&& 31))) ∨ (z.toInt = 0 ∧ (a1.toInt < 0 ∨ 2 < a1.toInt) ∧ A' = A))) → P r A') : hxa (d + 1) (some (.boolean)) hm_t128 0 [.ref 1, .int a1] [] A P := by
  have k0 := hk_0
  have k1 := hk_1
  have k2 := hk_2
  refine hxa_iload_n (by rfl) rfl ?_
  refine hxa_iconst (by rfl) rfl ?_
  refine hxa_iconst (by rfl) rfl ?_
  refine hxa_call2 (by rfl) (by decide) (by rfl) (by rfl) (by rfl) (hX78 (d := d + 0)  a1 (Int32.ofNat 0) (Int32.ofNat 2)) ?_
  rintro _ _ ⟨rfl, z1, rfl, fz1⟩
  rcases fz1 with fz1 | fz1
  ·
    refine hxj_zne (by rfl) rfl (fun q2 => ?_) (fun q2 => False.elim (by omega))
    refine hxa_aload_n (by rfl) rfl ?_
    refine hxa_get (v := .ref 323) (by rfl) (by rfl) (by rfl) rfl ?_
    refine hxa_iload_n (by rfl) rfl ?_
    obtain ⟨L3, hL3, eL3, sL⟩ := haa_slotsE (j := a1) (by omega) (by omega)
    refine hxa_aald (by rfl) (Or.inl rfl) (by rfl) (hn_ix0 rfl (by omega)) eL3 ?_
    refine hxa_aload_n (by rfl) rfl ?_
    refine hxa_get (v := .ref 27) (by rfl) (by rfl) (by rfl) rfl ?_
    refine hxa_call0 (by rfl) (by rfl) (by rfl) (hsL hL3) (by rfl) (by rfl) (hX17g (d := d + 0) hA hL3 hL26 (by omega)) ?_
    rintro _ A4 ⟨hA4, rfl, c4⟩
    refine hxa_aload_n (by rfl) rfl ?_
    refine hxa_dupR (by rfl) ?_
    refine hxj_getI (by rfl) (by rfl) (by rfl) (fun z5 ez5 => ?_)
    refine hxa_iconst (by rfl) rfl ?_
    refine hxa_iload_n (by rfl) rfl ?_
    refine hxj_ishlE (by rfl) (fun z6 ez6 => ?_)
    refine hxj_iorE (by rfl) (fun z7 ez7 => ?_)
    refine hxj_putI (by rfl) (by rfl) (by rfl) (by rfl) hA4 (hbokN (by rfl)) (by rfl) (by rfl) (fun A8 hA8 eA8 fA8 => ?_)
    refine hxa_iconst (by rfl) rfl ?_
    exact hxa_ireturn (by rfl) (by rfl) (hP _ _ ⟨hA8, _, rfl, Or.inl ⟨hk_1, by omega, by omega, hSv_mk c4 sL eA8 fA8, by rw [eA8, hup1, ez7, ← ez5, ez6, c4.2.2.1 0 10 (by omega)]⟩⟩)
  ·
    refine hxj_zne (by rfl) rfl (fun q9 => False.elim (by omega)) (fun q9 => ?_)
    refine hxa_iconst (by rfl) rfl ?_
    exact hxa_ireturn (by rfl) (by rfl) (hP _ _ ⟨hA, _, rfl, Or.inr ⟨hk_0, by omega, rfl⟩⟩)
theorem hX128g {d : Nat} {Bn Br : Int} {A0 A : hs_A} (hA : hJ 0 Bn Br A0 A)  (a1 : Int32)  : hxC (d + 2) 128 hm_m128 [.ref 1, .int a1] A (fun r A' => hJ 0 Bn Br A0 A' ∧ ∃ z : Int32, r = some (.int z) ∧ ((z.toInt = 1 ∧ 0 ≤ a1.toInt ∧ a1.toInt ≤ 2 ∧ hSv a1.toNatClampNeg A A' ∧ A'.1 0 10 = A.1 0 10 ||| (Int32.ofNat 1 <<< (a1 &&& 31))) ∨ (z.toInt = 0 ∧ (a1.toInt < 0 ∨ 2 < a1.toInt) ∧ A' = A))) := hxC.of (by rfl) (hY128g hA a1  (fun r A' h => h))
def hRv (s : Nat) (A A' : hs_A) : Prop := (∀ k, 6 ≤ k → k ≤ 10 → A'.1 26 k = A.1 (346 + 7 * s) k) ∧ (∀ j, 1 ≤ j → j ≤ 6 → ∀ x : Nat, x < 10 → A'.2.1 (26 + j) x = A.2.1 (346 + 7 * s + j) x) ∧ (A'.1 40 2).toInt = 0
theorem hRv_mk {A A8 A9 A10 : hs_A} {s L : Nat} {v : Int32} (c : hCp 26 L A A8) (sL : L = 346 + 7 * s) (e9 : A9.1 = hs_up A8.1 40 2 (Int32.ofNat 0)) (f9 : A9.2 = A8.2) (e10 : A10.1 = hs_up A9.1 328 1 v) (f10 : A10.2 = A9.2) : hRv s A A10 := by
  subst sL
  refine ⟨fun k a b => ?_, fun j a b x hx => ?_, ?_⟩
  · rw [e10, hup2 (by omega), e9, hup2 (by omega)]; exact c.1 k a b
  · rw [f10, f9]; exact c.2.1 j a b x
  · rw [e10, hup2 (by omega), e9, hup1]; exact hk_0
theorem hY129g {d : Nat} {Bn Br : Int} {A0 A : hs_A} (hA : hJ 0 Bn Br A0 A)  (a1 : Int32)  {P : Option Value → hs_A → Prop} (hP : ∀ (r : Option Value) (A' : hs_A), (hJ 0 Bn Br A0 A' ∧ ∃ z : Int32, r = some (.int z) ∧ ((z.toInt = 1 ∧ 0 ≤ a1.toInt ∧ a1.toInt ≤ 2 ∧ ¬ hBit (A.1 0 10) a1 = 0 ∧ hRv a1.toNatClampNeg A A') ∨ (z.toInt = 0 ∧ (a1.toInt < 0 ∨ 2 < a1.toInt ∨ hBit (A.1 0 10) a1 = 0) ∧ A' = A))) → P r A') : hxa (d + 1) (some (.boolean)) hm_t129 0 [.ref 1, .int a1] [] A P := by
  have k0 := hk_0
  have k1 := hk_1
  have k2 := hk_2
  refine hxa_iload_n (by rfl) rfl ?_
  refine hxa_iconst (by rfl) rfl ?_
  refine hxa_iconst (by rfl) rfl ?_
  refine hxa_call2 (by rfl) (by decide) (by rfl) (by rfl) (by rfl) (hX78 (d := d + 0)  a1 (Int32.ofNat 0) (Int32.ofNat 2)) ?_
  rintro _ _ ⟨rfl, z1, rfl, fz1⟩
  rcases fz1 with fz1 | fz1
  ·
    refine hxj_zeq (by rfl) rfl (fun q2 => False.elim (by omega)) (fun q2 => ?_)
    refine hxa_aload_n (by rfl) rfl ?_
    refine hxj_getI (by rfl) (by rfl) (by rfl) (fun z3 ez3 => ?_)
    refine hxa_iload_n (by rfl) rfl ?_
    refine hxj_ishrE (by rfl) (fun z4 ez4 => ?_)
    refine hxa_iconst (by rfl) rfl ?_
    refine hxj_iandE (by rfl) (fun z5 ez5 => ?_)
    have hb : hBit (A.1 0 10) a1 = z5.toInt := by unfold hBit; rw [ez5, ez4, ez3]
    refine hxj_zne (by rfl) rfl (fun q6 => ?_) (fun q6 => ?_)
    ·
      refine hxa_aload_n (by rfl) rfl ?_
      refine hxa_get (v := .ref 27) (by rfl) (by rfl) (by rfl) rfl ?_
      refine hxa_aload_n (by rfl) rfl ?_
      refine hxa_get (v := .ref 323) (by rfl) (by rfl) (by rfl) rfl ?_
      refine hxa_iload_n (by rfl) rfl ?_
      obtain ⟨L7, hL7, eL7, sL⟩ := haa_slotsE (j := a1) (by omega) (by omega)
      refine hxa_aald (by rfl) (Or.inl rfl) (by rfl) (hn_ix0 rfl (by omega)) eL7 ?_
      refine hxa_call0 (by rfl) (by rfl) (by rfl) (by rfl) (by rfl) (by rfl) (hX17g (d := d + 0) hA hL26 hL7 (by omega)) ?_
      rintro _ A8 ⟨hA8, rfl, c8⟩
      refine hxa_aload_n (by rfl) rfl ?_
      refine hxa_get (v := .ref 41) (by rfl) (by rfl) (by rfl) rfl ?_
      refine hxa_iconst (by rfl) rfl ?_
      refine hxj_putI (by rfl) (by rfl) (by rfl) (by rfl) hA8 (hbok (by rfl) hk_0 (by omega) (by omega)) (by rfl) (by rfl) (fun A9 hA9 eA9 fA9 => ?_)
      refine hxa_aload_n (by rfl) rfl ?_
      refine hxa_get (v := .ref 329) (by rfl) (by rfl) (by rfl) rfl ?_
      refine hxa_iconst (by rfl) rfl ?_
      refine hxj_putI (by rfl) (by rfl) (by rfl) (by rfl) hA9 (hbok (by rfl) hk_0 (by omega) (by omega)) (by rfl) (by rfl) (fun A10 hA10 eA10 fA10 => ?_)
      refine hxa_iconst (by rfl) rfl ?_
      exact hxa_ireturn (by rfl) (by rfl) (hP _ _ ⟨hA10, _, rfl, Or.inl ⟨hk_1, by omega, by omega, by omega, hRv_mk c8 sL eA9 fA9 eA10 fA10⟩⟩)
    ·
      refine hxa_iconst (by rfl) rfl ?_
      exact hxa_ireturn (by rfl) (by rfl) (hP _ _ ⟨hA, _, rfl, Or.inr ⟨hk_0, by omega, rfl⟩⟩)
  ·
    refine hxj_zeq (by rfl) rfl (fun q11 => ?_) (fun q11 => False.elim (by omega))
    refine hxa_iconst (by rfl) rfl ?_
    exact hxa_ireturn (by rfl) (by rfl) (hP _ _ ⟨hA, _, rfl, Or.inr ⟨hk_0, by omega, rfl⟩⟩)
theorem hX129g {d : Nat} {Bn Br : Int} {A0 A : hs_A} (hA : hJ 0 Bn Br A0 A)  (a1 : Int32)  : hxC (d + 2) 129 hm_m129 [.ref 1, .int a1] A (fun r A' => hJ 0 Bn Br A0 A' ∧ ∃ z : Int32, r = some (.int z) ∧ ((z.toInt = 1 ∧ 0 ≤ a1.toInt ∧ a1.toInt ≤ 2 ∧ ¬ hBit (A.1 0 10) a1 = 0 ∧ hRv a1.toNatClampNeg A A') ∨ (z.toInt = 0 ∧ (a1.toInt < 0 ∨ 2 < a1.toInt ∨ hBit (A.1 0 10) a1 = 0) ∧ A' = A))) := hxC.of (by rfl) (hY129g hA a1  (fun r A' h => h))
theorem hhd_s {A Ac A5 : hs_A} {a1 x z2 z3 z4 z6 : Int32} (iv : (∀ j, Ac.2.1 408 j = if j = a1.toNatClampNeg then Int32.ofNat 1 else A.2.1 408 j) ∧ (∀ k : Nat, (k : Int) < x.toInt → Ac.2.1 409 (73 * a1.toNatClampNeg + k) = A.2.1 395 k) ∧ (∀ j : Nat, (j < 73 * a1.toNatClampNeg ∨ 73 * a1.toNatClampNeg + 73 ≤ j) → Ac.2.1 409 j = A.2.1 409 j) ∧ (∀ k : Nat, Ac.2.1 395 k = A.2.1 395 k)) (f : A5.2.1 = hs_up Ac.2.1 409 z3.toNatClampNeg z4) (e4 : Ac.2.1 395 x.toNatClampNeg = z4) (ba : 0 ≤ a1.toInt) (ca : a1.toInt ≤ 2) (e2 : z2.toInt = 73 * a1.toInt) (e3 : z3.toInt = z2.toInt + x.toInt) (bx : 0 ≤ x.toInt) (cx : x.toInt < 73) (e6 : z6.toInt = x.toInt + 1) : (∀ j, A5.2.1 408 j = if j = a1.toNatClampNeg then Int32.ofNat 1 else A.2.1 408 j) ∧ (∀ k : Nat, (k : Int) < z6.toInt → A5.2.1 409 (73 * a1.toNatClampNeg + k) = A.2.1 395 k) ∧ (∀ j : Nat, (j < 73 * a1.toNatClampNeg ∨ 73 * a1.toNatClampNeg + 73 ≤ j) → A5.2.1 409 j = A.2.1 409 j) ∧ (∀ k : Nat, A5.2.1 395 k = A.2.1 395 k) := by
  have c1 := hn_cn (j := a1) ba
  have c3 := hn_cn (j := z3) (by omega)
  have cx2 := hn_cn (j := x) bx
  obtain ⟨i1, i2, i3, i4⟩ := iv
  refine ⟨fun j => by rw [f, hup2 (by omega)]; exact i1 j, fun k hk => ?_, fun j hj => ?_, fun k => by rw [f, hup2 (by omega)]; exact i4 k⟩
  · rw [f]
    by_cases q : 73 * a1.toNatClampNeg + k = z3.toNatClampNeg
    · rw [q, hup1, ← e4, i4, show x.toNatClampNeg = k by omega]
    · rw [hup2 (fun w => q w.2)]
      exact i2 k (by omega)
  · rw [f, hup2 (fun w => by omega)]
    exact i3 j hj
theorem hY238g {d : Nat} {N : Int} {A0 A : hs_A} (hA : hJ 0 N (N + 72) A0 A) (hN : N ≤ 900000) (a1 : Int32)  {P : Option Value → hs_A → Prop} (hP : ∀ (r : Option Value) (A' : hs_A), (hJ 0 (N + 72) (N + 144) A0 A' ∧ ∃ z : Int32, r = some (.int z) ∧ ((z.toInt = 1 ∧ 0 ≤ a1.toInt ∧ a1.toInt ≤ 2 ∧ (∀ j, A'.2.1 408 j = if j = a1.toNatClampNeg then Int32.ofNat 1 else A.2.1 408 j) ∧ (∀ k : Nat, k < 73 → A'.2.1 409 (73 * a1.toNatClampNeg + k) = A.2.1 395 k) ∧ (∀ q : Nat, q < 3 → ¬ q = a1.toNatClampNeg → ∀ k : Nat, k < 73 → A'.2.1 409 (73 * q + k) = A.2.1 409 (73 * q + k))) ∨ (z.toInt = 0 ∧ (a1.toInt < 0 ∨ 2 < a1.toInt) ∧ A' = A))) → P r A') : hxa (d + 1) (some (.boolean)) hm_t238 0 [.ref 368, .int a1, .retAddr 0] [] A P := by
  have k0 := hk_0
  have k1 := hk_1
  have k2 := hk_2
  have L20 : ∀ (m20 : Nat) (x20_2 : Int32) (Ac20 : hs_A) (hAc20 : hJ 0 N (N + 72) A0 Ac20) (bx20_2 : 0 ≤ x20_2.toInt) (cx20_2 : x20_2.toInt ≤ 73) (ba1 : 0 ≤ a1.toInt) (ca1 : a1.toInt ≤ 2) (hm20 : 73 - x20_2.toInt < (m20 : Int)) (iv20 : (∀ j, Ac20.2.1 408 j = if j = a1.toNatClampNeg then Int32.ofNat 1 else A.2.1 408 j) ∧ (∀ k : Nat, (k : Int) < x20_2.toInt → Ac20.2.1 409 (73 * a1.toNatClampNeg + k) = A.2.1 395 k) ∧ (∀ j : Nat, (j < 73 * a1.toNatClampNeg ∨ 73 * a1.toNatClampNeg + 73 ≤ j) → Ac20.2.1 409 j = A.2.1 409 j) ∧ (∀ k : Nat, Ac20.2.1 395 k = A.2.1 395 k)), hxa (d + 1) (some (.boolean)) hm_t238 20 [.ref 368, .int a1, .int x20_2] [] Ac20 P := by
    intro m20
    induction m20 with
    | zero => intro x20_2 Ac20 hAc20 bx20_2 cx20_2 ba1 ca1 hm20 iv20;  exact False.elim (by omega)
    | succ m20 ih20 =>
      intro x20_2 Ac20 hAc20 bx20_2 cx20_2 ba1 ca1 hm20 iv20
      refine hxa_iload_n (by rfl) rfl ?_
      refine hxa_bipush (by rfl) rfl ?_
      refine hxj_cge (by rfl) rfl hk_73 (fun q1 => ?_) (fun q1 => ?_)
      ·
        refine hxa_iconst (by rfl) rfl ?_
        exact hxa_ireturn (by rfl) (by rfl) (hP _ _ ⟨(hJ.mono hAc20 (by omega) (by omega)), _, rfl, Or.inl ⟨hk_1, by omega, by omega, iv20.1, fun k hk => iv20.2.1 k (by omega), fun q hq hne k hk => iv20.2.2.1 _ (by omega)⟩⟩)
      ·
        refine hxa_aload_n (by rfl) rfl ?_
        refine hxa_get (v := .ref 410) (by rfl) (by rfl) (by rfl) rfl ?_
        refine hxa_bipush (by rfl) rfl ?_
        refine hxa_iload_n (by rfl) rfl ?_
        refine hxj_imul (by rfl) hk_73 rfl (by omega) (by omega) (fun z2 ez2 => ?_)
        refine hxa_iload_n (by rfl) rfl ?_
        refine hxj_iadd (by rfl) rfl rfl (by omega) (by omega) (fun z3 ez3 => ?_)
        refine hxa_aload_n (by rfl) rfl ?_
        refine hxa_get (v := .ref 396) (by rfl) (by rfl) (by rfl) rfl ?_
        refine hxa_iload_n (by rfl) rfl ?_
        refine hxj_iald395 (by rfl) rfl (by omega) (by omega) hAc20 (fun z4 ez4 fz4 => ?_)
        refine hxj_iast409 (by rfl) rfl (by omega) (by omega) rfl hAc20 (by omega) (fun A5 hA5 eA5 fA5 gA5 => ?_)
        refine hxj_iinc (by rfl) rfl rfl hk_1 (by omega) (by omega) (fun _ => rfl) (fun z6 ez6 => ?_)
        refine hxa_goto (by rfl) ?_
        exact ih20 z6 A5 hA5 (by omega) (by omega) (by omega) (by omega) (by omega) (hhd_s iv20 fA5 ez4 ba1 ca1 ez2 ez3 bx20_2 (by omega) ez6)
  refine hxa_iload_n (by rfl) rfl ?_
  refine hxa_iconst (by rfl) rfl ?_
  refine hxa_iconst (by rfl) rfl ?_
  refine hxa_call2 (by rfl) (by decide) (by rfl) (by rfl) (by rfl) (hX164 (d := d + 0)  a1 (Int32.ofNat 0) (Int32.ofNat 2)) ?_
  rintro _ _ ⟨rfl, z7, rfl, fz7⟩
  rcases fz7 with fz7 | fz7
  ·
    refine hxj_zne (by rfl) rfl (fun q8 => ?_) (fun q8 => False.elim (by omega))
    refine hxa_aload_n (by rfl) rfl ?_
    refine hxa_get (v := .ref 409) (by rfl) (by rfl) (by rfl) rfl ?_
    refine hxa_iload_n (by rfl) rfl ?_
    refine hxa_iconst (by rfl) rfl ?_
    refine hxj_zast (by rfl) (by rfl) rfl (by omega) (by omega) hk_1 (by omega) (by omega) hA (hbokN (by rfl)) (by rfl) (by rfl) (fun A9 hA9 eA9 fA9 gA9 => ?_)
    refine hxa_iconst (by rfl) rfl ?_
    refine hxa_s1 (by rfl) (Or.inl ⟨_, rfl, rfl⟩) rfl ?_
    exact L20 (Int.toNat (73 - 0) + 1) (Int32.ofNat 0) A9 hA9 (by omega) (by omega) (by omega) (by omega) (by omega) (⟨fun j => by rw [fA9]; by_cases q : j = a1.toNatClampNeg; (rw [if_pos q, q, hup1]); (rw [if_neg q, hup2 (fun w => q w.2)]), fun k hk => absurd hk (by omega), fun j hj => by rw [fA9, hup2 (by omega)], fun k => by rw [fA9, hup2 (by omega)]⟩)
  ·
    refine hxj_zne (by rfl) rfl (fun q10 => False.elim (by omega)) (fun q10 => ?_)
    refine hxa_iconst (by rfl) rfl ?_
    exact hxa_ireturn (by rfl) (by rfl) (hP _ _ ⟨(hJ.mono hA (by omega) (by omega)), _, rfl, Or.inr ⟨hk_0, by omega, rfl⟩⟩)
theorem hX238g {d : Nat} {N : Int} {A0 A : hs_A} (hA : hJ 0 N (N + 72) A0 A) (hN : N ≤ 900000) (a1 : Int32)  : hxC (d + 2) 238 hm_m238 [.ref 368, .int a1] A (fun r A' => hJ 0 (N + 72) (N + 144) A0 A' ∧ ∃ z : Int32, r = some (.int z) ∧ ((z.toInt = 1 ∧ 0 ≤ a1.toInt ∧ a1.toInt ≤ 2 ∧ (∀ j, A'.2.1 408 j = if j = a1.toNatClampNeg then Int32.ofNat 1 else A.2.1 408 j) ∧ (∀ k : Nat, k < 73 → A'.2.1 409 (73 * a1.toNatClampNeg + k) = A.2.1 395 k) ∧ (∀ q : Nat, q < 3 → ¬ q = a1.toNatClampNeg → ∀ k : Nat, k < 73 → A'.2.1 409 (73 * q + k) = A.2.1 409 (73 * q + k))) ∨ (z.toInt = 0 ∧ (a1.toInt < 0 ∨ 2 < a1.toInt) ∧ A' = A))) := hxC.of (by rfl) (hY238g hA hN a1  (fun r A' h => h))
theorem hY239g {d : Nat} {N : Int} {A0 A : hs_A} (hA : hJ 0 N (N + 72) A0 A) (hN : N ≤ 900000) (a1 : Int32)  {P : Option Value → hs_A → Prop} (hP : ∀ (r : Option Value) (A' : hs_A), (hJ 0 (N + 72) (N + 144) A0 A' ∧ ∃ z : Int32, r = some (.int z) ∧ ((z.toInt = 1 ∧ 0 ≤ a1.toInt ∧ a1.toInt ≤ 2 ∧ ¬ (A.2.1 408 a1.toNatClampNeg).toInt = 0 ∧ (∀ k : Nat, k < 73 → A'.2.1 395 k = A.2.1 409 (73 * a1.toNatClampNeg + k)) ∧ (A'.1 367 51).toInt = 0) ∨ (z.toInt = 0 ∧ (a1.toInt < 0 ∨ 2 < a1.toInt ∨ (A.2.1 408 a1.toNatClampNeg).toInt = 0) ∧ A' = A))) → P r A') : hxa (d + 1) (some (.boolean)) hm_t239 0 [.ref 368, .int a1, .retAddr 0] [] A P := by
  have k0 := hk_0
  have k1 := hk_1
  have k2 := hk_2
  have L22 : ∀ (m22 : Nat) (x22_2 : Int32) (Ac22 : hs_A) (hAc22 : hJ 0 N (N + 72) A0 Ac22) (bx22_2 : 0 ≤ x22_2.toInt) (cx22_2 : x22_2.toInt ≤ 73) (ba1 : 0 ≤ a1.toInt) (ca1 : a1.toInt ≤ 2) (hm22 : 73 - x22_2.toInt < (m22 : Int)) (iv22 : (∀ k : Nat, (k : Int) < x22_2.toInt → Ac22.2.1 395 k = A.2.1 409 (73 * a1.toNatClampNeg + k)) ∧ (∀ k : Nat, Ac22.2.1 409 k = A.2.1 409 k) ∧ ¬ (A.2.1 408 a1.toNatClampNeg).toInt = 0), hxa (d + 1) (some (.boolean)) hm_t239 22 [.ref 368, .int a1, .int x22_2] [] Ac22 P := by
    intro m22
    induction m22 with
    | zero => intro x22_2 Ac22 hAc22 bx22_2 cx22_2 ba1 ca1 hm22 iv22;  exact False.elim (by omega)
    | succ m22 ih22 =>
      intro x22_2 Ac22 hAc22 bx22_2 cx22_2 ba1 ca1 hm22 iv22
      refine hxa_iload_n (by rfl) rfl ?_
      refine hxa_bipush (by rfl) rfl ?_
      refine hxj_cge (by rfl) rfl hk_73 (fun q1 => ?_) (fun q1 => ?_)
      ·
        refine hxa_aload_n (by rfl) rfl ?_
        refine hxa_iconst (by rfl) rfl ?_
        refine hxj_putI (by rfl) (by rfl) (by rfl) (by rfl) hAc22 (hbok (by rfl) hk_0 (by omega) (by omega)) (by rfl) (by rfl) (fun A2 hA2 eA2 fA2 => ?_)
        refine hxa_iconst (by rfl) rfl ?_
        exact hxa_ireturn (by rfl) (by rfl) (hP _ _ ⟨(hJ.mono hA2 (by omega) (by omega)), _, rfl, Or.inl ⟨hk_1, by omega, by omega, iv22.2.2, fun k hk => by rw [fA2]; exact iv22.1 k (by omega), by rw [eA2, hup1]; exact hk_0⟩⟩)
      ·
        refine hxa_aload_n (by rfl) rfl ?_
        refine hxa_get (v := .ref 396) (by rfl) (by rfl) (by rfl) rfl ?_
        refine hxa_iload_n (by rfl) rfl ?_
        refine hxa_aload_n (by rfl) rfl ?_
        refine hxa_get (v := .ref 410) (by rfl) (by rfl) (by rfl) rfl ?_
        refine hxa_bipush (by rfl) rfl ?_
        refine hxa_iload_n (by rfl) rfl ?_
        refine hxj_imul (by rfl) hk_73 rfl (by omega) (by omega) (fun z3 ez3 => ?_)
        refine hxa_iload_n (by rfl) rfl ?_
        refine hxj_iadd (by rfl) rfl rfl (by omega) (by omega) (fun z4 ez4 => ?_)
        refine hxj_iald409 (by rfl) rfl (by omega) (by omega) hAc22 (fun z5 ez5 fz5 => ?_)
        refine hxj_iast395 (by rfl) rfl (by omega) (by omega) rfl hAc22 (by omega) (fun A6 hA6 eA6 fA6 gA6 => ?_)
        refine hxj_iinc (by rfl) rfl rfl hk_1 (by omega) (by omega) (fun _ => rfl) (fun z7 ez7 => ?_)
        refine hxa_goto (by rfl) ?_
        exact ih22 z7 A6 hA6 (by omega) (by omega) (by omega) (by omega) (by omega) (⟨fun k hk => by rw [fA6]; have hc1 := hn_cn (j := x22_2) (by omega); have hc4 := hn_cn (j := z4) (by omega); have hca := hn_cn (j := a1) (by omega); by_cases q : k = x22_2.toNatClampNeg; (rw [q, hup1, ← ez5, iv22.2.1, show z4.toNatClampNeg = 73 * a1.toNatClampNeg + x22_2.toNatClampNeg by omega]); (rw [hup2 (fun w => q w.2)]; exact iv22.1 k (by omega)), fun k => by rw [fA6, hup2 (by omega)]; exact iv22.2.1 k, iv22.2.2⟩)
  refine hxa_iload_n (by rfl) rfl ?_
  refine hxa_iconst (by rfl) rfl ?_
  refine hxa_iconst (by rfl) rfl ?_
  refine hxa_call2 (by rfl) (by decide) (by rfl) (by rfl) (by rfl) (hX164 (d := d + 0)  a1 (Int32.ofNat 0) (Int32.ofNat 2)) ?_
  rintro _ _ ⟨rfl, z8, rfl, fz8⟩
  rcases fz8 with fz8 | fz8
  ·
    refine hxj_zeq (by rfl) rfl (fun q9 => False.elim (by omega)) (fun q9 => ?_)
    refine hxa_aload_n (by rfl) rfl ?_
    refine hxa_get (v := .ref 409) (by rfl) (by rfl) (by rfl) rfl ?_
    refine hxa_iload_n (by rfl) rfl ?_
    refine hxj_zald (by rfl) (by rfl) rfl (by omega) (by omega) (fun z10 ez10 => ?_)
    have t10 := congrArg Int32.toInt ez10
    refine hxj_zne (by rfl) rfl (fun q11 => ?_) (fun q11 => ?_)
    ·
      refine hxa_iconst (by rfl) rfl ?_
      refine hxa_s1 (by rfl) (Or.inl ⟨_, rfl, rfl⟩) rfl ?_
      exact L22 (Int.toNat (73 - 0) + 1) (Int32.ofNat 0) A hA (by omega) (by omega) (by omega) (by omega) (by omega) (⟨fun k hk => absurd hk (by omega), fun k => rfl, by rw [ez10]; omega⟩)
    ·
      refine hxa_iconst (by rfl) rfl ?_
      exact hxa_ireturn (by rfl) (by rfl) (hP _ _ ⟨(hJ.mono hA (by omega) (by omega)), _, rfl, Or.inr ⟨hk_0, by omega, rfl⟩⟩)
  ·
    refine hxj_zeq (by rfl) rfl (fun q12 => ?_) (fun q12 => False.elim (by omega))
    refine hxa_iconst (by rfl) rfl ?_
    exact hxa_ireturn (by rfl) (by rfl) (hP _ _ ⟨(hJ.mono hA (by omega) (by omega)), _, rfl, Or.inr ⟨hk_0, by omega, rfl⟩⟩)
theorem hX239g {d : Nat} {N : Int} {A0 A : hs_A} (hA : hJ 0 N (N + 72) A0 A) (hN : N ≤ 900000) (a1 : Int32)  : hxC (d + 2) 239 hm_m239 [.ref 368, .int a1] A (fun r A' => hJ 0 (N + 72) (N + 144) A0 A' ∧ ∃ z : Int32, r = some (.int z) ∧ ((z.toInt = 1 ∧ 0 ≤ a1.toInt ∧ a1.toInt ≤ 2 ∧ ¬ (A.2.1 408 a1.toNatClampNeg).toInt = 0 ∧ (∀ k : Nat, k < 73 → A'.2.1 395 k = A.2.1 409 (73 * a1.toNatClampNeg + k)) ∧ (A'.1 367 51).toInt = 0) ∨ (z.toInt = 0 ∧ (a1.toInt < 0 ∨ 2 < a1.toInt ∨ (A.2.1 408 a1.toNatClampNeg).toInt = 0) ∧ A' = A))) := hxC.of (by rfl) (hY239g hA hN a1  (fun r A' h => h))
theorem hY196f {d : Nat} {A : hs_A} (a1 : Int32)  {P : Option Value → hs_A → Prop} (hP : ∀ (r : Option Value) (A' : hs_A), (A = A' ∧ ∃ z : Int32, r = some (.int z) ∧ ((z.toInt = 1 ∧ 0 ≤ a1.toInt ∧ a1.toInt ≤ 72) ∨ (z.toInt = 0 ∧ (a1.toInt < 0 ∨ 72 < a1.toInt)))) → P r A') : hxa (d + 1) (some (.boolean)) hm_t196 0 [.int a1] [] A P := by
  have k0 := hk_0
  have k72 := hk_72
  refine hxa_iload_n (by rfl) rfl ?_
  refine hxa_iconst (by rfl) rfl ?_
  refine hxa_bipush (by rfl) rfl ?_
  refine hxa_call2 (by rfl) (by decide) (by rfl) (by rfl) (by rfl) (hX164 (d := d + 0)  a1 (Int32.ofNat 0) (Int32.ofNat 72)) ?_
  rintro _ _ ⟨rfl, z1, rfl, fz1⟩
  rcases fz1 with fz1 | fz1
  ·
    exact hxa_ireturn (by rfl) (hn_fitB (by omega) (by omega)) (hP _ _ ⟨rfl, _, rfl, by omega⟩)
  ·
    exact hxa_ireturn (by rfl) (hn_fitB (by omega) (by omega)) (hP _ _ ⟨rfl, _, rfl, by omega⟩)
theorem hX196f {d : Nat} {A : hs_A} (a1 : Int32)  : hxC (d + 2) 196 hm_m196 [.int a1] A (fun r A' => A = A' ∧ ∃ z : Int32, r = some (.int z) ∧ ((z.toInt = 1 ∧ 0 ≤ a1.toInt ∧ a1.toInt ≤ 72) ∨ (z.toInt = 0 ∧ (a1.toInt < 0 ∨ 72 < a1.toInt)))) := hxC.of (by rfl) (hY196f a1  (fun r A' h => h))
theorem hY198g {d : Nat} {N : Int} {A0 A : hs_A} (hA : hJ 0 N (N + 72) A0 A) (hN : N ≤ 900000) (a1 : Int32) (uH : uf_H A) {P : Option Value → hs_A → Prop} (hP : ∀ (r : Option Value) (A' : hs_A), (hJ 0 (N + 72) (N + 144) A0 A' ∧ ∃ z : Int32, r = some (.int z) ∧ ((0 ≤ a1.toInt ∧ a1.toInt ≤ 72 ∧ z = A'.2.1 395 70 ∧ (a1.toInt = 0 ∧ A' = A ∨ 0 < a1.toInt ∧ ∃ g, hDone A A' g ∧ (∀ k : Nat, (k < 30 ∨ 50 ≤ k ∧ k < 60) → g k = A.2.1 395 k) ∧ (g 70).toInt = (A.2.1 395 70).toInt + a1.toInt)) ∨ ((a1.toInt < 0 ∨ 72 < a1.toInt) ∧ z.toInt = -1 ∧ A' = A))) → P r A') : hxa (d + 6) (some (.int)) hm_t198 0 [.ref 368, .int a1] [] A P := by
  have k4294967295 := hk_4294967295
  refine hxa_iload_n (by rfl) rfl ?_
  refine hxa_call2 (by rfl) (by decide) (by rfl) (by rfl) (by rfl) (hX196f (d := d + 4)  a1) ?_
  rintro _ _ ⟨rfl, z1, rfl, fz1⟩
  rcases fz1 with fz1 | fz1
  ·
    refine hxj_zne (by rfl) rfl (fun q2 => ?_) (fun q2 => False.elim (by omega))
    refine hxa_iload_n (by rfl) rfl ?_
    refine hxj_zne (by rfl) rfl (fun q3 => ?_) (fun q3 => ?_)
    ·
      refine hxa_aload_n (by rfl) rfl ?_
      refine hxa_call0 (by rfl) (by rfl) (by rfl) (by rfl) (by rfl) (by rfl) (uf_i171 uH (hX171g (d := d + 5) hA)) ?_
      rintro _ A4 ⟨⟨hA4, rfl, c4⟩, w4, H4⟩
      refine hxa_aload_n (by rfl) rfl ?_
      refine hxa_iload_n (by rfl) rfl ?_
      refine hxa_call0 (by rfl) (by rfl) (by rfl) (by rfl) (by rfl) (by rfl) (uf_j185 H4 (hX185g (d := d + 0) hA4 (by omega) a1 (by omega) (by omega) H4)) ?_
      rintro _ A5 ⟨⟨hA5, rfl, c5⟩, w5, H5⟩
      refine hxa_aload_n (by rfl) rfl ?_
      refine hxa_call0 (by rfl) (by rfl) (by rfl) (by rfl) (by rfl) (by rfl) (hX190g (d := d + 4) hA5 (by omega) H5) ?_
      rintro _ A6 ⟨hA6, rfl, D6⟩
      refine hxa_aload_n (by rfl) rfl ?_
      refine hxa_get (v := .ref 396) (by rfl) (by rfl) (by rfl) rfl ?_
      refine hxa_bipush (by rfl) rfl ?_
      refine hxj_iald395 (by rfl) hk_70 (by omega) (by omega) hA6 (fun z7 ez7 fz7 => ?_)
      exact hxa_ireturn (by rfl) rfl (hP _ _ ⟨(hJ.mono hA6 (by omega) (by omega)), _, rfl, Or.inl ⟨by omega, by omega, ez7.symm, Or.inr ⟨by omega, fun k => A5.2.1 396 k, D6.pre (fun k hk => (w5.2.1 395 _ _ k rfl hk (by decide +kernel)).trans (w4.2.1 395 _ _ k rfl hk (by decide +kernel))) (fun j hj => (w5.2.1 399 _ _ j rfl hj (by decide +kernel)).trans (w4.2.1 399 _ _ j rfl hj (by decide +kernel))) ((w5.1 367 _ _ 51 rfl rfl (by decide +kernel)).trans (w4.1 367 _ _ 51 rfl rfl (by decide +kernel))), fun k hk => (c5.1 k hk).trans (c4 k (by omega)), by rw [c5.2, c4 70 (by omega)]⟩⟩⟩)
    ·
      refine hxa_aload_n (by rfl) rfl ?_
      refine hxa_get (v := .ref 396) (by rfl) (by rfl) (by rfl) rfl ?_
      refine hxa_bipush (by rfl) rfl ?_
      refine hxj_iald395 (by rfl) hk_70 (by omega) (by omega) hA (fun z8 ez8 fz8 => ?_)
      exact hxa_ireturn (by rfl) rfl (hP _ _ ⟨(hJ.mono hA (by omega) (by omega)), _, rfl, Or.inl ⟨by omega, by omega, ez8.symm, Or.inl ⟨by omega, rfl⟩⟩⟩)
  ·
    refine hxj_zne (by rfl) rfl (fun q9 => False.elim (by omega)) (fun q9 => ?_)
    refine hxa_iconst (by rfl) rfl ?_
    exact hxa_ireturn (by rfl) rfl (hP _ _ ⟨(hJ.mono hA (by omega) (by omega)), _, rfl, Or.inr ⟨by omega, hk_4294967295, rfl⟩⟩)
theorem hX198g {d : Nat} {N : Int} {A0 A : hs_A} (hA : hJ 0 N (N + 72) A0 A) (hN : N ≤ 900000) (a1 : Int32) (uH : uf_H A) : hxC (d + 7) 198 hm_m198 [.ref 368, .int a1] A (fun r A' => hJ 0 (N + 72) (N + 144) A0 A' ∧ ∃ z : Int32, r = some (.int z) ∧ ((0 ≤ a1.toInt ∧ a1.toInt ≤ 72 ∧ z = A'.2.1 395 70 ∧ (a1.toInt = 0 ∧ A' = A ∨ 0 < a1.toInt ∧ ∃ g, hDone A A' g ∧ (∀ k : Nat, (k < 30 ∨ 50 ≤ k ∧ k < 60) → g k = A.2.1 395 k) ∧ (g 70).toInt = (A.2.1 395 70).toInt + a1.toInt)) ∨ ((a1.toInt < 0 ∨ 72 < a1.toInt) ∧ z.toInt = -1 ∧ A' = A))) := hxC.of (by rfl) (hY198g hA hN a1 uH (fun r A' h => h))
section HXH
variable {d : Nat} {ret : Option FieldType} {tb : hc_K} {pc len r1 r2 : Nat} {l st : List Value} {A : hs_A} {P : Option Value → hs_A → Prop}
theorem hxj_isubE {x y : Int32} (hI : hc_get tb pc = some (.isub, len, r1, r2)) (k : ∀ z : Int32, z = x - y → hxa d ret tb (pc + 1) l (.int z :: st) A P) : hxa d ret tb pc l (.int y :: .int x :: st) A P := hxa_isub hI (k _ rfl)
end HXH
def hBg (T : Nat) (A A' : hs_A) : Prop := (A'.1 26 6 = A.1 T 4 ∧ A'.1 26 7 = Int32.ofNat 0 ∧ A'.1 26 8 = Int32.ofNat 4294967295 ∧ A'.1 26 9 = (Int32.ofNat 1 <<< (A.1 T 4 &&& 31)) - Int32.ofNat 1 ∧ A'.1 26 10 = Int32.ofNat 0) ∧ ∀ x : Nat, x < 10 → (A'.2.1 27 x = A.2.1 (T + 1) x ∧ A'.2.1 28 x = A.2.1 (T + 2) x ∧ A'.2.1 29 x = Int32.ofNat 0) ∧ (A'.2.1 30 x = Int32.ofNat x ∧ A'.2.1 31 x = Int32.ofNat 0 ∧ A'.2.1 32 x = Int32.ofNat 0)
theorem hBg_s {T : Nat} (hT : hTT T) {A Ac B3 B5 B6 B7 B8 B9 : hs_A} {x z2 z4 z10 : Int32} (iv : (Ac.1 26 6 = A.1 T 4 ∧ Ac.1 26 7 = Int32.ofNat 0 ∧ Ac.1 26 8 = Int32.ofNat 4294967295 ∧ Ac.1 26 9 = (Int32.ofNat 1 <<< (A.1 T 4 &&& 31)) - Int32.ofNat 1 ∧ Ac.1 26 10 = Int32.ofNat 0) ∧ (∀ i j : Nat, i < 26 → Ac.2.1 i j = A.2.1 i j) ∧ ∀ k : Nat, (k : Int) < x.toInt → (Ac.2.1 27 k = A.2.1 (T + 1) k ∧ Ac.2.1 28 k = A.2.1 (T + 2) k ∧ Ac.2.1 29 k = Int32.ofNat 0) ∧ (Ac.2.1 30 k = Int32.ofNat k ∧ Ac.2.1 31 k = Int32.ofNat 0 ∧ Ac.2.1 32 k = Int32.ofNat 0)) (e3 : B3.1 = Ac.1) (f3 : B3.2.1 = hs_up Ac.2.1 27 x.toNatClampNeg z2) (e5 : B5.1 = B3.1) (f5 : B5.2.1 = hs_up B3.2.1 28 x.toNatClampNeg z4) (e6 : B6.1 = B5.1) (f6 : B6.2.1 = hs_up B5.2.1 29 x.toNatClampNeg (Int32.ofNat 0)) (e7 : B7.1 = B6.1) (f7 : B7.2.1 = hs_up B6.2.1 30 x.toNatClampNeg x) (e8 : B8.1 = B7.1) (f8 : B8.2.1 = hs_up B7.2.1 31 x.toNatClampNeg (Int32.ofNat 0)) (e9 : B9.1 = B8.1) (f9 : B9.2.1 = hs_up B8.2.1 32 x.toNatClampNeg (Int32.ofNat 0)) (ez2 : Ac.2.1 (T + 1) x.toNatClampNeg = z2) (ez4 : B3.2.1 (T + 2) x.toNatClampNeg = z4) (hx0 : 0 ≤ x.toInt) (hx : x.toInt < 10) (ez10 : z10.toInt = x.toInt + 1) : (B9.1 26 6 = A.1 T 4 ∧ B9.1 26 7 = Int32.ofNat 0 ∧ B9.1 26 8 = Int32.ofNat 4294967295 ∧ B9.1 26 9 = (Int32.ofNat 1 <<< (A.1 T 4 &&& 31)) - Int32.ofNat 1 ∧ B9.1 26 10 = Int32.ofNat 0) ∧ (∀ i j : Nat, i < 26 → B9.2.1 i j = A.2.1 i j) ∧ ∀ k : Nat, (k : Int) < z10.toInt → (B9.2.1 27 k = A.2.1 (T + 1) k ∧ B9.2.1 28 k = A.2.1 (T + 2) k ∧ B9.2.1 29 k = Int32.ofNat 0) ∧ (B9.2.1 30 k = Int32.ofNat k ∧ B9.2.1 31 k = Int32.ofNat 0 ∧ B9.2.1 32 k = Int32.ofNat 0) := by
  have T9 : T ≤ 11 := by rcases hT with rfl | rfl <;> omega
  obtain ⟨i1, i2, i3⟩ := iv
  have hc := hn_cn (j := x) hx0
  refine ⟨by rw [e9, e8, e7, e6, e5, e3]; exact i1, fun i j hi => by rw [f9, hup2 (by omega), f8, hup2 (by omega), f7, hup2 (by omega), f6, hup2 (by omega), f5, hup2 (by omega), f3, hup2 (by omega)]; exact i2 i j hi, fun k hk => ?_⟩
  by_cases q : k = x.toNatClampNeg
  · subst q
    refine ⟨⟨?_, ?_, ?_⟩, ?_, ?_, ?_⟩
    · rw [f9, hup2 (by omega), f8, hup2 (by omega), f7, hup2 (by omega), f6, hup2 (by omega), f5, hup2 (by omega), f3, hup1, ← ez2]
      exact i2 _ _ (by omega)
    · rw [f9, hup2 (by omega), f8, hup2 (by omega), f7, hup2 (by omega), f6, hup2 (by omega), f5, hup1, ← ez4, f3, hup2 (by omega)]
      exact i2 _ _ (by omega)
    · rw [f9, hup2 (by omega), f8, hup2 (by omega), f7, hup2 (by omega), f6, hup1]
    · rw [f9, hup2 (by omega), f8, hup2 (by omega), f7, hup1, ← hI32 hx0 (by omega)]
    · rw [f9, hup2 (by omega), f8, hup1]
    · rw [f9, hup1]
  · have old := i3 k (by omega)
    have e : ∀ i, B9.2.1 i k = Ac.2.1 i k := fun i => by rw [f9, hup2 (by omega), f8, hup2 (by omega), f7, hup2 (by omega), f6, hup2 (by omega), f5, hup2 (by omega), f3, hup2 (by omega)]
    rw [e 27, e 28, e 29, e 30, e 31, e 32]
    exact old
theorem hY16g {d : Nat} {Bn Br : Int} {A0 A : hs_A} (hA : hJ 0 Bn Br A0 A)  {T : Nat} (hT : hTT T) (eT : A0.2.2.2 0 3 = T + 1)  {P : Option Value → hs_A → Prop} (hP : ∀ (r : Option Value) (A' : hs_A), (hJ 0 Bn Br A0 A' ∧ r = none ∧ (hBg T A A')) → P r A') : hxa (d + 0) none hm_t16 0 [.ref 27, .ref (T + 1), .retAddr 0] [] A P := by
  have k0 := hk_0
  have L37 : ∀ (m37 : Nat) (x37_2 : Int32) (Ac37 : hs_A) (hAc37 : hJ 0 Bn Br A0 Ac37) (bx37_2 : 0 ≤ x37_2.toInt) (cx37_2 : x37_2.toInt ≤ 10) (hm37 : 10 - x37_2.toInt < (m37 : Int)) (iv37 : (Ac37.1 26 6 = A.1 T 4 ∧ Ac37.1 26 7 = Int32.ofNat 0 ∧ Ac37.1 26 8 = Int32.ofNat 4294967295 ∧ Ac37.1 26 9 = (Int32.ofNat 1 <<< (A.1 T 4 &&& 31)) - Int32.ofNat 1 ∧ Ac37.1 26 10 = Int32.ofNat 0) ∧ (∀ i j : Nat, i < 26 → Ac37.2.1 i j = A.2.1 i j) ∧ ∀ k : Nat, (k : Int) < x37_2.toInt → (Ac37.2.1 27 k = A.2.1 (T + 1) k ∧ Ac37.2.1 28 k = A.2.1 (T + 2) k ∧ Ac37.2.1 29 k = Int32.ofNat 0) ∧ (Ac37.2.1 30 k = Int32.ofNat k ∧ Ac37.2.1 31 k = Int32.ofNat 0 ∧ Ac37.2.1 32 k = Int32.ofNat 0)), hxa (d + 0) none hm_t16 37 [.ref 27, .ref (T + 1), .int x37_2] [] Ac37 P := by
    intro m37
    induction m37 with
    | zero => intro x37_2 Ac37 hAc37 bx37_2 cx37_2 hm37 iv37;  exact False.elim (by omega)
    | succ m37 ih37 =>
      intro x37_2 Ac37 hAc37 bx37_2 cx37_2 hm37 iv37
      refine hxa_iload_n (by rfl) rfl ?_
      refine hxa_bipush (by rfl) rfl ?_
      refine hxj_cge (by rfl) rfl hk_10 (fun q1 => ?_) (fun q1 => ?_)
      ·
        exact hxa_return (by rfl) rfl (hP _ _ ⟨hAc37, rfl, ⟨iv37.1, fun x hx => iv37.2.2 x (by omega)⟩⟩)
      ·
        refine hxa_aload_n (by rfl) rfl ?_
        refine hxa_get (v := .ref 28) (by rfl) (by rfl) (by rfl) (by rfl) ?_
        refine hxa_iload_n (by rfl) rfl ?_
        refine hxa_aload_n (by rfl) rfl ?_
        refine hxa_get (v := .ref (T + 2)) (by rfl) (hsT hT) (by rfl) (hvT hT (by omega)) ?_
        refine hxa_iload_n (by rfl) rfl ?_
        refine hxj_iald (by rfl) (hsT1 hT) rfl (by omega) (by omega) (fun z2 ez2 => ?_)
        refine hxj_iast (by rfl) (by rfl) rfl (by omega) (by omega) hAc37 (hbokN (by rfl)) (by rfl) (by rfl) (fun A3 hA3 eA3 fA3 gA3 => ?_)
        refine hxa_aload_n (by rfl) rfl ?_
        refine hxa_get (v := .ref 29) (by rfl) (by rfl) (by rfl) (by rfl) ?_
        refine hxa_iload_n (by rfl) rfl ?_
        refine hxa_aload_n (by rfl) rfl ?_
        refine hxa_get (v := .ref (T + 3)) (by rfl) (hsT hT) (by rfl) (hvT hT (by omega)) ?_
        refine hxa_iload_n (by rfl) rfl ?_
        refine hxj_iald (by rfl) (hsT2 hT) rfl (by omega) (by omega) (fun z4 ez4 => ?_)
        refine hxj_iast (by rfl) (by rfl) rfl (by omega) (by omega) hA3 (hbokN (by rfl)) (by rfl) (by rfl) (fun A5 hA5 eA5 fA5 gA5 => ?_)
        refine hxa_aload_n (by rfl) rfl ?_
        refine hxa_get (v := .ref 30) (by rfl) (by rfl) (by rfl) (by rfl) ?_
        refine hxa_iload_n (by rfl) rfl ?_
        refine hxa_iconst (by rfl) rfl ?_
        refine hxj_iast (by rfl) (by rfl) rfl (by omega) (by omega) hA5 (hbokN (by rfl)) (by rfl) (by rfl) (fun A6 hA6 eA6 fA6 gA6 => ?_)
        refine hxa_aload_n (by rfl) rfl ?_
        refine hxa_get (v := .ref 31) (by rfl) (by rfl) (by rfl) (by rfl) ?_
        refine hxa_iload_n (by rfl) rfl ?_
        refine hxa_iload_n (by rfl) rfl ?_
        refine hxj_iast (by rfl) (by rfl) rfl (by omega) (by omega) hA6 (hbokN (by rfl)) (by rfl) (by rfl) (fun A7 hA7 eA7 fA7 gA7 => ?_)
        refine hxa_aload_n (by rfl) rfl ?_
        refine hxa_get (v := .ref 32) (by rfl) (by rfl) (by rfl) (by rfl) ?_
        refine hxa_iload_n (by rfl) rfl ?_
        refine hxa_iconst (by rfl) rfl ?_
        refine hxj_iast (by rfl) (by rfl) rfl (by omega) (by omega) hA7 (hbok (by rfl) hk_0 (by omega) (by omega)) (by rfl) (by rfl) (fun A8 hA8 eA8 fA8 gA8 => ?_)
        refine hxa_aload_n (by rfl) rfl ?_
        refine hxa_get (v := .ref 33) (by rfl) (by rfl) (by rfl) (by rfl) ?_
        refine hxa_iload_n (by rfl) rfl ?_
        refine hxa_iconst (by rfl) rfl ?_
        refine hxj_iast (by rfl) (by rfl) rfl (by omega) (by omega) hA8 (hbokN (by rfl)) (by rfl) (by rfl) (fun A9 hA9 eA9 fA9 gA9 => ?_)
        refine hxj_iinc (by rfl) rfl rfl hk_1 (by omega) (by omega) (fun _ => rfl) (fun z10 ez10 => ?_)
        refine hxa_goto (by rfl) ?_
        exact ih37 z10 A9 hA9 (by omega) (by omega) (by omega) (hBg_s hT iv37 eA3 fA3 eA5 fA5 eA6 fA6 eA7 fA7 eA8 fA8 eA9 fA9 ez2 ez4 (by omega) (by omega) ez10)
  refine hxa_aload_n (by rfl) rfl ?_
  refine hxa_aload_n (by rfl) rfl ?_
  refine hxj_getB (by rfl) (hsT hT) (by rfl) hA (hbT_4 hT) (fun z11 ez11 fz11 gz11 => ?_)
  refine hxj_putI (by rfl) (by rfl) (by rfl) (by rfl) hA (hbok (by rfl) rfl (by omega) (by omega)) (by rfl) (by rfl) (fun A12 hA12 eA12 fA12 => ?_)
  refine hxa_aload_n (by rfl) rfl ?_
  refine hxa_iconst (by rfl) rfl ?_
  refine hxj_putI (by rfl) (by rfl) (by rfl) (by rfl) hA12 (hbokN (by rfl)) (by rfl) (by rfl) (fun A13 hA13 eA13 fA13 => ?_)
  refine hxa_aload_n (by rfl) rfl ?_
  refine hxa_iconst (by rfl) rfl ?_
  refine hxj_putI (by rfl) (by rfl) (by rfl) (by rfl) hA13 (hbok (by rfl) hk_4294967295 (by omega) (by omega)) (by rfl) (by rfl) (fun A14 hA14 eA14 fA14 => ?_)
  refine hxa_aload_n (by rfl) rfl ?_
  refine hxa_iconst (by rfl) rfl ?_
  refine hxa_aload_n (by rfl) rfl ?_
  refine hxj_getK (by rfl) (by rfl) (by rfl) (hkF eA14 (by omega) (hkF eA13 (by omega) (hkS eA12))) ?_
  refine hxj_ishlE (by rfl) (fun z15 ez15 => ?_)
  refine hxa_iconst (by rfl) rfl ?_
  refine hxj_isubE (by rfl) (fun z16 ez16 => ?_)
  refine hxj_putI (by rfl) (by rfl) (by rfl) (by rfl) hA14 (hbokN (by rfl)) (by rfl) (by rfl) (fun A17 hA17 eA17 fA17 => ?_)
  refine hxa_aload_n (by rfl) rfl ?_
  refine hxa_iconst (by rfl) rfl ?_
  refine hxj_putI (by rfl) (by rfl) (by rfl) (by rfl) hA17 (hbokN (by rfl)) (by rfl) (by rfl) (fun A18 hA18 eA18 fA18 => ?_)
  refine hxa_iconst (by rfl) rfl ?_
  refine hxa_s1 (by rfl) (Or.inl ⟨_, rfl, rfl⟩) rfl ?_
  exact L37 (Int.toNat (10 - 0) + 1) (Int32.ofNat 0) A18 hA18 (by omega) (by omega) (by omega) (⟨⟨by rw [eA18, hup2 (by omega), eA17, hup2 (by omega), eA14, hup2 (by omega), eA13, hup2 (by omega), eA12, hup1, ez11], by rw [eA18, hup2 (by omega), eA17, hup2 (by omega), eA14, hup2 (by omega), eA13, hup1], by rw [eA18, hup2 (by omega), eA17, hup2 (by omega), eA14, hup1], by rw [eA18, hup2 (by omega), eA17, hup1, ez16, ez15, ez11], by rw [eA18, hup1]⟩, fun i j _ => by rw [fA18, fA17, fA14, fA13, fA12], fun k hk => absurd hk (by omega)⟩)
theorem hX16g {d : Nat} {Bn Br : Int} {A0 A : hs_A} (hA : hJ 0 Bn Br A0 A)  {T : Nat} (hT : hTT T) (eT : A0.2.2.2 0 3 = T + 1)  : hxC (d + 1) 16 hm_m16 [.ref 27, .ref (T + 1)] A (fun r A' => hJ 0 Bn Br A0 A' ∧ r = none ∧ (hBg T A A')) := hxC.of (by rfl) (hY16g hA hT eT  (fun r A' h => h))
/-! the sets that are on, as bits -/
theorem hOnb_d : ∀ a, a < 10 → Int32.ofNat 1 <<< (Int32.ofNat a &&& 31) = Int32.ofNat (2 ^ a) := by decide +kernel
set_option maxRecDepth 1000000 in
theorem hOnb_b : ∀ a, a < 10 → ∀ n, n < 1024 → hBit (Int32.ofNat n) (Int32.ofNat a) = ((n / 2 ^ a % 2 : Nat) : Int) := by decide +kernel
theorem hOnb_x (n m : Nat) : Int32.ofNat n ^^^ Int32.ofNat m = Int32.ofNat (n ^^^ m) := by
  apply Int32.toBitVec_inj.mp
  show BitVec.ofNat 32 n ^^^ BitVec.ofNat 32 m = BitVec.ofNat 32 (n ^^^ m)
  rw [BitVec.ofNat_xor]
theorem hOnb.bit {x : Int32} {g : Nat → Int32} {H : Int} (h : hOnb x g H) {a : Int32} (h0 : 0 ≤ a.toInt) (h1 : a.toInt < H) (h9 : a.toInt ≤ 9) : hBit x a = (g (50 + a.toNatClampNeg)).toInt ∧ (hBit x a = 0 ∨ hBit x a = 1) := by
  obtain ⟨n, q1, rfl, q3⟩ := h
  have c := hn_cn (j := a) h0
  have e := hOnb_b a.toNatClampNeg (by omega) n q1.1
  rw [← hI32 h0 (by omega)] at e
  rw [q3 a.toNatClampNeg (by omega), hn_c (n := n / 2 ^ a.toNatClampNeg % 2) rfl (by omega), e]
  omega
theorem hOnb_n {n a h : Nat} : (n ^^^ 2 ^ a) / 2 ^ h % 2 = if h = a then 1 - n / 2 ^ h % 2 else n / 2 ^ h % 2 := by
  have t1 := Nat.testBit_xor n (2 ^ a) h
  rw [Nat.testBit_two_pow, Nat.testBit_eq_decide_div_mod_eq, Nat.testBit_eq_decide_div_mod_eq] at t1
  have m1 : (n ^^^ 2 ^ a) / 2 ^ h % 2 < 2 := Nat.mod_lt _ (by omega)
  have m2 : n / 2 ^ h % 2 < 2 := Nat.mod_lt _ (by omega)
  generalize (n ^^^ 2 ^ a) / 2 ^ h % 2 = u at *
  generalize n / 2 ^ h % 2 = v at *
  by_cases q : h = a
  · rw [if_pos q]
    rw [decide_eq_true q.symm, Bool.xor_true] at t1
    have u01 : u = 0 ∨ u = 1 := by omega
    have v01 : v = 0 ∨ v = 1 := by omega
    rcases u01 with rfl | rfl <;> rcases v01 with rfl | rfl <;> simp at t1 <;> rfl
  · rw [if_neg q]
    rw [decide_eq_false (p := a = h) (fun w => q w.symm), Bool.xor_false] at t1
    have u01 : u = 0 ∨ u = 1 := by omega
    have v01 : v = 0 ∨ v = 1 := by omega
    rcases u01 with rfl | rfl <;> rcases v01 with rfl | rfl <;> simp at t1 <;> rfl
theorem hOnb.turn {x x' : Int32} {g g' : Nat → Int32} {H : Int} (h : hOnb x g H) {a b : Int32} (hH : H ≤ 10) (h0 : 0 ≤ a.toInt) (h1 : a.toInt < H) (hb0 : 0 ≤ b.toInt) (hb1 : b.toInt ≤ 1) (hne : ¬ (hBit x a = 0 ∧ b.toInt = 0 ∨ ¬ hBit x a = 0 ∧ b.toInt = 1)) (hx : x' = x ^^^ (Int32.ofNat 1 <<< (a &&& 31))) (hg : ∀ k : Nat, k < 73 → g' k = if k = 50 + a.toNatClampNeg then b else g k) : hOnb x' g' H := by
  have bt := h.bit h0 h1 (by omega)
  obtain ⟨n, q1, rfl, q3⟩ := h
  have c := hn_cn (j := a) h0
  have e := hOnb_b a.toNatClampNeg (by omega) n q1.1
  rw [← hI32 h0 (by omega)] at e
  have ed := hOnb_d a.toNatClampNeg (by omega)
  rw [← hI32 h0 (by omega)] at ed
  refine ⟨n ^^^ 2 ^ a.toNatClampNeg, ?_, by rw [hx, ed, hOnb_x], fun k hk => ?_⟩
  · have p : 2 ^ a.toNatClampNeg < 2 ^ 10 := Nat.pow_lt_pow_right (by omega) (by omega)
    have p2 : 2 ^ a.toNatClampNeg < 2 ^ H.toNat := Nat.pow_lt_pow_right (by omega) (by omega)
    exact ⟨Nat.xor_lt_two_pow (n := 10) q1.1 p, Nat.xor_lt_two_pow q1.2 p2⟩
  · rw [hg (50 + k) (by omega), hOnb_n]
    by_cases q : k = a.toNatClampNeg
    · rw [if_pos (by omega), if_pos q, q]
      apply Int32.toInt_inj.mp
      have m2 : n / 2 ^ a.toNatClampNeg % 2 < 2 := Nat.mod_lt _ (by omega)
      rw [hn_c (n := 1 - n / 2 ^ a.toNatClampNeg % 2) rfl (by omega)]
      omega
    · rw [if_neg (by omega), if_neg q]
      exact q3 k hk
set_option maxRecDepth 1000000 in
theorem hOnb_a : ∀ n, n < 11 → ((Int32.ofNat 1 <<< (Int32.ofNat n &&& 31)) - Int32.ofNat 1 = Int32.ofNat (2 ^ n - 1) ∧ 2 ^ n - 1 < 1024) ∧ ∀ h, h < n → (2 ^ n - 1) / 2 ^ h % 2 = 1 := by decide +kernel
theorem hOnb.all {x y : Int32} {g : Nat → Int32} (h0 : 0 ≤ y.toInt) (h1 : y.toInt ≤ 10) (hx : x = (Int32.ofNat 1 <<< (y &&& 31)) - Int32.ofNat 1) (hg : ∀ j : Nat, (j : Int) < y.toInt → g (50 + j) = Int32.ofNat 1) : hOnb x g y.toInt := by
  have c := hn_cn (j := y) h0
  obtain ⟨⟨d1, d2⟩, d3⟩ := hOnb_a y.toNatClampNeg (by omega)
  rw [← hI32 h0 (by omega)] at d1
  have ee : y.toInt.toNat = y.toNatClampNeg := by omega
  exact ⟨_, ⟨d2, by rw [ee]; have := Nat.two_pow_pos y.toNatClampNeg; omega⟩, hx.trans d1, fun k hk => by rw [hg k hk, d3 k (by omega)]⟩
/-! WHAT THE LAWS TELL, WHAT PASSES: plain functions, all of Int32; g is a row of 73 numbers as the reference keeps it -/
/-- how many of the lowest k bits are there -/
def huB : Nat → Int32 → Int32
  | 0, _ => Int32.ofNat 0
  | k + 1, x => huB k x + ((x >>> (Int32.ofNat k &&& 31)) &&& Int32.ofNat 1)
def hub (x : Int32) (p : Nat) : Bool := x.toBitVec.getLsbD p
/-- what a law looks at, but for part and parts -/
def huX (H : Int32) (g : Nat → Int32) (h t : Int32) : Nat → Int32 := fun i =>
  if i = 0 then h else if i = 1 then t - t / Int32.ofNat 24 * Int32.ofNat 24 else if i = 2 then t / Int32.ofNat 24
  else if i = 4 then huB 10 (g h.toNatClampNeg) else if i = 5 then g (10 + h.toNatClampNeg) else if i = 7 then H
  else if i = 8 then huB 10 (g (40 + h.toNatClampNeg)) else Int32.ofNat 0
/-- what law q tells -/
def huL (D : hg_D) (q : Nat) (x : Nat → Int32) : Int32 := hgw_law x (D.2.2.2 q).1 (D.2.2.2 q).2
/-- held to 0 .. m -/
def huC (m : Nat) (v : Int32) : Int32 := if v.toInt < 0 then Int32.ofNat 0 else if (m : Int) < v.toInt then Int32.ofNat m else v
def huT (D : hg_D) (x : Nat → Int32) (q : Int32) : Int32 := huC 7 (huL D 1 (hgx x (Int32.ofNat 0) q))
def huU (D : hg_D) (x : Nat → Int32) : Int32 := huC 255 (huL D 2 (hgx x (Int32.ofNat 0) (Int32.ofNat 0)))
def huE (D : hg_D) (x : Nat → Int32) : Int32 := huC 100 (huL D 3 (hgx x (Int32.ofNat 0) (Int32.ofNat 0)))
def huK (D : hg_D) (x : Nat → Int32) (q : Int32) (p : Nat) : Bool := decide (0 < (huL D 0 (hgx x (Int32.ofNat p) q)).toInt)
/-- the parts b, turned by t -/
def huP (b : Nat → Bool) (t : Nat) : Nat → Int32
  | 0 => Int32.ofNat 0
  | p + 1 => if b p then huP b t p ||| Int32.ofNat (2 ^ ((p + t) % 8)) else huP b t p
/-- what is passed of y by laws that look at x -/
def huW (D : hg_D) (x : Nat → Int32) (y : Int32) : Int32 := huU D x ||| huP (fun p => hub y p && huK D x (huB 10 y) p) (huT D x (huB 10 y)).toNatClampNeg 8
section HSB
theorem huC_in {m : Nat} {v : Int32} (hm : m < 2147483648) : 0 ≤ (huC m v).toInt ∧ (huC m v).toInt ≤ (m : Int) := by
  unfold huC
  split
  · rw [hn_c (n := 0) rfl (by omega)]
    omega
  · split
    · rw [hn_c (n := m) rfl hm]
      omega
    · omega
theorem huB_le : ∀ (k : Nat) (x : Int32), k ≤ 31 → 0 ≤ (huB k x).toInt ∧ (huB k x).toInt ≤ (k : Int)
  | 0, x, _ => by
    show 0 ≤ (Int32.ofNat 0).toInt ∧ (Int32.ofNat 0).toInt ≤ _
    rw [hk_0]
    omega
  | k + 1, x, hk => by
    have q := huB_le k x (by omega)
    have a := hn_and (x := x >>> (Int32.ofNat k &&& 31)) (y := Int32.ofNat 1) (by rw [hk_1]; omega)
    rw [hk_1] at a
    have e := hn_add (z := huB (k + 1) x) (x := huB k x) (y := (x >>> (Int32.ofNat k &&& 31)) &&& Int32.ofNat 1) rfl (by omega) (by omega)
    omega
end HSB
theorem huI {x : Int32} {n : Nat} (h : x.toInt = (n : Int)) (hn : n < 2147483648) : x = Int32.ofNat n := Int32.toInt_inj.mp (h.trans (hn_c (n := n) rfl hn).symm)
theorem huC_of {m : Nat} {v : Int32} (hm : m < 2147483648) : (if v.toInt < (Int32.ofNat 0).toInt then Int32.ofNat 0 else if (Int32.ofNat m).toInt < v.toInt then Int32.ofNat m else v) = huC m v := by
  unfold huC
  rw [hk_0, hn_c (n := m) rfl hm]
/-! THE REFERENCE'S CONTENT that is live: side sd tells D -/
noncomputable def hrM (W : Nat) : Bool := !Nat.testBit W (ug_o (ug_g 367) 18) && [376, 377, 378, 380, 381, 382, 383, 384, 385, 386, 387, 388, 389, 390, 391].all (fun c => !Nat.testBit W (ug_g c))
def hrK (sd : Nat) (D : hg_D) (A : hs_A) : Prop := (A.1 367 18).toInt = (sd : Int) ∧ sd ≤ 1 ∧ hVl (sd : Int) A ∧ (∀ q, q < 4 → hgw_wl (D.2.2.2 q)) ∧ ∃ (V : Nat → Int) (ns : List Nat) (bb zz : Nat), ns.length ≤ 10 ∧ hmM V A sd ns D bb zz ∧ (A.2.1 376 sd).toInt = (ns.length : Int)
theorem hrM.get {W : Nat} (e : hrM W = true) : Nat.testBit W (ug_o (ug_g 367) 18) = false ∧ ∀ c, c ∈ [376, 377, 378, 380, 381, 382, 383, 384, 385, 386, 387, 388, 389, 390, 391] → Nat.testBit W (ug_g c) = false := by
  unfold hrM at e
  obtain ⟨e1, e2⟩ := (Bool.and_eq_true _ _).mp e |> fun h => h
  refine ⟨?_, fun c hc => ?_⟩
  · cases t : Nat.testBit W (ug_o (ug_g 367) 18) with
    | false => rfl
    | true =>
      rw [t] at e1
      exact absurd e1 (by decide)
  · have q := List.all_eq_true.mp e2 c hc
    cases t : Nat.testBit W (ug_g c) with
    | false => rfl
    | true =>
      rw [t] at q
      exact absurd q (by decide)
theorem hrK.lr {W s : Nat} {A A' : hs_A} (hs : s ≤ 1) (w : uf_W W A A') (e : hrM W = true) : ∀ c j, hlr (s : Int) c j → A'.2.1 c j = A.2.1 c j := by
  have ee := (hrM.get e).2
  intro c j hl
  rcases hl with ⟨h, h1, h2⟩ | ⟨⟨h, h'⟩, h1, h2⟩ | ⟨h, h1, h2⟩
  · rcases h with rfl | rfl
    · exact w.2.1 383 _ _ j rfl (by omega) (ee _ (by decide))
    · exact w.2.1 384 _ _ j rfl (by omega) (ee _ (by decide))
  · have hc : c = 385 ∨ c = 386 ∨ c = 387 ∨ c = 388 ∨ c = 389 := by omega
    rcases hc with rfl | rfl | rfl | rfl | rfl
    · exact w.2.1 385 _ _ j rfl (by omega) (ee _ (by decide))
    · exact w.2.1 386 _ _ j rfl (by omega) (ee _ (by decide))
    · exact w.2.1 387 _ _ j rfl (by omega) (ee _ (by decide))
    · exact w.2.1 388 _ _ j rfl (by omega) (ee _ (by decide))
    · exact w.2.1 389 _ _ j rfl (by omega) (ee _ (by decide))
  · rcases h with rfl | rfl
    · exact w.2.1 390 _ _ j rfl (by omega) (ee _ (by decide))
    · exact w.2.1 391 _ _ j rfl (by omega) (ee _ (by decide))
theorem hrK.ot {W s : Nat} {A A' : hs_A} (hs : s ≤ 1) (w : uf_W W A A') (e : hrM W = true) : ∀ c j, ¬ c = 379 → hlq s c j → A'.2.1 c j = A.2.1 c j := by
  have ee := (hrM.get e).2
  intro c j h9 hl
  rcases hl with ⟨h | h | h | h, hj⟩ | ⟨h | h, h1, h2⟩ | ⟨h, h1, h2⟩ <;> subst h
  · exact w.2.1 376 _ _ j rfl (by omega) (ee _ (by decide))
  · exact absurd rfl h9
  · exact w.2.1 381 _ _ j rfl (by omega) (ee _ (by decide))
  · exact w.2.1 382 _ _ j rfl (by omega) (ee _ (by decide))
  · exact w.2.1 377 _ _ j rfl (by omega) (ee _ (by decide))
  · exact w.2.1 378 _ _ j rfl (by omega) (ee _ (by decide))
  · exact w.2.1 380 _ _ j rfl (by omega) (ee _ (by decide))
theorem hrK.uf {W sd : Nat} {D : hg_D} {A A' : hs_A} (h : hrK sd D A) (w : uf_W W A A') (e : hrM W = true) : hrK sd D A' := by
  obtain ⟨h1, h2, h3, h4, V, ns, bb, zz, h5, h6, h7⟩ := h
  have lr := hrK.lr h2 w e
  have ot := hrK.ot h2 w e
  obtain ⟨m1, ⟨m2, m3, m4⟩, m5⟩ := h6
  refine ⟨?_, h2, h3.mv (by omega) lr, h4, V, ns, bb, zz, h5, ⟨fun k hk => ?_, ⟨fun t ht => ?_, ?_, ?_⟩, m5.mv (fun i hi => ⟨ot 377 _ (by decide) (Or.inr (Or.inl ⟨Or.inl rfl, by omega, by omega⟩)), ot 378 _ (by decide) (Or.inr (Or.inl ⟨Or.inr rfl, by omega, by omega⟩))⟩)⟩, ?_⟩
  · rw [w.1 367 _ _ 18 rfl rfl (hrM.get e).1]
    exact h1
  · obtain ⟨b0, b1, q1, q2, q3⟩ := m1 k hk
    refine ⟨b0, b1, ?_, ?_, ?_⟩
    · rw [lr 383 _ (Or.inl ⟨Or.inl rfl, by omega, by omega⟩)]
      exact q1
    · rw [lr 384 _ (Or.inl ⟨Or.inr rfl, by omega, by omega⟩)]
      exact q2
    · rcases q3 with q3 | ⟨q4, q5, q6, q7⟩
      · exact Or.inl q3
      · rcases h3 (4 * sd + k) (by omega) (by omega) with v | ⟨v1, v2, v3⟩
        · exact False.elim (by omega)
        · exact Or.inr ⟨q4, q5, hmBr.lv lr q6 (fun i a c => v3 i (by omega) (by omega)) (by omega) (by omega), q7.lv (v3 _ (by omega) (by omega)) (by omega) (by omega) lr⟩
  · rw [ot 380 _ (by decide) (Or.inr (Or.inr ⟨rfl, by omega, by omega⟩))]
    exact m2 t ht
  · rw [ot 381 _ (by decide) (Or.inl ⟨Or.inr (Or.inr (Or.inl rfl)), rfl⟩)]
    exact m3
  · rw [ot 382 _ (by decide) (Or.inl ⟨Or.inr (Or.inr (Or.inr rfl)), rfl⟩)]
    exact m4
  · rw [ot 376 _ (by decide) (Or.inl ⟨Or.inl rfl, rfl⟩)]
    exact h7
theorem hP176k {g d sd q : Nat} {D : hg_D} {x : Nat → Int32} {A : hs_A} (a1 a2 : Int32) (hK : hrK sd D A) (hq : q < 4) (h1 : a1.toInt = (q : Int)) (h2 : a2 = Int32.ofInt (if q = 0 then 1 else 0)) (hx : ∀ i, i < 9 → A.2.1 393 i = x i) : hpC g d 176 hm_m176 [.ref 368, .int a1, .int a2] A (fun r A' => ∃ z : Int32, r = some (.int z) ∧ z = huL D q x) := by
  obtain ⟨k18, ks, kv, kw, V, ns, bb, zz, kn, kM, kc⟩ := hK
  exact (hP176 a1 a2 kM k18 ks hq h1 h2 hx (kw q hq)).imp (fun r A' h => by
    obtain ⟨z, e, hz, -⟩ := h
    exact ⟨z, e, hz⟩)
theorem huP_t {b : Nat → Bool} {t p : Nat} (h : b p = true) : huP b t (p + 1) = huP b t p ||| Int32.ofNat (2 ^ ((p + t) % 8)) := by
  show (if b p then huP b t p ||| Int32.ofNat (2 ^ ((p + t) % 8)) else huP b t p) = _
  rw [if_pos h]
theorem huP_f {b : Nat → Bool} {t p : Nat} (h : b p = false) : huP b t (p + 1) = huP b t p := by
  show (if b p then huP b t p ||| Int32.ofNat (2 ^ ((p + t) % 8)) else huP b t p) = _
  rw [if_neg (by rw [h]; decide)]
theorem hub_d : ∀ p, p < 8 → ∀ n, n < 256 → (((Int32.ofNat n >>> (Int32.ofNat p &&& 31)) &&& Int32.ofNat 1).toInt = 1 ↔ hub (Int32.ofNat n) p = true) := by decide +kernel
theorem hub_iff {x : Int32} {p : Nat} (h0 : 0 ≤ x.toInt) (h1 : x.toInt ≤ 255) (hp : p < 8) : ((x >>> (Int32.ofNat p &&& 31)) &&& Int32.ofNat 1).toInt = 1 ↔ hub x p = true := by
  have c := hn_cn (j := x) h0
  have e := hub_d p hp x.toNatClampNeg (by omega)
  rw [← hI32 h0 (by omega)] at e
  exact e
theorem huP_sh : ∀ p, p < 8 → ∀ t, t < 8 → Int32.ofNat 1 <<< ((Int32.ofNat p + Int32.ofNat t - (Int32.ofNat p + Int32.ofNat t) / Int32.ofNat 8 * Int32.ofNat 8) &&& 31) = Int32.ofNat (2 ^ ((p + t) % 8)) := by decide +kernel
theorem hs_or3 {a b c : Int32} : a ||| b ||| c = a ||| (b ||| c) := by
  apply Int32.toBitVec_inj.mp
  show a.toBitVec ||| b.toBitVec ||| c.toBitVec = a.toBitVec ||| (b.toBitVec ||| c.toBitVec)
  exact BitVec.or_assoc _ _ _
theorem hs_or0 {a : Int32} : a ||| Int32.ofNat 0 = a := by
  apply Int32.toBitVec_inj.mp
  show a.toBitVec ||| 0#32 = a.toBitVec
  exact BitVec.or_zero
theorem huT_in {D : hg_D} {x : Nat → Int32} {q : Int32} : 0 ≤ (huT D x q).toInt ∧ (huT D x q).toInt ≤ 7 := huC_in (m := 7) (by decide)
theorem huU_in {D : hg_D} {x : Nat → Int32} : 0 ≤ (huU D x).toInt ∧ (huU D x).toInt ≤ 255 := huC_in (m := 255) (by decide)
theorem huE_in {D : hg_D} {x : Nat → Int32} : 0 ≤ (huE D x).toInt ∧ (huE D x).toInt ≤ 100 := huC_in (m := 100) (by decide)
theorem huP_in {b : Nat → Bool} {t : Nat} : ∀ p, 0 ≤ (huP b t p).toInt ∧ (huP b t p).toInt ≤ 255
  | 0 => by
    show 0 ≤ (Int32.ofNat 0).toInt ∧ (Int32.ofNat 0).toInt ≤ 255
    rw [hk_0]
    omega
  | p + 1 => by
    have q := huP_in (b := b) (t := t) p
    cases h : b p with
    | false => rw [huP_f h]; exact q
    | true =>
      rw [huP_t h]
      have m : (p + t) % 8 < 8 := Nat.mod_lt _ (by decide)
      have key : ∀ k, k < 8 → 0 ≤ (Int32.ofNat (2 ^ k)).toInt ∧ (Int32.ofNat (2 ^ k)).toInt ≤ 255 := by decide +kernel
      have k2 := key _ m
      exact hn_or q.1 q.2 k2.1 k2.2
theorem huW_in {D : hg_D} {x : Nat → Int32} {y : Int32} : 0 ≤ (huW D x y).toInt ∧ (huW D x y).toInt ≤ 255 := hn_or huU_in.1 huU_in.2 (huP_in 8).1 (huP_in 8).2
theorem hW164 {g d f : Nat} {A : hs_A} (a1 a2 a3 : Int32) {P : Option Value → hs_A → Prop} (hP : ∀ (r : Option Value) (A' : hs_A), (A = A' ∧ ∃ z : Int32, r = some (.int z) ∧ ((z.toInt = 1 ∧ a2.toInt ≤ a1.toInt ∧ a1.toInt ≤ a3.toInt) ∨ (z.toInt = 0 ∧ (a1.toInt < a2.toInt ∨ a3.toInt < a1.toInt)))) → P r A') : hpa (f, g) d (some (.boolean)) hm_t164 0 [.int a1, .int a2, .int a3] [] A P := by
  have k0 := hk_0
  have k1 := hk_1
  refine hpa_iload_n (by rfl) rfl ?_
  refine hpa_iload_n (by rfl) rfl ?_
  refine hpj_clt (by rfl) rfl rfl (fun q1 => ?_) (fun q1 => ?_)
  ·
    refine hpa_iconst (by rfl) rfl ?_
    exact hpa_ireturn (by rfl) (by rfl) (hP _ _ ⟨rfl, _, rfl, Or.inr ⟨hk_0, by omega⟩⟩)
  ·
    refine hpa_iload_n (by rfl) rfl ?_
    refine hpa_iload_n (by rfl) rfl ?_
    refine hpj_cgt (by rfl) rfl rfl (fun q2 => ?_) (fun q2 => ?_)
    ·
      refine hpa_iconst (by rfl) rfl ?_
      exact hpa_ireturn (by rfl) (by rfl) (hP _ _ ⟨rfl, _, rfl, Or.inr ⟨hk_0, by omega⟩⟩)
    ·
      refine hpa_iconst (by rfl) rfl ?_
      refine hpa_goto (by rfl) ?_
      exact hpa_ireturn (by rfl) (by rfl) (hP _ _ ⟨rfl, _, rfl, Or.inl ⟨hk_1, by omega, by omega⟩⟩)
theorem hP164 {g d : Nat} {A : hs_A} (a1 a2 a3 : Int32) : hpC g d 164 hm_m164 [.int a1, .int a2, .int a3] A (fun r A' => A = A' ∧ ∃ z : Int32, r = some (.int z) ∧ ((z.toInt = 1 ∧ a2.toInt ≤ a1.toInt ∧ a1.toInt ≤ a3.toInt) ∨ (z.toInt = 0 ∧ (a1.toInt < a2.toInt ∨ a3.toInt < a1.toInt)))) := hpC.all (fun f d => hW164 a1 a2 a3 (fun r A' h => h))
theorem hW165 {g d f : Nat} {A : hs_A} (a1 a2 a3 : Int32) {P : Option Value → hs_A → Prop} (hP : ∀ (r : Option Value) (A' : hs_A), (A = A' ∧ ∃ z : Int32, r = some (.int z) ∧ z = (if a1.toInt < a2.toInt then a2 else if a3.toInt < a1.toInt then a3 else a1)) → P r A') : hpa (f, g) d (some (.int)) hm_t165 0 [.int a1, .int a2, .int a3] [] A P := by
  refine hpa_iload_n (by rfl) rfl ?_
  refine hpa_iload_n (by rfl) rfl ?_
  refine hpj_cge (by rfl) rfl rfl (fun q1 => ?_) (fun q1 => ?_)
  ·
    refine hpa_iload_n (by rfl) rfl ?_
    refine hpa_iload_n (by rfl) rfl ?_
    refine hpj_cle (by rfl) rfl rfl (fun q2 => ?_) (fun q2 => ?_)
    ·
      refine hpa_iload_n (by rfl) rfl ?_
      exact hpa_ireturn (by rfl) rfl (hP _ _ ⟨rfl, _, rfl, by rw [if_neg (by omega), if_neg (by omega)]⟩)
    ·
      refine hpa_iload_n (by rfl) rfl ?_
      refine hpa_goto (by rfl) ?_
      exact hpa_ireturn (by rfl) rfl (hP _ _ ⟨rfl, _, rfl, by rw [if_neg (by omega), if_pos (by omega)]⟩)
  ·
    refine hpa_iload_n (by rfl) rfl ?_
    refine hpa_goto (by rfl) ?_
    exact hpa_ireturn (by rfl) rfl (hP _ _ ⟨rfl, _, rfl, by rw [if_pos (by omega)]⟩)
theorem hP165 {g d : Nat} {A : hs_A} (a1 a2 a3 : Int32) : hpC g d 165 hm_m165 [.int a1, .int a2, .int a3] A (fun r A' => A = A' ∧ ∃ z : Int32, r = some (.int z) ∧ z = (if a1.toInt < a2.toInt then a2 else if a3.toInt < a1.toInt then a3 else a1)) := hpC.all (fun f d => hW165 a1 a2 a3 (fun r A' h => h))
theorem hW166 {g d f : Nat} {A : hs_A} (a1 : Int32) {P : Option Value → hs_A → Prop} (hP : ∀ (r : Option Value) (A' : hs_A), (A = A' ∧ ∃ z : Int32, r = some (.int z) ∧ z = huB 10 a1) → P r A') : hpa (f, g) d (some (.int)) hm_t166 0 [.int a1, .retAddr 0, .retAddr 0] [] A P := by
  have k0 := hk_0
  have k1 := hk_1
  have k10 := hk_10
  have L4 : ∀ (f : Nat) (x4_2 : Int32) (x4_1 : Int32) (k4 : Nat) (bk4 : k4 ≤ 10) (ek4 : x4_2 = Int32.ofNat k4) (x4e1 : x4_1 = huB k4 a1), hpa (f, g) d (some (.int)) hm_t166 4 [.int a1, .int x4_1, .int x4_2] [] A P := by
    intro f
    induction f with
    | zero => intros; exact hpa.zero
    | succ f ih4 =>
      intro x4_2 x4_1 k4 bk4 ek4 x4e1
      subst ek4
      have ck4 := hn_c (n := k4) (z := Int32.ofNat k4) rfl (by omega)
      subst x4e1
      refine hpa_iload_nS (by rfl) rfl ?_
      refine hpa_bipush (by rfl) rfl ?_
      refine hpj_cge (by rfl) ck4 hk_10 (fun q1 => ?_) (fun q1 => ?_)
      ·
        refine hpa_iload_n (by rfl) rfl ?_
        exact hpa_ireturn (by rfl) rfl (hP _ _ ⟨rfl, _, rfl, by rw [show k4 = 10 by omega]⟩)
      ·
        refine hpa_iload_n (by rfl) rfl ?_
        refine hpa_iload_n (by rfl) rfl ?_
        refine hpa_iload_n (by rfl) rfl ?_
        refine hpa_ishr (by rfl) ?_
        refine hpa_iconst (by rfl) rfl ?_
        refine hpa_iand (by rfl) ?_
        refine hpa_iadd (by rfl) ?_
        refine hpa_s1 (by rfl) (Or.inl ⟨_, rfl, rfl⟩) rfl ?_
        refine hpj_iinc (by rfl) rfl ck4 hk_1 (by omega) (by omega) (fun _ => rfl) (fun z2 ez2 => ?_)
        refine hpa_goto (by rfl) ?_
        exact ih4 z2 ((huB k4 a1) + ((a1 >>> ((Int32.ofNat k4) &&& 31)) &&& (Int32.ofNat 1))) (k4 + 1) (by omega) (huI (by omega) (by omega)) rfl
  refine hpa_iconst (by rfl) rfl ?_
  refine hpa_s1 (by rfl) (Or.inl ⟨_, rfl, rfl⟩) rfl ?_
  refine hpa_iconst (by rfl) rfl ?_
  refine hpa_s1 (by rfl) (Or.inl ⟨_, rfl, rfl⟩) rfl ?_
  exact L4 _ (Int32.ofNat 0) (Int32.ofNat 0) 0 (by omega) rfl rfl
theorem hP166 {g d : Nat} {A : hs_A} (a1 : Int32) : hpC g d 166 hm_m166 [.int a1] A (fun r A' => A = A' ∧ ∃ z : Int32, r = some (.int z) ∧ z = huB 10 a1) := hpC.all (fun f d => hW166 a1 (fun r A' h => h))
def uM175 : Nat := 81129638414606681695789005144064
theorem hW175 {g d f : Nat} {A : hs_A} {sd : Nat} {D : hg_D} {ro : Nat → Int32} {H : Int32} (a1 a2 a3 a4 : Int32) (hK : hrK sd D A) (hH : A.2.1 376 sd = H) (hg : ∀ k, k < 73 → A.2.1 396 k = ro k) (pa1 : 0 ≤ a1.toInt) (qa1 : a1.toInt ≤ 9) (hH0 : uf_H A) {P : Option Value → hs_A → Prop} (hP : ∀ (r : Option Value) (A' : hs_A), (r = none ∧ (∀ i, i < 9 → A'.2.1 393 i = hgx (huX H ro a1 a4) a3 a2 i)) → P r A') : hpa (f, g) d none hm_t175 0 [.ref 368, .int a1, .int a2, .int a3, .int a4] [] A P := by
  have k0 := hk_0
  have k1 := hk_1
  have k10 := hk_10
  have k2 := hk_2
  have k24 := hk_24
  have k3 := hk_3
  have k4 := hk_4
  have k40 := hk_40
  have k5 := hk_5
  have k6 := hk_6
  have k7 := hk_7
  have k8 := hk_8
  have k18 := hK.1
  have ksd := hK.2.1
  have c1 := hn_cn (j := a1) pa1
  have U0 : uf_W uM175 A A := uf_W.rfl
  refine hpa_aload_n (by rfl) rfl ?_
  refine hpa_get (v := .ref 394) (by rfl) (by rfl) (by rfl) rfl ?_
  refine hpa_iconst (by rfl) rfl ?_
  refine hpa_iload_n (by rfl) rfl ?_
  refine hpx_iast (by rfl) (by rfl) (fun A1 h0A1 h1A1 eA1 fA1 gA1 => ?_)
  have UA1 := (U0).ar eA1 fA1 gA1 (by decide +kernel)
  have HA1 := (hH0).e (congrArg (fun q => q.2) gA1)
  rw [show ((Int32.ofNat 0)).toNatClampNeg = 0 from by have := hn_cn (j := (Int32.ofNat 0)) (by omega); omega] at fA1
  refine hpa_aload_n (by rfl) rfl ?_
  refine hpa_get (v := .ref 394) (by rfl) (by rfl) (by rfl) rfl ?_
  refine hpa_iconst (by rfl) rfl ?_
  refine hpa_iload (by rfl) rfl ?_
  refine hpa_bipush (by rfl) rfl ?_
  refine hpa_irem (by rfl) (by decide) ?_
  refine hpx_iast (by rfl) (by rfl) (fun A2 h0A2 h1A2 eA2 fA2 gA2 => ?_)
  have UA2 := (UA1).ar eA2 fA2 gA2 (by decide +kernel)
  have HA2 := (HA1).e (congrArg (fun q => q.2) gA2)
  rw [show ((Int32.ofNat 1)).toNatClampNeg = 1 from by have := hn_cn (j := (Int32.ofNat 1)) (by omega); omega] at fA2
  refine hpa_aload_n (by rfl) rfl ?_
  refine hpa_get (v := .ref 394) (by rfl) (by rfl) (by rfl) rfl ?_
  refine hpa_iconst (by rfl) rfl ?_
  refine hpa_iload (by rfl) rfl ?_
  refine hpa_bipush (by rfl) rfl ?_
  refine hpa_idiv (by rfl) (by decide) ?_
  refine hpx_iast (by rfl) (by rfl) (fun A3 h0A3 h1A3 eA3 fA3 gA3 => ?_)
  have UA3 := (UA2).ar eA3 fA3 gA3 (by decide +kernel)
  have HA3 := (HA2).e (congrArg (fun q => q.2) gA3)
  rw [show ((Int32.ofNat 2)).toNatClampNeg = 2 from by have := hn_cn (j := (Int32.ofNat 2)) (by omega); omega] at fA3
  refine hpa_aload_n (by rfl) rfl ?_
  refine hpa_get (v := .ref 394) (by rfl) (by rfl) (by rfl) rfl ?_
  refine hpa_iconst (by rfl) rfl ?_
  refine hpa_iload_n (by rfl) rfl ?_
  refine hpx_iast (by rfl) (by rfl) (fun A4 h0A4 h1A4 eA4 fA4 gA4 => ?_)
  have UA4 := (UA3).ar eA4 fA4 gA4 (by decide +kernel)
  have HA4 := (HA3).e (congrArg (fun q => q.2) gA4)
  rw [show ((Int32.ofNat 3)).toNatClampNeg = 3 from by have := hn_cn (j := (Int32.ofNat 3)) (by omega); omega] at fA4
  refine hpa_aload_n (by rfl) rfl ?_
  refine hpa_get (v := .ref 394) (by rfl) (by rfl) (by rfl) rfl ?_
  refine hpa_iconst (by rfl) rfl ?_
  refine hpa_aload_n (by rfl) rfl ?_
  refine hpa_get (v := .ref 397) (by rfl) (by rfl) (by rfl) rfl ?_
  refine hpa_iload_n (by rfl) rfl ?_
  refine hpx_iald (by rfl) (by rfl) (fun h0v5 h1v5 v5 ev5 => ?_)
  have hgA4 : ∀ k, k < 73 → A4.2.1 396 k = ro k := fun k hk => (UA4.2.1 396 _ _ k rfl hk (by decide +kernel)).trans (hg k hk)
  rw [show (a1).toNatClampNeg = a1.toNatClampNeg from by have := hn_cn (j := a1) (by omega); omega, hgA4 (a1.toNatClampNeg) (by omega)] at ev5
  subst ev5
  refine hpa_call2 (by rfl) (by decide) (by rfl) (by rfl) (by rfl) (uf_C (X := ug_x126) (j := 126) rfl rfl (uf_int uf_nil) HA4 (hP166 (ro a1.toNatClampNeg))) ?_
  rintro _ _ ⟨⟨rfl, z7, rfl, Z_A6⟩, -, -⟩
  subst Z_A6
  refine hpx_iast (by rfl) (by rfl) (fun A8 h0A8 h1A8 eA8 fA8 gA8 => ?_)
  have UA8 := (UA4).ar eA8 fA8 gA8 (by decide +kernel)
  have HA8 := (HA4).e (congrArg (fun q => q.2) gA8)
  rw [show ((Int32.ofNat 4)).toNatClampNeg = 4 from by have := hn_cn (j := (Int32.ofNat 4)) (by omega); omega] at fA8
  refine hpa_aload_n (by rfl) rfl ?_
  refine hpa_get (v := .ref 394) (by rfl) (by rfl) (by rfl) rfl ?_
  refine hpa_iconst (by rfl) rfl ?_
  refine hpa_aload_n (by rfl) rfl ?_
  refine hpa_get (v := .ref 397) (by rfl) (by rfl) (by rfl) rfl ?_
  refine hpa_bipush (by rfl) rfl ?_
  refine hpa_iload_n (by rfl) rfl ?_
  refine hpj_iadd (by rfl) hk_10 rfl (by omega) (by omega) (fun z9 ez9 => ?_)
  refine hpx_iald (by rfl) (by rfl) (fun h0v10 h1v10 v10 ev10 => ?_)
  have hgA8 : ∀ k, k < 73 → A8.2.1 396 k = ro k := fun k hk => (UA8.2.1 396 _ _ k rfl hk (by decide +kernel)).trans (hg k hk)
  rw [show (z9).toNatClampNeg = 10 + a1.toNatClampNeg from by have := hn_cn (j := z9) (by omega); omega, hgA8 (10 + a1.toNatClampNeg) (by omega)] at ev10
  subst ev10
  refine hpx_iast (by rfl) (by rfl) (fun A11 h0A11 h1A11 eA11 fA11 gA11 => ?_)
  have UA11 := (UA8).ar eA11 fA11 gA11 (by decide +kernel)
  have HA11 := (HA8).e (congrArg (fun q => q.2) gA11)
  rw [show ((Int32.ofNat 5)).toNatClampNeg = 5 from by have := hn_cn (j := (Int32.ofNat 5)) (by omega); omega] at fA11
  refine hpa_aload_n (by rfl) rfl ?_
  refine hpa_get (v := .ref 394) (by rfl) (by rfl) (by rfl) rfl ?_
  refine hpa_bipush (by rfl) rfl ?_
  refine hpa_iload_n (by rfl) rfl ?_
  refine hpx_iast (by rfl) (by rfl) (fun A12 h0A12 h1A12 eA12 fA12 gA12 => ?_)
  have UA12 := (UA11).ar eA12 fA12 gA12 (by decide +kernel)
  have HA12 := (HA11).e (congrArg (fun q => q.2) gA12)
  rw [show ((Int32.ofNat 6)).toNatClampNeg = 6 from by have := hn_cn (j := (Int32.ofNat 6)) (by omega); omega] at fA12
  refine hpa_aload_n (by rfl) rfl ?_
  refine hpa_get (v := .ref 394) (by rfl) (by rfl) (by rfl) rfl ?_
  refine hpa_bipush (by rfl) rfl ?_
  refine hpa_aload_n (by rfl) rfl ?_
  refine hpa_get (v := .ref 377) (by rfl) (by rfl) (by rfl) rfl ?_
  refine hpa_aload_n (by rfl) rfl ?_
  refine hpj_getK (by rfl) (by rfl) (by rfl) rfl ?_
  have k18A12 : (A12.1 367 18).toInt = (sd : Int) := (congrArg Int32.toInt (UA12.1 367 _ _ 18 rfl rfl (by decide +kernel))).trans hK.1
  refine hpx_iald (by rfl) (by rfl) (fun h0v13 h1v13 v13 ev13 => ?_)
  have hHA12 : A12.2.1 376 sd = H := (UA12.2.1 376 _ _ sd rfl (by have := hK.2.1; omega) (by decide +kernel)).trans hH
  rw [show ((A12.1 367 18)).toNatClampNeg = sd from by have := hn_cn (j := (A12.1 367 18)) (by omega); omega, hHA12] at ev13
  subst ev13
  refine hpx_iast (by rfl) (by rfl) (fun A14 h0A14 h1A14 eA14 fA14 gA14 => ?_)
  have UA14 := (UA12).ar eA14 fA14 gA14 (by decide +kernel)
  have HA14 := (HA12).e (congrArg (fun q => q.2) gA14)
  rw [show ((Int32.ofNat 7)).toNatClampNeg = 7 from by have := hn_cn (j := (Int32.ofNat 7)) (by omega); omega] at fA14
  refine hpa_aload_n (by rfl) rfl ?_
  refine hpa_get (v := .ref 394) (by rfl) (by rfl) (by rfl) rfl ?_
  refine hpa_bipush (by rfl) rfl ?_
  refine hpa_aload_n (by rfl) rfl ?_
  refine hpa_get (v := .ref 397) (by rfl) (by rfl) (by rfl) rfl ?_
  refine hpa_bipush (by rfl) rfl ?_
  refine hpa_iload_n (by rfl) rfl ?_
  refine hpj_iadd (by rfl) hk_40 rfl (by omega) (by omega) (fun z15 ez15 => ?_)
  refine hpx_iald (by rfl) (by rfl) (fun h0v16 h1v16 v16 ev16 => ?_)
  have hgA14 : ∀ k, k < 73 → A14.2.1 396 k = ro k := fun k hk => (UA14.2.1 396 _ _ k rfl hk (by decide +kernel)).trans (hg k hk)
  rw [show (z15).toNatClampNeg = 40 + a1.toNatClampNeg from by have := hn_cn (j := z15) (by omega); omega, hgA14 (40 + a1.toNatClampNeg) (by omega)] at ev16
  subst ev16
  refine hpa_call2 (by rfl) (by decide) (by rfl) (by rfl) (by rfl) (uf_C (X := ug_x126) (j := 126) rfl rfl (uf_int uf_nil) HA14 (hP166 (ro (40 + a1.toNatClampNeg)))) ?_
  rintro _ _ ⟨⟨rfl, z18, rfl, Z_A17⟩, -, -⟩
  subst Z_A17
  refine hpx_iast (by rfl) (by rfl) (fun A19 h0A19 h1A19 eA19 fA19 gA19 => ?_)
  have UA19 := (UA14).ar eA19 fA19 gA19 (by decide +kernel)
  have HA19 := (HA14).e (congrArg (fun q => q.2) gA19)
  rw [show ((Int32.ofNat 8)).toNatClampNeg = 8 from by have := hn_cn (j := (Int32.ofNat 8)) (by omega); omega] at fA19
  have XX : ∀ i, i < 9 → A19.2.1 393 i = hgx (huX H ro a1 a4) a3 a2 i := by
    intro i hi
    have hi9 : i = 0 ∨ i = 1 ∨ i = 2 ∨ i = 3 ∨ i = 4 ∨ i = 5 ∨ i = 6 ∨ i = 7 ∨ i = 8 := by omega
    rcases hi9 with rfl | rfl | rfl | rfl | rfl | rfl | rfl | rfl | rfl
    · rw [fA19, hup2 (by omega), fA14, hup2 (by omega), fA12, hup2 (by omega), fA11, hup2 (by omega), fA8, hup2 (by omega), fA4, hup2 (by omega), fA3, hup2 (by omega), fA2, hup2 (by omega), fA1, hup1] <;> rfl
    · rw [fA19, hup2 (by omega), fA14, hup2 (by omega), fA12, hup2 (by omega), fA11, hup2 (by omega), fA8, hup2 (by omega), fA4, hup2 (by omega), fA3, hup2 (by omega), fA2, hup1] <;> rfl
    · rw [fA19, hup2 (by omega), fA14, hup2 (by omega), fA12, hup2 (by omega), fA11, hup2 (by omega), fA8, hup2 (by omega), fA4, hup2 (by omega), fA3, hup1] <;> rfl
    · rw [fA19, hup2 (by omega), fA14, hup2 (by omega), fA12, hup2 (by omega), fA11, hup2 (by omega), fA8, hup2 (by omega), fA4, hup1] <;> rfl
    · rw [fA19, hup2 (by omega), fA14, hup2 (by omega), fA12, hup2 (by omega), fA11, hup2 (by omega), fA8, hup1] <;> rfl
    · rw [fA19, hup2 (by omega), fA14, hup2 (by omega), fA12, hup2 (by omega), fA11, hup1] <;> rfl
    · rw [fA19, hup2 (by omega), fA14, hup2 (by omega), fA12, hup1] <;> rfl
    · rw [fA19, hup2 (by omega), fA14, hup1] <;> rfl
    · rw [fA19, hup1] <;> rfl
  exact hpa_return (by rfl) rfl (hP _ _ ⟨rfl, XX⟩)
theorem hP175 {g d : Nat} {A : hs_A} {sd : Nat} {D : hg_D} {ro : Nat → Int32} {H : Int32} (a1 a2 a3 a4 : Int32) (hK : hrK sd D A) (hH : A.2.1 376 sd = H) (hg : ∀ k, k < 73 → A.2.1 396 k = ro k) (pa1 : 0 ≤ a1.toInt) (qa1 : a1.toInt ≤ 9) (hH0 : uf_H A) : hpC g d 175 hm_m175 [.ref 368, .int a1, .int a2, .int a3, .int a4] A (fun r A' => r = none ∧ (∀ i, i < 9 → A'.2.1 393 i = hgx (huX H ro a1 a4) a3 a2 i)) := hpC.all (fun f d => hW175 a1 a2 a3 a4 hK hH hg pa1 qa1 hH0 (fun r A' h => h))
def uM177 : Nat := 497323236409786642155382248146820840100456150797347717683852892136979542099900390965248
theorem hW177 {g d f : Nat} {A : hs_A} {sd : Nat} {D : hg_D} {ro : Nat → Int32} {H : Int32} {p : Nat} (a1 a2 a3 a4 : Int32) (hK : hrK sd D A) (hH : A.2.1 376 sd = H) (hg : ∀ k, k < 73 → A.2.1 396 k = ro k) (pa1 : 0 ≤ a1.toInt) (qa1 : a1.toInt ≤ 9) (hp : a3 = Int32.ofNat p) (hH0 : uf_H A) {P : Option Value → hs_A → Prop} (hP : ∀ (r : Option Value) (A' : hs_A), (∃ z : Int32, r = some (.int z) ∧ ((z.toInt = 1 ∧ huK D (huX H ro a1 a4) a2 p = true) ∨ (z.toInt = 0 ∧ huK D (huX H ro a1 a4) a2 p = false))) → P r A') : hpa (f, g) d (some (.boolean)) hm_t177 0 [.ref 368, .int a1, .int a2, .int a3, .int a4] [] A P := by
  have k0 := hk_0
  have k1 := hk_1
  have U0 : uf_W uM177 A A := uf_W.rfl
  refine hpa_aload_n (by rfl) rfl ?_
  refine hpa_iload_n (by rfl) rfl ?_
  refine hpa_iload_n (by rfl) rfl ?_
  refine hpa_iload_n (by rfl) rfl ?_
  refine hpa_iload (by rfl) rfl ?_
  refine hpa_call0 (by rfl) (by rfl) (by rfl) (by rfl) (by rfl) (by rfl) (uf_C (X := ug_x226) (j := 226) rfl rfl (ug_L.cons (uf_rk_ok (by decide +kernel)) (uf_int (uf_int (uf_int (uf_int uf_nil))))) hH0 (hP175 a1 a2 a3 a4 hK hH hg (by omega) (by omega) hH0)) ?_
  rintro _ A1 ⟨⟨rfl, X_A1⟩, wA1, HA1⟩
  have UA1 := (U0).trans (wA1.le (by decide +kernel : ug_wle ug_x226.2.2.2.1 uM177 = true))
  refine hpa_aload_n (by rfl) rfl ?_
  refine hpa_iconst (by rfl) rfl ?_
  refine hpa_iconst (by rfl) rfl ?_
  have hKA1 : hrK sd D A1 := hK.uf UA1 (by decide +kernel)
  refine hpa_call0 (by rfl) (by rfl) (by rfl) (by rfl) (by rfl) (by rfl) (uf_C (X := ug_x227) (j := 227) rfl rfl (ug_L.cons (uf_rk_ok (by decide +kernel)) (uf_int (uf_int uf_nil))) HA1 (hP176k (q := 0) (Int32.ofNat 0) (Int32.ofNat 1) hKA1 (by omega) hk_0 (by rfl) X_A1)) ?_
  rintro _ A2 ⟨⟨z3, rfl, Z_A2⟩, wA2, HA2⟩
  have UA2 := (UA1).trans (wA2.le (by decide +kernel : ug_wle ug_x227.2.2.2.1 uM177 = true))
  refine hpj_zle (by rfl) rfl (fun q4 => ?_) (fun q4 => ?_)
  ·
    refine hpa_iconst (by rfl) rfl ?_
    exact hpa_ireturn (by rfl) (by rfl) (hP _ _ ⟨_, rfl, Or.inr ⟨hk_0, decide_eq_false (by rw [← hp, ← Z_A2]; omega)⟩⟩)
  ·
    refine hpa_iconst (by rfl) rfl ?_
    refine hpa_goto (by rfl) ?_
    exact hpa_ireturn (by rfl) (by rfl) (hP _ _ ⟨_, rfl, Or.inl ⟨hk_1, decide_eq_true (by rw [← hp, ← Z_A2]; omega)⟩⟩)
theorem hP177 {g d : Nat} {A : hs_A} {sd : Nat} {D : hg_D} {ro : Nat → Int32} {H : Int32} {p : Nat} (a1 a2 a3 a4 : Int32) (hK : hrK sd D A) (hH : A.2.1 376 sd = H) (hg : ∀ k, k < 73 → A.2.1 396 k = ro k) (pa1 : 0 ≤ a1.toInt) (qa1 : a1.toInt ≤ 9) (hp : a3 = Int32.ofNat p) (hH0 : uf_H A) : hpC g d 177 hm_m177 [.ref 368, .int a1, .int a2, .int a3, .int a4] A (fun r A' => ∃ z : Int32, r = some (.int z) ∧ ((z.toInt = 1 ∧ huK D (huX H ro a1 a4) a2 p = true) ∨ (z.toInt = 0 ∧ huK D (huX H ro a1 a4) a2 p = false))) := hpC.all (fun f d => hW177 a1 a2 a3 a4 hK hH hg pa1 qa1 hp hH0 (fun r A' h => h))
def uM178 : Nat := 497323236409786642155382248146820840100456150797347717683852892136979542099900390965248
theorem hW178 {g d f : Nat} {A : hs_A} {sd : Nat} {D : hg_D} {ro : Nat → Int32} {H : Int32} (a1 a2 a3 : Int32) (hK : hrK sd D A) (hH : A.2.1 376 sd = H) (hg : ∀ k, k < 73 → A.2.1 396 k = ro k) (pa1 : 0 ≤ a1.toInt) (qa1 : a1.toInt ≤ 9) (hH0 : uf_H A) {P : Option Value → hs_A → Prop} (hP : ∀ (r : Option Value) (A' : hs_A), (∃ z : Int32, r = some (.int z) ∧ z = huT D (huX H ro a1 a3) a2) → P r A') : hpa (f, g) d (some (.int)) hm_t178 0 [.ref 368, .int a1, .int a2, .int a3] [] A P := by
  have k0 := hk_0
  have k1 := hk_1
  have k7 := hk_7
  have U0 : uf_W uM178 A A := uf_W.rfl
  refine hpa_aload_n (by rfl) rfl ?_
  refine hpa_iload_n (by rfl) rfl ?_
  refine hpa_iload_n (by rfl) rfl ?_
  refine hpa_iconst (by rfl) rfl ?_
  refine hpa_iload_n (by rfl) rfl ?_
  refine hpa_call0 (by rfl) (by rfl) (by rfl) (by rfl) (by rfl) (by rfl) (uf_C (X := ug_x226) (j := 226) rfl rfl (ug_L.cons (uf_rk_ok (by decide +kernel)) (uf_int (uf_int (uf_int (uf_int uf_nil))))) hH0 (hP175 a1 a2 (Int32.ofNat 0) a3 hK hH hg (by omega) (by omega) hH0)) ?_
  rintro _ A1 ⟨⟨rfl, X_A1⟩, wA1, HA1⟩
  have UA1 := (U0).trans (wA1.le (by decide +kernel : ug_wle ug_x226.2.2.2.1 uM178 = true))
  refine hpa_aload_n (by rfl) rfl ?_
  refine hpa_iconst (by rfl) rfl ?_
  refine hpa_iconst (by rfl) rfl ?_
  have hKA1 : hrK sd D A1 := hK.uf UA1 (by decide +kernel)
  refine hpa_call0 (by rfl) (by rfl) (by rfl) (by rfl) (by rfl) (by rfl) (uf_C (X := ug_x227) (j := 227) rfl rfl (ug_L.cons (uf_rk_ok (by decide +kernel)) (uf_int (uf_int uf_nil))) HA1 (hP176k (q := 1) (Int32.ofNat 1) (Int32.ofNat 0) hKA1 (by omega) hk_1 (by rfl) X_A1)) ?_
  rintro _ A2 ⟨⟨z3, rfl, Z_A2⟩, wA2, HA2⟩
  have UA2 := (UA1).trans (wA2.le (by decide +kernel : ug_wle ug_x227.2.2.2.1 uM178 = true))
  refine hpa_iconst (by rfl) rfl ?_
  refine hpa_bipush (by rfl) rfl ?_
  refine hpa_call2 (by rfl) (by decide) (by rfl) (by rfl) (by rfl) (uf_C (X := ug_x250) (j := 250) rfl rfl (uf_int (uf_int (uf_int uf_nil))) HA2 (hP165 z3 (Int32.ofNat 0) (Int32.ofNat 7))) ?_
  rintro _ _ ⟨⟨rfl, z5, rfl, Z_A4⟩, -, -⟩
  subst Z_A4
  exact hpa_ireturn (by rfl) rfl (hP _ _ ⟨_, rfl, by rw [huC_of (by decide), Z_A2]; rfl⟩)
theorem hP178 {g d : Nat} {A : hs_A} {sd : Nat} {D : hg_D} {ro : Nat → Int32} {H : Int32} (a1 a2 a3 : Int32) (hK : hrK sd D A) (hH : A.2.1 376 sd = H) (hg : ∀ k, k < 73 → A.2.1 396 k = ro k) (pa1 : 0 ≤ a1.toInt) (qa1 : a1.toInt ≤ 9) (hH0 : uf_H A) : hpC g d 178 hm_m178 [.ref 368, .int a1, .int a2, .int a3] A (fun r A' => ∃ z : Int32, r = some (.int z) ∧ z = huT D (huX H ro a1 a3) a2) := hpC.all (fun f d => hW178 a1 a2 a3 hK hH hg pa1 qa1 hH0 (fun r A' h => h))
def uM179 : Nat := 497323236409786642155382248146820840100456150797347717683852892136979542099900390965248
theorem hW179 {g d f : Nat} {A : hs_A} {sd : Nat} {D : hg_D} {ro : Nat → Int32} {H : Int32} (a1 a2 : Int32) (hK : hrK sd D A) (hH : A.2.1 376 sd = H) (hg : ∀ k, k < 73 → A.2.1 396 k = ro k) (pa1 : 0 ≤ a1.toInt) (qa1 : a1.toInt ≤ 9) (hH0 : uf_H A) {P : Option Value → hs_A → Prop} (hP : ∀ (r : Option Value) (A' : hs_A), (∃ z : Int32, r = some (.int z) ∧ z = huU D (huX H ro a1 a2)) → P r A') : hpa (f, g) d (some (.int)) hm_t179 0 [.ref 368, .int a1, .int a2] [] A P := by
  have k0 := hk_0
  have k2 := hk_2
  have k255 := hk_255
  have U0 : uf_W uM179 A A := uf_W.rfl
  refine hpa_aload_n (by rfl) rfl ?_
  refine hpa_iload_n (by rfl) rfl ?_
  refine hpa_iconst (by rfl) rfl ?_
  refine hpa_iconst (by rfl) rfl ?_
  refine hpa_iload_n (by rfl) rfl ?_
  refine hpa_call0 (by rfl) (by rfl) (by rfl) (by rfl) (by rfl) (by rfl) (uf_C (X := ug_x226) (j := 226) rfl rfl (ug_L.cons (uf_rk_ok (by decide +kernel)) (uf_int (uf_int (uf_int (uf_int uf_nil))))) hH0 (hP175 a1 (Int32.ofNat 0) (Int32.ofNat 0) a2 hK hH hg (by omega) (by omega) hH0)) ?_
  rintro _ A1 ⟨⟨rfl, X_A1⟩, wA1, HA1⟩
  have UA1 := (U0).trans (wA1.le (by decide +kernel : ug_wle ug_x226.2.2.2.1 uM179 = true))
  refine hpa_aload_n (by rfl) rfl ?_
  refine hpa_iconst (by rfl) rfl ?_
  refine hpa_iconst (by rfl) rfl ?_
  have hKA1 : hrK sd D A1 := hK.uf UA1 (by decide +kernel)
  refine hpa_call0 (by rfl) (by rfl) (by rfl) (by rfl) (by rfl) (by rfl) (uf_C (X := ug_x227) (j := 227) rfl rfl (ug_L.cons (uf_rk_ok (by decide +kernel)) (uf_int (uf_int uf_nil))) HA1 (hP176k (q := 2) (Int32.ofNat 2) (Int32.ofNat 0) hKA1 (by omega) hk_2 (by rfl) X_A1)) ?_
  rintro _ A2 ⟨⟨z3, rfl, Z_A2⟩, wA2, HA2⟩
  have UA2 := (UA1).trans (wA2.le (by decide +kernel : ug_wle ug_x227.2.2.2.1 uM179 = true))
  refine hpa_iconst (by rfl) rfl ?_
  refine hpa_sipush (by rfl) rfl ?_
  refine hpa_call2 (by rfl) (by decide) (by rfl) (by rfl) (by rfl) (uf_C (X := ug_x250) (j := 250) rfl rfl (uf_int (uf_int (uf_int uf_nil))) HA2 (hP165 z3 (Int32.ofNat 0) (Int32.ofNat 255))) ?_
  rintro _ _ ⟨⟨rfl, z5, rfl, Z_A4⟩, -, -⟩
  subst Z_A4
  exact hpa_ireturn (by rfl) rfl (hP _ _ ⟨_, rfl, by rw [huC_of (by decide), Z_A2]; rfl⟩)
theorem hP179 {g d : Nat} {A : hs_A} {sd : Nat} {D : hg_D} {ro : Nat → Int32} {H : Int32} (a1 a2 : Int32) (hK : hrK sd D A) (hH : A.2.1 376 sd = H) (hg : ∀ k, k < 73 → A.2.1 396 k = ro k) (pa1 : 0 ≤ a1.toInt) (qa1 : a1.toInt ≤ 9) (hH0 : uf_H A) : hpC g d 179 hm_m179 [.ref 368, .int a1, .int a2] A (fun r A' => ∃ z : Int32, r = some (.int z) ∧ z = huU D (huX H ro a1 a2)) := hpC.all (fun f d => hW179 a1 a2 hK hH hg pa1 qa1 hH0 (fun r A' h => h))
def uM180 : Nat := 497323236409786642155382248146820840100456150797347717683852892136979542099900390965248
theorem hW180 {g d f : Nat} {A : hs_A} {sd : Nat} {D : hg_D} {ro : Nat → Int32} {H : Int32} (a1 : Int32) (hK : hrK sd D A) (hH : A.2.1 376 sd = H) (hg : ∀ k, k < 73 → A.2.1 396 k = ro k) (pa1 : 0 ≤ a1.toInt) (qa1 : a1.toInt ≤ 9) (hH0 : uf_H A) {P : Option Value → hs_A → Prop} (hP : ∀ (r : Option Value) (A' : hs_A), (∃ z : Int32, r = some (.int z) ∧ z = huE D (huX H ro a1 (ro 70))) → P r A') : hpa (f, g) d (some (.int)) hm_t180 0 [.ref 368, .int a1] [] A P := by
  have k0 := hk_0
  have k100 := hk_100
  have k3 := hk_3
  have k70 := hk_70
  have U0 : uf_W uM180 A A := uf_W.rfl
  refine hpa_aload_n (by rfl) rfl ?_
  refine hpa_iload_n (by rfl) rfl ?_
  refine hpa_iconst (by rfl) rfl ?_
  refine hpa_iconst (by rfl) rfl ?_
  refine hpa_aload_n (by rfl) rfl ?_
  refine hpa_get (v := .ref 397) (by rfl) (by rfl) (by rfl) rfl ?_
  refine hpa_bipush (by rfl) rfl ?_
  refine hpx_iald (by rfl) (by rfl) (fun h0v1 h1v1 v1 ev1 => ?_)
  rw [show ((Int32.ofNat 70)).toNatClampNeg = 70 from by have := hn_cn (j := (Int32.ofNat 70)) (by omega); omega, hg (70) (by omega)] at ev1
  subst ev1
  refine hpa_call0 (by rfl) (by rfl) (by rfl) (by rfl) (by rfl) (by rfl) (uf_C (X := ug_x226) (j := 226) rfl rfl (ug_L.cons (uf_rk_ok (by decide +kernel)) (uf_int (uf_int (uf_int (uf_int uf_nil))))) hH0 (hP175 a1 (Int32.ofNat 0) (Int32.ofNat 0) (ro 70) hK hH hg (by omega) (by omega) hH0)) ?_
  rintro _ A2 ⟨⟨rfl, X_A2⟩, wA2, HA2⟩
  have UA2 := (U0).trans (wA2.le (by decide +kernel : ug_wle ug_x226.2.2.2.1 uM180 = true))
  refine hpa_aload_n (by rfl) rfl ?_
  refine hpa_iconst (by rfl) rfl ?_
  refine hpa_iconst (by rfl) rfl ?_
  have hKA2 : hrK sd D A2 := hK.uf UA2 (by decide +kernel)
  refine hpa_call0 (by rfl) (by rfl) (by rfl) (by rfl) (by rfl) (by rfl) (uf_C (X := ug_x227) (j := 227) rfl rfl (ug_L.cons (uf_rk_ok (by decide +kernel)) (uf_int (uf_int uf_nil))) HA2 (hP176k (q := 3) (Int32.ofNat 3) (Int32.ofNat 0) hKA2 (by omega) hk_3 (by rfl) X_A2)) ?_
  rintro _ A3 ⟨⟨z4, rfl, Z_A3⟩, wA3, HA3⟩
  have UA3 := (UA2).trans (wA3.le (by decide +kernel : ug_wle ug_x227.2.2.2.1 uM180 = true))
  refine hpa_iconst (by rfl) rfl ?_
  refine hpa_bipush (by rfl) rfl ?_
  refine hpa_call2 (by rfl) (by decide) (by rfl) (by rfl) (by rfl) (uf_C (X := ug_x250) (j := 250) rfl rfl (uf_int (uf_int (uf_int uf_nil))) HA3 (hP165 z4 (Int32.ofNat 0) (Int32.ofNat 100))) ?_
  rintro _ _ ⟨⟨rfl, z6, rfl, Z_A5⟩, -, -⟩
  subst Z_A5
  exact hpa_ireturn (by rfl) rfl (hP _ _ ⟨_, rfl, by rw [huC_of (by decide), Z_A3]; rfl⟩)
theorem hP180 {g d : Nat} {A : hs_A} {sd : Nat} {D : hg_D} {ro : Nat → Int32} {H : Int32} (a1 : Int32) (hK : hrK sd D A) (hH : A.2.1 376 sd = H) (hg : ∀ k, k < 73 → A.2.1 396 k = ro k) (pa1 : 0 ≤ a1.toInt) (qa1 : a1.toInt ≤ 9) (hH0 : uf_H A) : hpC g d 180 hm_m180 [.ref 368, .int a1] A (fun r A' => ∃ z : Int32, r = some (.int z) ∧ z = huE D (huX H ro a1 (ro 70))) := hpC.all (fun f d => hW180 a1 hK hH hg pa1 qa1 hH0 (fun r A' h => h))
def uM181 : Nat := 497323236409786642155382248146820840100456150797347717683852892136979542099900390965248
theorem hW181 {g d f : Nat} {A : hs_A} {sd : Nat} {D : hg_D} {ro : Nat → Int32} {H : Int32} (a1 a2 a3 : Int32) (hK : hrK sd D A) (hH : A.2.1 376 sd = H) (hg : ∀ k, k < 73 → A.2.1 396 k = ro k) (pa1 : 0 ≤ a1.toInt) (qa1 : a1.toInt ≤ 9) (pa2 : 0 ≤ a2.toInt) (qa2 : a2.toInt ≤ 255) (hH0 : uf_H A) {P : Option Value → hs_A → Prop} (hP : ∀ (r : Option Value) (A' : hs_A), (∃ z : Int32, r = some (.int z) ∧ z = huW D (huX H ro a1 a3) a2) → P r A') : hpa (f, g) d (some (.int)) hm_t181 0 [.ref 368, .int a1, .int a2, .int a3, .retAddr 0, .retAddr 0, .retAddr 0, .retAddr 0] [] A P := by
  have k0 := hk_0
  have k1 := hk_1
  have k8 := hk_8
  have U0 : uf_W uM181 A A := uf_W.rfl
  have L27 : ∀ (f : Nat) (x27_7 : Int32) (x27_6 : Int32) (A27 : hs_A) (k : Nat) (bk : k ≤ 8) (ek : x27_7 = Int32.ofNat k) (x27e6 : x27_6 = huU D (huX H ro a1 a3) ||| huP (fun p => hub a2 p && huK D (huX H ro a1 a3) (huB 10 a2) p) (huT D (huX H ro a1 a3) (huB 10 a2)).toNatClampNeg k) (U27 : uf_W uM181 A A27) (H27 : uf_H A27), hpa (f, g) d (some (.int)) hm_t181 27 [.ref 368, .int a1, .int a2, .int a3, .int (huB 10 a2), .int (huT D (huX H ro a1 a3) (huB 10 a2)), .int x27_6, .int x27_7] [] A27 P := by
    intro f
    induction f with
    | zero => intros; exact hpa.zero
    | succ f ih27 =>
      intro x27_7 x27_6 A27 k bk ek x27e6 U27 H27
      subst ek
      have ck := hn_c (n := k) (z := Int32.ofNat k) rfl (by omega)
      subst x27e6
      refine hpa_iloadS (by rfl) rfl ?_
      refine hpa_bipush (by rfl) rfl ?_
      refine hpj_cge (by rfl) ck hk_8 (fun q1 => ?_) (fun q1 => ?_)
      ·
        refine hpa_iload (by rfl) rfl ?_
        exact hpa_ireturn (by rfl) rfl (hP _ _ ⟨_, rfl, by rw [show k = 8 by omega]; rfl⟩)
      ·
        refine hpa_iload_n (by rfl) rfl ?_
        refine hpa_iload (by rfl) rfl ?_
        refine hpa_ishr (by rfl) ?_
        refine hpa_iconst (by rfl) rfl ?_
        refine hpa_iand (by rfl) ?_
        refine hpa_iconst (by rfl) rfl ?_
        refine hpj_cne (by rfl) rfl hk_1 (fun q2 => ?_) (fun q2 => ?_)
        ·
          have hbk : hub a2 k = false := by have := mt (hub_iff pa2 qa2 (by omega)).mpr q2; exact Bool.eq_false_iff.mpr this
          refine hpj_iinc (by rfl) rfl ck hk_1 (by omega) (by omega) (fun _ => rfl) (fun z3 ez3 => ?_)
          refine hpa_goto (by rfl) ?_
          exact ih27 z3 (huU D (huX H ro a1 a3) ||| huP (fun p => hub a2 p && huK D (huX H ro a1 a3) (huB 10 a2) p) (huT D (huX H ro a1 a3) (huB 10 a2)).toNatClampNeg k) A27 (k + 1) (by omega) (huI (by omega) (by omega)) (by rw [huP_f (by rw [hbk]; rfl)]) U27 H27
        ·
          have hbk : hub a2 k = true := (hub_iff pa2 qa2 (by omega)).mp q2
          refine hpa_aload_n (by rfl) rfl ?_
          refine hpa_iload_n (by rfl) rfl ?_
          refine hpa_iload (by rfl) rfl ?_
          refine hpa_iload (by rfl) rfl ?_
          refine hpa_iload_n (by rfl) rfl ?_
          have hKA27 : hrK sd D A27 := hK.uf U27 (by decide +kernel)
          have hHA27 : A27.2.1 376 sd = H := (U27.2.1 376 _ _ sd rfl (by have := hK.2.1; omega) (by decide +kernel)).trans hH
          have hgA27 : ∀ k, k < 73 → A27.2.1 396 k = ro k := fun k hk => (U27.2.1 396 _ _ k rfl hk (by decide +kernel)).trans (hg k hk)
          refine hpa_call0 (by rfl) (by rfl) (by rfl) (by rfl) (by rfl) (by rfl) (uf_C (X := ug_x258) (j := 258) rfl rfl (ug_L.cons (uf_rk_ok (by decide +kernel)) (uf_int (uf_int (uf_int (uf_int uf_nil))))) H27 (hP177 a1 (huB 10 a2) (Int32.ofNat k) a3 hKA27 hHA27 hgA27 (by omega) (by omega) rfl H27)) ?_
          rintro _ A4 ⟨⟨z5, rfl, (⟨fz_A4, KK_A4⟩ | ⟨fz_A4, KK_A4⟩)⟩, wA4, HA4⟩
          ·
            have UA4 := (U27).trans (wA4.le (by decide +kernel : ug_wle ug_x258.2.2.2.1 uM181 = true))
            refine hpj_zeq (by rfl) rfl (fun q6 => False.elim (by omega)) (fun q6 => ?_)
            have tin := huT_in (D := D) (x := (huX H ro a1 a3)) (q := huB 10 a2)
            have shf := huP_sh k (by omega) (huT D (huX H ro a1 a3) (huB 10 a2)).toNatClampNeg (by have := hn_cn (j := (huT D (huX H ro a1 a3) (huB 10 a2))) tin.1; omega)
            rw [← hI32 (a := (huT D (huX H ro a1 a3) (huB 10 a2))) tin.1 (by omega)] at shf
            refine hpa_iload (by rfl) rfl ?_
            refine hpa_iconst (by rfl) rfl ?_
            refine hpa_iload (by rfl) rfl ?_
            refine hpa_iload (by rfl) rfl ?_
            refine hpa_iadd (by rfl) ?_
            refine hpa_bipush (by rfl) rfl ?_
            refine hpa_irem (by rfl) (by decide) ?_
            refine hpa_ishl (by rfl) ?_
            refine hpa_ior (by rfl) ?_
            refine hpa_s1 (by rfl) (Or.inr ⟨_, rfl, rfl⟩) rfl ?_
            refine hpj_iinc (by rfl) rfl ck hk_1 (by omega) (by omega) (fun _ => rfl) (fun z7 ez7 => ?_)
            refine hpa_goto (by rfl) ?_
            exact ih27 z7 ((huU D (huX H ro a1 a3) ||| huP (fun p => hub a2 p && huK D (huX H ro a1 a3) (huB 10 a2) p) (huT D (huX H ro a1 a3) (huB 10 a2)).toNatClampNeg k) ||| ((Int32.ofNat 1) <<< ((((Int32.ofNat k) + (huT D (huX H ro a1 a3) (huB 10 a2))) - ((Int32.ofNat k) + (huT D (huX H ro a1 a3) (huB 10 a2))) / (Int32.ofNat 8) * (Int32.ofNat 8)) &&& 31))) A4 (k + 1) (by omega) (huI (by omega) (by omega)) (by rw [huP_t (by rw [hbk, KK_A4]; rfl), ← hs_or3, shf]) UA4 HA4
          ·
            have UA4 := (U27).trans (wA4.le (by decide +kernel : ug_wle ug_x258.2.2.2.1 uM181 = true))
            refine hpj_zeq (by rfl) rfl (fun q8 => ?_) (fun q8 => False.elim (by omega))
            refine hpj_iinc (by rfl) rfl ck hk_1 (by omega) (by omega) (fun _ => rfl) (fun z9 ez9 => ?_)
            refine hpa_goto (by rfl) ?_
            exact ih27 z9 (huU D (huX H ro a1 a3) ||| huP (fun p => hub a2 p && huK D (huX H ro a1 a3) (huB 10 a2) p) (huT D (huX H ro a1 a3) (huB 10 a2)).toNatClampNeg k) A4 (k + 1) (by omega) (huI (by omega) (by omega)) (by rw [huP_f (by rw [hbk, KK_A4]; rfl)]) UA4 HA4
  refine hpa_iload_n (by rfl) rfl ?_
  refine hpa_call2 (by rfl) (by decide) (by rfl) (by rfl) (by rfl) (uf_C (X := ug_x126) (j := 126) rfl rfl (uf_int uf_nil) hH0 (hP166 a2)) ?_
  rintro _ _ ⟨⟨rfl, z11, rfl, Z_A10⟩, -, -⟩
  subst Z_A10
  refine hpa_s1 (by rfl) (Or.inr ⟨_, rfl, rfl⟩) rfl ?_
  refine hpa_aload_n (by rfl) rfl ?_
  refine hpa_iload_n (by rfl) rfl ?_
  refine hpa_iload (by rfl) rfl ?_
  refine hpa_iload_n (by rfl) rfl ?_
  refine hpa_call0 (by rfl) (by rfl) (by rfl) (by rfl) (by rfl) (by rfl) (uf_C (X := ug_x207) (j := 207) rfl rfl (ug_L.cons (uf_rk_ok (by decide +kernel)) (uf_int (uf_int (uf_int uf_nil)))) hH0 (hP178 a1 (huB 10 a2) a3 hK hH hg (by omega) (by omega) hH0)) ?_
  rintro _ A12 ⟨⟨z13, rfl, Z_A12⟩, wA12, HA12⟩
  have UA12 := (U0).trans (wA12.le (by decide +kernel : ug_wle ug_x207.2.2.2.1 uM181 = true))
  subst Z_A12
  refine hpa_s1 (by rfl) (Or.inr ⟨_, rfl, rfl⟩) rfl ?_
  refine hpa_aload_n (by rfl) rfl ?_
  refine hpa_iload_n (by rfl) rfl ?_
  refine hpa_iload_n (by rfl) rfl ?_
  have hKA12 : hrK sd D A12 := hK.uf UA12 (by decide +kernel)
  have hHA12 : A12.2.1 376 sd = H := (UA12.2.1 376 _ _ sd rfl (by have := hK.2.1; omega) (by decide +kernel)).trans hH
  have hgA12 : ∀ k, k < 73 → A12.2.1 396 k = ro k := fun k hk => (UA12.2.1 396 _ _ k rfl hk (by decide +kernel)).trans (hg k hk)
  refine hpa_call0 (by rfl) (by rfl) (by rfl) (by rfl) (by rfl) (by rfl) (uf_C (X := ug_x205) (j := 205) rfl rfl (ug_L.cons (uf_rk_ok (by decide +kernel)) (uf_int (uf_int uf_nil))) HA12 (hP179 a1 a3 hKA12 hHA12 hgA12 (by omega) (by omega) HA12)) ?_
  rintro _ A14 ⟨⟨z15, rfl, Z_A14⟩, wA14, HA14⟩
  have UA14 := (UA12).trans (wA14.le (by decide +kernel : ug_wle ug_x205.2.2.2.1 uM181 = true))
  subst Z_A14
  refine hpa_s1 (by rfl) (Or.inr ⟨_, rfl, rfl⟩) rfl ?_
  refine hpa_iconst (by rfl) rfl ?_
  refine hpa_s1 (by rfl) (Or.inr ⟨_, rfl, rfl⟩) rfl ?_
  exact L27 _ (Int32.ofNat 0) (huU D (huX H ro a1 a3)) A14 0 (by omega) rfl hs_or0.symm UA14 HA14
theorem hP181 {g d : Nat} {A : hs_A} {sd : Nat} {D : hg_D} {ro : Nat → Int32} {H : Int32} (a1 a2 a3 : Int32) (hK : hrK sd D A) (hH : A.2.1 376 sd = H) (hg : ∀ k, k < 73 → A.2.1 396 k = ro k) (pa1 : 0 ≤ a1.toInt) (qa1 : a1.toInt ≤ 9) (pa2 : 0 ≤ a2.toInt) (qa2 : a2.toInt ≤ 255) (hH0 : uf_H A) : hpC g d 181 hm_m181 [.ref 368, .int a1, .int a2, .int a3] A (fun r A' => ∃ z : Int32, r = some (.int z) ∧ z = huW D (huX H ro a1 a3) a2) := hpC.all (fun f d => hW181 a1 a2 a3 hK hH hg pa1 qa1 pa2 qa2 hH0 (fun r A' h => h))
/-! BITS; THE CLASS'S CONTENT that is live; THE AIR: where it stands, what it keeps in mind -/
section HSB2
theorem hub_and {x y : Int32} {p : Nat} : hub (x &&& y) p = (hub x p && hub y p) := by
  show (x.toBitVec &&& y.toBitVec).getLsbD p = _
  rw [BitVec.getLsbD_and]
  rfl
theorem hub_or {x y : Int32} {p : Nat} : hub (x ||| y) p = (hub x p || hub y p) := by
  show (x.toBitVec ||| y.toBitVec).getLsbD p = _
  rw [BitVec.getLsbD_or]
  rfl
theorem hub_xor {x y : Int32} {p : Nat} : hub (x ^^^ y) p = (hub x p ^^ hub y p) := by
  show (x.toBitVec ^^^ y.toBitVec).getLsbD p = _
  rw [BitVec.getLsbD_xor]
  rfl
theorem hub_m1 : ∀ p, p < 32 → hub (Int32.ofNat 4294967295) p = true := by decide +kernel
theorem hub_not {x : Int32} {p : Nat} (hp : p < 32) : hub (x ^^^ Int32.ofNat 4294967295) p = !hub x p := by
  rw [hub_xor, hub_m1 p hp, Bool.xor_true]
theorem hub_ext {x y : Int32} (h : ∀ p, p < 32 → hub x p = hub y p) : x = y := by
  apply Int32.toBitVec_inj.mp
  exact BitVec.eq_of_getLsbD_eq (fun i hi => h i hi)
theorem hub_0 {p : Nat} : hub (Int32.ofNat 0) p = false := by
  show (0#32).getLsbD p = false
  exact BitVec.getLsbD_zero
theorem hub_z {x : Int32} {p : Nat} (h : x.toInt = 0) : hub x p = false := by
  have e : x = Int32.ofNat 0 := huI (n := 0) h (by decide)
  rw [e]
  exact hub_0
theorem hub_bit : ∀ p, p < 8 → ∀ r, r < 32 → hub (Int32.ofNat 1 <<< (Int32.ofNat p &&& 31)) r = decide (r = p) := by decide +kernel
theorem hub_hi_d : ∀ n, n < 256 → ∀ p, p < 32 → 8 ≤ p → hub (Int32.ofNat n) p = false := by decide +kernel
theorem hub_hi {x : Int32} {p : Nat} (h0 : 0 ≤ x.toInt) (h1 : x.toInt ≤ 255) (hp : 8 ≤ p) : hub x p = false := by
  by_cases q : p < 32
  · have c := hn_cn (j := x) h0
    have e := hub_hi_d x.toNatClampNeg (by omega) p q hp
    rw [← hI32 h0 (by omega)] at e
    exact e
  · exact BitVec.getLsbD_of_ge _ _ (by omega)
theorem hub_ext8 {x y : Int32} (hx : 0 ≤ x.toInt ∧ x.toInt ≤ 255) (hy : 0 ≤ y.toInt ∧ y.toInt ≤ 255) (h : ∀ p, p < 8 → hub x p = hub y p) : x = y := hub_ext (fun p _ => by
  by_cases q : p < 8
  · exact h p q
  · rw [hub_hi hx.1 hx.2 (by omega), hub_hi hy.1 hy.2 (by omega)])
theorem hs_and255 {x : Int32} (h0 : 0 ≤ x.toInt) (h1 : x.toInt ≤ 255) : x &&& Int32.ofNat 255 = x := by
  have key : ∀ n, n < 256 → Int32.ofNat n &&& Int32.ofNat 255 = Int32.ofNat n := by decide +kernel
  have c := hn_cn (j := x) h0
  have e := key x.toNatClampNeg (by omega)
  rw [← hI32 h0 (by omega)] at e
  exact e
theorem hs_orc {a b : Int32} : a ||| b = b ||| a := by
  apply Int32.toBitVec_inj.mp
  show a.toBitVec ||| b.toBitVec = b.toBitVec ||| a.toBitVec
  exact BitVec.or_comm _ _
/-- a part that is asked for and isn't known -/
theorem hub_ask {a k : Int32} {p : Nat} (hp : p < 8) : ((a &&& (Int32.ofNat 1 <<< (Int32.ofNat p &&& 31))) &&& (k ^^^ Int32.ofNat 4294967295)).toInt = 0 ↔ ¬ (hub a p = true ∧ hub k p = false) := by
  constructor
  · intro h ⟨h1, h2⟩
    have q := hub_z (p := p) h
    rw [hub_and, hub_and, hub_not (by omega), hub_bit p hp p (by omega), h1, h2] at q
    simp at q
  · intro h
    have e : (a &&& (Int32.ofNat 1 <<< (Int32.ofNat p &&& 31))) &&& (k ^^^ Int32.ofNat 4294967295) = Int32.ofNat 0 := hub_ext (fun r hr => by
      rw [hub_and, hub_and, hub_not hr, hub_bit p hp r hr, hub_0]
      by_cases q : r = p
      · subst q
        cases h1 : hub a r with
        | false => rfl
        | true =>
          cases h2 : hub k r with
          | false => exact absurd ⟨h1, h2⟩ h
          | true => simp
      · rw [decide_eq_false q]
        simp)
    rw [e, hk_0]
/-! the count of bits, as the class has it -/
def huw1 (x : Int32) : Int32 := x - ((((x).toUInt32 >>> ((Int32.ofNat 1).toUInt32 &&& Int32.toUInt32 31)).toInt32) &&& Int32.ofNat 1431655765)
def huw2 (x : Int32) : Int32 := (x &&& Int32.ofNat 858993459) + ((((x).toUInt32 >>> ((Int32.ofNat 2).toUInt32 &&& Int32.toUInt32 31)).toInt32) &&& Int32.ofNat 858993459)
def huw3 (x : Int32) : Int32 := (x + (((x).toUInt32 >>> ((Int32.ofNat 4).toUInt32 &&& Int32.toUInt32 31)).toInt32)) &&& Int32.ofNat 252645135
def huw4 (x : Int32) : Int32 := x + (((x).toUInt32 >>> ((Int32.ofNat 8).toUInt32 &&& Int32.toUInt32 31)).toInt32)
def huw5 (x : Int32) : Int32 := x + (((x).toUInt32 >>> ((Int32.ofNat 16).toUInt32 &&& Int32.toUInt32 31)).toInt32)
theorem huw_d : ∀ n, n < 1024 → huw5 (huw4 (huw3 (huw2 (huw1 (Int32.ofNat n))))) &&& Int32.ofNat 63 = huB 10 (Int32.ofNat n) := by decide +kernel
theorem hI32k {a : Int32} (h0 : 0 ≤ a.toInt) (h1 : a.toInt < 2147483648) : a = Int32.ofNat a.toNatClampNeg := by
  have c := hn_cn (j := a) h0
  exact huI (by omega) (by omega)
theorem huw {x : Int32} (h0 : 0 ≤ x.toInt) (h1 : x.toInt < 1024) : huw5 (huw4 (huw3 (huw2 (huw1 x)))) &&& Int32.ofNat 63 = huB 10 x := by
  have c := hn_cn (j := x) h0
  have e := huw_d x.toNatClampNeg (by omega)
  rw [← hI32k h0 (by omega)] at e
  exact e
theorem huB_8d : ∀ n, n < 256 → (huB 10 (Int32.ofNat n)).toInt ≤ 8 := by decide +kernel
theorem huB_8 {x : Int32} (h0 : 0 ≤ x.toInt) (h1 : x.toInt ≤ 255) : 0 ≤ (huB 10 x).toInt ∧ (huB 10 x).toInt ≤ 8 := by
  have c := hn_cn (j := x) h0
  have e := huB_8d x.toNatClampNeg (by omega)
  rw [← hI32 h0 (by omega)] at e
  exact ⟨(huB_le 10 x (by omega)).1, e⟩
/-! parts, turned -/
theorem huP_cg {b c : Nat → Bool} {t : Nat} : ∀ {n : Nat}, (∀ p, p < n → b p = c p) → huP b t n = huP c t n
  | 0, _ => rfl
  | n + 1, h => by
    show (if b n then huP b t n ||| Int32.ofNat (2 ^ ((n + t) % 8)) else huP b t n) = (if c n then huP c t n ||| Int32.ofNat (2 ^ ((n + t) % 8)) else huP c t n)
    rw [h n (by omega), huP_cg (n := n) (fun p hp => h p (by omega))]
theorem huP_no {b : Nat → Bool} {t : Nat} : ∀ {n : Nat}, (∀ p, p < n → b p = false) → huP b t n = Int32.ofNat 0
  | 0, _ => rfl
  | n + 1, h => by rw [huP_f (h n (by omega)), huP_no (n := n) (fun p hp => h p (by omega))]
theorem huP_rot_d : ∀ t, t < 8 → ∀ n, n < 256 → ((Int32.ofNat n <<< (Int32.ofNat t &&& 31)) ||| (Int32.ofNat n >>> ((Int32.ofNat 8 - Int32.ofNat t) &&& 31))) &&& Int32.ofNat 255 = huP (fun p => hub (Int32.ofNat n) p) t 8 := by decide +kernel
theorem huP_rot {x t : Int32} (h0 : 0 ≤ x.toInt) (h1 : x.toInt ≤ 255) (t0 : 0 ≤ t.toInt) (t1 : t.toInt ≤ 7) : ((x <<< (t &&& 31)) ||| (x >>> ((Int32.ofNat 8 - t) &&& 31))) &&& Int32.ofNat 255 = huP (fun p => hub x p) t.toNatClampNeg 8 := by
  have c := hn_cn (j := x) h0
  have ct := hn_cn (j := t) t0
  have e := huP_rot_d t.toNatClampNeg (by omega) x.toNatClampNeg (by omega)
  rw [← hI32 (a := x) h0 (by omega), ← hI32 (a := t) t0 (by omega)] at e
  exact e
end HSB2
/-! a law that looks at no part -/
theorem hgx_x {x : Nat → Int32} {a b p q : Int32} : hgx (hgx x a b) p q = hgx x p q := by
  funext i
  unfold hgx
  split
  · rfl
  · split
    · rfl
    · rfl
theorem hgw_ev_cg {x y : Nat → Int32} : ∀ {c : hg_C} {s : List Int32}, (∀ v : Int, (1, v) ∈ c → x v.toNat = y v.toNat) → hgw_ev x c s = hgw_ev y c s
  | [], _, _ => rfl
  | p :: l, s, h => by
    have e : hgw_st x p s = hgw_st y p s := by
      unfold hgw_st
      by_cases k0 : p.1 = 0
      · rw [if_pos k0, if_pos k0]
      · rw [if_neg k0, if_neg k0]
        by_cases k1 : p.1 = 1
        · rw [if_pos k1, if_pos k1, h p.2 (by rw [← k1]; exact List.mem_cons_self)]
        · rw [if_neg k1, if_neg k1]
    show (match hgw_st x p s with
      | none => none
      | some s' => hgw_ev x l s') = (match hgw_st y p s with
      | none => none
      | some s' => hgw_ev y l s')
    rw [e]
    cases hgw_st y p s with
    | none => rfl
    | some s' => exact hgw_ev_cg (fun v hv => h v (List.mem_cons_of_mem _ hv))
theorem hgw_law_cg {x y : Nat → Int32} {tm : hg_C} {f : Nat} : ∀ {br : hg_B} {s : Nat}, (∀ v : Int, (1, v) ∈ hg_br s br ++ (tm ++ [(7, 0)]) → x v.toNat = y v.toNat) → hgw_law x br tm = hgw_law y br tm
  | [], s, h => by
    show hgw_top (hgw_ev x tm []) = hgw_top (hgw_ev y tm [])
    rw [hgw_ev_cg (fun v hv => h v (List.mem_append.mpr (Or.inr (List.mem_append.mpr (Or.inl hv)))))]
  | q :: r, s, h => by
    have hb : ∀ v : Int, (1, v) ∈ hg_br s (q :: r) → x v.toNat = y v.toNat := fun v hv => h v (List.mem_append.mpr (Or.inl hv))
    have hm : ∀ v : Int, ((1, v) ∈ q.1 ∨ (1, v) ∈ q.2.1 ∨ (1, v) ∈ q.2.2 ∨ (1, v) ∈ hg_br (s + q.1.length + q.2.1.length + q.2.2.length + 2) r) → x v.toNat = y v.toNat := fun v hv => hb v (by
      show (1, v) ∈ q.1 ++ (q.2.1 ++ ((6, ((s + q.1.length + q.2.1.length + q.2.2.length + 2 : Nat) : Int)) :: (q.2.2 ++ ((7, 0) :: hg_br (s + q.1.length + q.2.1.length + q.2.2.length + 2) r))))
      rcases hv with hv | hv | hv | hv
      · exact List.mem_append.mpr (Or.inl hv)
      · exact List.mem_append.mpr (Or.inr (List.mem_append.mpr (Or.inl hv)))
      · exact List.mem_append.mpr (Or.inr (List.mem_append.mpr (Or.inr (List.mem_cons_of_mem _ (List.mem_append.mpr (Or.inl hv))))))
      · exact List.mem_append.mpr (Or.inr (List.mem_append.mpr (Or.inr (List.mem_cons_of_mem _ (List.mem_append.mpr (Or.inr (List.mem_cons_of_mem _ hv))))))))
    have e1 : hgw_ev x (q.1 ++ q.2.1) [] = hgw_ev y (q.1 ++ q.2.1) [] := hgw_ev_cg (fun v hv => by
      rcases List.mem_append.mp hv with m | m
      · exact hm v (Or.inl m)
      · exact hm v (Or.inr (Or.inl m)))
    have e2 : hgw_ev x q.2.2 [] = hgw_ev y q.2.2 [] := hgw_ev_cg (fun v hv => hm v (Or.inr (Or.inr (Or.inl hv))))
    have e3 : hgw_law x r tm = hgw_law y r tm := hgw_law_cg (f := f) (s := s + q.1.length + q.2.1.length + q.2.2.length + 2) (fun v hv => by
      rcases List.mem_append.mp hv with m | m
      · exact hm v (Or.inr (Or.inr (Or.inr m)))
      · exact h v (List.mem_append.mpr (Or.inr m)))
    show (match hgw_ev x (q.1 ++ q.2.1) [] with
      | some (v :: u :: _) => if u.toInt < v.toInt then hgw_top (hgw_ev x q.2.2 []) else hgw_law x r tm
      | _ => 0) = (match hgw_ev y (q.1 ++ q.2.1) [] with
      | some (v :: u :: _) => if u.toInt < v.toInt then hgw_top (hgw_ev y q.2.2 []) else hgw_law y r tm
      | _ => 0)
    rw [e1, e2, e3]
theorem huL_np {D : hg_D} {q f : Nat} {x : Nat → Int32} {a b r : Int32} (h : (1, 3) ∉ hg_law f (D.2.2.2 q)) : huL D q (hgx x a r) = huL D q (hgx x b r) := by
  refine hgw_law_cg (f := f) (s := f) (fun v hv => ?_)
  have hv3 : ¬ v.toNat = 3 := fun e => h (by
    have e3 : v = 3 := by omega
    rw [← e3]
    exact hv)
  unfold hgx
  rw [if_neg hv3, if_neg hv3]
/-! THE CLASS'S CONTENT that is live: terrace T tells D -/
def hdK (T : Nat) (D : hg_D) (A : hs_A) : Prop := (∀ q, q < 4 → hgw_wl (D.2.2.2 q)) ∧ ∃ (V : Nat → Int) (ns : List Nat) (zz : Nat), zz ≤ 408 ∧ ns.length ≤ 10 ∧ hcM V T A ns D [] zz ∧ (A.1 T 4).toInt = (ns.length : Int)
noncomputable def hdG (W : Nat) : Bool := ([2, 11].all fun T => !Nat.testBit W (ug_o (ug_g T) 4) && (!Nat.testBit W (ug_o (ug_g T) 6) && (!Nat.testBit W (ug_o (ug_g T) 7) && (!Nat.testBit W (ug_o (ug_g (T + 4)) 4) && !Nat.testBit W (ug_o (ug_g (T + 4)) 5))))) && [3, 4, 5, 7, 8, 9, 12, 13, 14, 16, 17, 18].all (fun c => !Nat.testBit W (ug_g c))
theorem hdG.get {W : Nat} (e : hdG W = true) : (∀ T, hTT T → Nat.testBit W (ug_o (ug_g T) 4) = false ∧ Nat.testBit W (ug_o (ug_g T) 6) = false ∧ Nat.testBit W (ug_o (ug_g T) 7) = false ∧ Nat.testBit W (ug_o (ug_g (T + 4)) 4) = false ∧ Nat.testBit W (ug_o (ug_g (T + 4)) 5) = false) ∧ ∀ c, c ∈ [3, 4, 5, 7, 8, 9, 12, 13, 14, 16, 17, 18] → Nat.testBit W (ug_g c) = false := by
  unfold hdG at e
  rw [Bool.and_eq_true] at e
  obtain ⟨e1, e2⟩ := e
  refine ⟨fun T hT => ?_, fun c hc => ?_⟩
  · have q := List.all_eq_true.mp e1 T (by rcases hT with rfl | rfl <;> decide)
    simp only [Bool.and_eq_true, Bool.not_eq_true'] at q
    exact q
  · have q := List.all_eq_true.mp e2 c hc
    simp only [Bool.not_eq_true'] at q
    exact q
theorem hcM.pt {V : Nat → Int} {T : Nat} {A A' : hs_A} {ns : List Nat} {d : hg_D} {z : Nat} (h : hcM V T A ns d [] z) (hz : z ≤ 408) (hn : ns.length ≤ 10) (f1 : A'.1 (T + 4) 4 = A.1 (T + 4) 4) (f2 : A'.1 (T + 4) 5 = A.1 (T + 4) 5) (f3 : A'.1 T 6 = A.1 T 6) (f4 : A'.1 T 7 = A.1 T 7) (e1 : ∀ i, i < 10 → A'.2.1 (T + 1) i = A.2.1 (T + 1) i ∧ A'.2.1 (T + 2) i = A.2.1 (T + 2) i) (e3 : ∀ i, i < 24 → A'.2.1 (T + 3) i = A.2.1 (T + 3) i) (e5 : ∀ i, i < 408 → A'.2.1 (T + 5) i = A.2.1 (T + 5) i) (e6 : ∀ i, i < 4 → A'.2.1 (T + 6) i = A.2.1 (T + 6) i ∧ A'.2.1 (T + 7) i = A.2.1 (T + 7) i) : hcM V T A' ns d [] z := by
  obtain ⟨⟨a1, a2, a3, a4⟩, b, ⟨c1, c2, c3⟩, c4⟩ := h
  refine ⟨⟨by rw [f1]; exact a1, a2, trivial, by rw [f2]; exact a4⟩, fun k hk => ?_, ⟨fun h hh => by rw [e3 h hh]; exact c1 h hh, by rw [f3]; exact c2, by rw [f4]; exact c3⟩, c4.mv (fun i hi => e1 i (by omega))⟩
  obtain ⟨f, b1, b2, b3, b4⟩ := b k hk
  have b2' : f + (hg_law f (d.2.2.2 k)).length ≤ z := b2
  exact ⟨f, by rw [(e6 k hk).1]; exact b1, b2, b3.mv (fun i h1 h2 => e5 i (by omega)), by rw [(e6 k hk).2]; exact b4⟩
theorem hdK.uf {W T : Nat} {D : hg_D} {A A' : hs_A} (h : hdK T D A) (hT : hTT T) (w : uf_W W A A') (e : hdG W = true) : hdK T D A' := by
  obtain ⟨h1, V, ns, zz, h2, h3, h4, h5⟩ := h
  obtain ⟨g1, g2⟩ := hdG.get e
  obtain ⟨t4, t6, t7, t44, t45⟩ := g1 T hT
  refine ⟨h1, V, ns, zz, h2, h3, ?_, ?_⟩
  · rcases hT with rfl | rfl
    · exact h4.pt h2 h3 (w.1 6 _ _ 4 rfl rfl t44) (w.1 6 _ _ 5 rfl rfl t45) (w.1 2 _ _ 6 rfl rfl t6) (w.1 2 _ _ 7 rfl rfl t7) (fun i hi => ⟨w.2.1 3 _ _ i rfl hi (g2 _ (by decide)), w.2.1 4 _ _ i rfl hi (g2 _ (by decide))⟩) (fun i hi => w.2.1 5 _ _ i rfl hi (g2 _ (by decide))) (fun i hi => w.2.1 7 _ _ i rfl hi (g2 _ (by decide))) (fun i hi => ⟨w.2.1 8 _ _ i rfl hi (g2 _ (by decide)), w.2.1 9 _ _ i rfl hi (g2 _ (by decide))⟩)
    · exact h4.pt h2 h3 (w.1 15 _ _ 4 rfl rfl t44) (w.1 15 _ _ 5 rfl rfl t45) (w.1 11 _ _ 6 rfl rfl t6) (w.1 11 _ _ 7 rfl rfl t7) (fun i hi => ⟨w.2.1 12 _ _ i rfl hi (g2 _ (by decide)), w.2.1 13 _ _ i rfl hi (g2 _ (by decide))⟩) (fun i hi => w.2.1 14 _ _ i rfl hi (g2 _ (by decide))) (fun i hi => w.2.1 16 _ _ i rfl hi (g2 _ (by decide))) (fun i hi => ⟨w.2.1 17 _ _ i rfl hi (g2 _ (by decide)), w.2.1 18 _ _ i rfl hi (g2 _ (by decide))⟩)
  · rcases hT with rfl | rfl
    · rw [w.1 2 _ _ 4 rfl rfl t4]
      exact h5
    · rw [w.1 11 _ _ 4 rfl rfl t4]
      exact h5
/-! the air -/
def hdV (T : Nat) (x : Nat → Int32) (A : hs_A) : Prop := A.2.2.2 323 5 = T + 5 ∧ ∀ i, i < 9 → ¬ i = 3 → ¬ i = 6 → A.2.1 324 i = x i
def hdB1 (k w : Int32) (K : Nat → Bool) : Prop := ∀ p, p < 8 → (hub k p = true → hub w p = K p) ∧ (hub k p = false → hub w p = false)
def hdQk (D : hg_D) (x : Nat → Int32) (A : hs_A) : Prop := ∀ q, q ≤ 8 → hdB1 (A.2.1 325 q) (A.2.1 326 q) (huK D x (Int32.ofNat q))
def hdQt (D : hg_D) (x : Nat → Int32) (A : hs_A) : Prop := ∀ q, q ≤ 8 → A.2.1 327 q = Int32.ofNat 4294967295 ∨ A.2.1 327 q = huT D x (Int32.ofNat q)
def hdQh (D : hg_D) (x : Nat → Int32) (A : hs_A) : Prop := A.1 323 4 = Int32.ofNat 4294967295 ∨ A.1 323 4 = huU D x
def hdS (T : Nat) (D : hg_D) (x : Nat → Int32) (A : hs_A) : Prop := hdV T x A ∧ hdQk D x A ∧ hdQt D x A ∧ hdQh D x A
/-- what telling a law leaves alone -/
def hdF (T : Nat) (A A' : hs_A) : Prop := A'.1 = A.1 ∧ A'.2.2 = A.2.2 ∧ ∀ i, ¬ i = 324 → ¬ i = T + 8 → A'.2.1 i = A.2.1 i
theorem hP14k {g d T q : Nat} {D : hg_D} {x : Nat → Int32} {A : hs_A} (a1 a3 a4 : Int32) (hT : hTT T) (hC : hdK T D A) (hV : hdV T x A) (hq : q < 4) (h1 : a1.toInt = (q : Int)) : hpC g d 14 hm_m14 [.ref (T + 5), .int a1, .ref 325, .int a3, .int a4] A (fun r A' => ∃ z : Int32, r = some (.int z) ∧ z = huL D q (hgx x a3 a4) ∧ hdF T A A' ∧ hdV T x A') := by
  obtain ⟨kw, V, ns, zz, k1, k2, kM, k3⟩ := hC
  refine (hP14 (x := hgx x (A.2.1 324 3) (A.2.1 324 6)) hT a1 a3 a4 kM hq h1 (fun i hi => ?_) (kw q hq)).imp (fun r A' h => ?_)
  · unfold hgx
    by_cases q3 : i = 3
    · rw [if_pos q3, q3]
    · rw [if_neg q3]
      by_cases q6 : i = 6
      · rw [if_pos q6, q6]
      · rw [if_neg q6]
        exact hV.2 i hi q3 q6
  · obtain ⟨z, e, hz, f1, f2, f3, f4⟩ := h
    rw [hgx_x] at hz
    refine ⟨z, e, hz, ⟨f1, f2, f3⟩, by rw [f2]; exact hV.1, fun i hi h3 h6 => ?_⟩
    rw [f4 i hi]
    unfold hgx
    rw [if_neg h3, if_neg h6, if_neg h3, if_neg h6]
theorem hdB1.and {a k w : Int32} {K : Nat → Bool} (h : hdB1 k w K) (e : (a &&& (k ^^^ Int32.ofNat 4294967295)).toInt = 0) : ∀ p, p < 8 → hub (a &&& w) p = (hub a p && K p) := fun p hp => by
  have q := hub_z (p := p) e
  rw [hub_and, hub_not (by omega)] at q
  rw [hub_and]
  cases h1 : hub a p with
  | false => rfl
  | true =>
    rw [h1] at q
    have k1 : hub k p = true := by
      cases h2 : hub k p with
      | true => rfl
      | false => rw [h2] at q; exact absurd q (by decide)
    rw [(h p hp).1 k1]
/-- while parts are asked for one by one -/
def hdB2 (n : Nat) (a k w : Int32) (K : Nat → Bool) : Prop := ∀ p, p < 8 → (hub k p = true → hub w p = K p) ∧ (hub k p = false → hub w p = (decide (p < n) && (hub a p && K p)))
theorem hdB1.two {a k w : Int32} {K : Nat → Bool} (h : hdB1 k w K) : hdB2 0 a k w K := fun p hp => ⟨(h p hp).1, fun e => by rw [(h p hp).2 e]; rfl⟩
theorem hdB2.no {n : Nat} {a k w : Int32} {K : Nat → Bool} (h : hdB2 n a k w K) (hn : n < 8) (e : ¬ (hub a n = true ∧ hub k n = false) ∨ K n = false) : hdB2 (n + 1) a k w K := fun p hp => ⟨(h p hp).1, fun q => by
  rw [(h p hp).2 q]
  by_cases s : p = n
  · subst s
    rw [decide_eq_false (by omega), decide_eq_true (by omega)]
    rcases e with e | e
    · cases h1 : hub a p with
      | false => rfl
      | true => exact absurd ⟨h1, q⟩ e
    · rw [e]
      simp
  · by_cases s2 : p < n
    · rw [decide_eq_true s2, decide_eq_true (by omega)]
    · rw [decide_eq_false s2, decide_eq_false (by omega)]⟩
theorem hdB2.yes {n : Nat} {a k w : Int32} {K : Nat → Bool} (h : hdB2 n a k w K) (hn : n < 8) (h1 : hub a n = true) (h2 : hub k n = false) (h3 : K n = true) : hdB2 (n + 1) a k (w ||| (Int32.ofNat 1 <<< (Int32.ofNat n &&& 31))) K := fun p hp => ⟨fun q => by
    have hne : ¬ p = n := fun s => by rw [s, h2] at q; exact absurd q (by decide)
    rw [hub_or, hub_bit n hn p (by omega), decide_eq_false hne, (h p hp).1 q, Bool.or_false], fun q => by
    rw [hub_or, hub_bit n hn p (by omega), (h p hp).2 q]
    by_cases s : p = n
    · subst s
      rw [decide_eq_true (rfl : p = p), decide_eq_true (by omega : p < p + 1), h1, h3]
      simp
    · rw [decide_eq_false s, Bool.or_false]
      by_cases s2 : p < n
      · rw [decide_eq_true s2, decide_eq_true (by omega)]
      · rw [decide_eq_false s2, decide_eq_false (by omega)]⟩
theorem hdB2.fin {a k w : Int32} {K : Nat → Bool} (h : hdB2 8 a k w K) : hdB1 (k ||| a) w K := fun p hp => by
  rw [hub_or]
  cases h1 : hub k p with
  | true => exact ⟨fun _ => (h p hp).1 h1, fun q => absurd q (by simp)⟩
  | false =>
    have q := (h p hp).2 h1
    rw [decide_eq_true hp, Bool.true_and] at q
    rw [Bool.false_or]
    exact ⟨fun e => by rw [q, e, Bool.true_and], fun e => by rw [q, e, Bool.false_and]⟩
theorem hdB2.and {a k w : Int32} {K : Nat → Bool} (h : hdB2 8 a k w K) : ∀ p, p < 8 → hub (a &&& w) p = (hub a p && K p) := fun p hp => by
  rw [hub_and]
  cases h1 : hub k p with
  | true => rw [(h p hp).1 h1]
  | false =>
    rw [(h p hp).2 h1, decide_eq_true hp]
    cases hub a p <;> simp
theorem hdB1.all {K : Nat → Bool} {w : Int32} {b : Bool} (hK : ∀ p, p < 8 → K p = b) (hw : w = Int32.ofNat (if b then 255 else 0)) : hdB1 (Int32.ofNat 255) w K := fun p hp => by
  have key : ∀ p, p < 8 → hub (Int32.ofNat 255) p = true := by decide +kernel
  rw [key p hp]
  refine ⟨fun _ => ?_, fun q => absurd q (by decide)⟩
  rw [hK p hp, hw]
  cases b with
  | true => exact key p hp
  | false => exact hub_0
/-! A LIFE IN THE CLASS, as a row of the reference: n houses -/
def hdL (L : Nat) (ro : Nat → Int32) (n : Nat) (A : hs_A) : Prop := n ≤ 10 ∧ (A.1 L 6).toInt = (n : Int) ∧ (A.1 L 7 = ro 70 ∧ A.1 L 8 = ro 71 ∧ A.1 L 10 = ro 72) ∧ hOnb (A.1 L 9) ro (n : Int) ∧ ∀ h, h < n → (A.2.1 (L + 1) h = ro h ∧ A.2.1 (L + 2) h = ro (10 + h) ∧ A.2.1 (L + 3) h = ro (40 + h)) ∧ (A.2.1 (L + 4) h = ro (20 + h) ∧ A.2.1 (L + 5) h = ro (30 + h) ∧ A.2.1 (L + 6) h = ro (60 + h))
theorem hLw.d {L n : Nat} {g : Nat → Int32} {A : hs_A} (h : hLw L g (n : Int) A) (hn : n ≤ 10) : hdL L g n A := ⟨hn, h.1, h.2.1, h.2.2.1, fun k hk => h.2.2.2 k (by omega)⟩
theorem hdL.w {L n : Nat} {g : Nat → Int32} {A : hs_A} (h : hdL L g n A) : hLw L g (n : Int) A := ⟨h.2.1, h.2.2.1, h.2.2.2.1, fun k hk => h.2.2.2.2 k (by omega)⟩
theorem hdL.mv {L L' n : Nat} {ro ro' : Nat → Int32} {A A' : hs_A} (h : hdL L ro n A) (e : ∀ k, 6 ≤ k → k ≤ 10 → A'.1 L' k = A.1 L k) (f : ∀ j, 1 ≤ j → j ≤ 6 → ∀ x : Nat, x < 10 → A'.2.1 (L' + j) x = A.2.1 (L + j) x) (g : ∀ k, k < 73 → ro' k = ro k) : hdL L' ro' n A' := by
  obtain ⟨h0, h1, ⟨h2, h3, h4⟩, ⟨m, m1, m2, m3⟩, h5⟩ := h
  refine ⟨h0, by rw [e 6 (by omega) (by omega)]; exact h1, ⟨by rw [e 7 (by omega) (by omega), g 70 (by omega)]; exact h2, by rw [e 8 (by omega) (by omega), g 71 (by omega)]; exact h3, by rw [e 10 (by omega) (by omega), g 72 (by omega)]; exact h4⟩, ⟨m, m1, by rw [e 9 (by omega) (by omega)]; exact m2, fun k hk => by rw [g (50 + k) (by omega)]; exact m3 k hk⟩, fun k hk => ?_⟩
  obtain ⟨⟨a1, a2, a3⟩, a4, a5, a6⟩ := h5 k hk
  exact ⟨⟨by rw [f 1 (by omega) (by omega) k (by omega), g k (by omega)]; exact a1, by rw [f 2 (by omega) (by omega) k (by omega), g (10 + k) (by omega)]; exact a2, by rw [f 3 (by omega) (by omega) k (by omega), g (40 + k) (by omega)]; exact a3⟩, by rw [f 4 (by omega) (by omega) k (by omega), g (20 + k) (by omega)]; exact a4, by rw [f 5 (by omega) (by omega) k (by omega), g (30 + k) (by omega)]; exact a5, by rw [f 6 (by omega) (by omega) k (by omega), g (60 + k) (by omega)]; exact a6⟩
noncomputable def hdLm (L W : Nat) : Bool := [6, 7, 8, 9, 10].all (fun k => !Nat.testBit W (ug_o (ug_g L) k)) && [1, 2, 3, 4, 5, 6].all (fun j => !Nat.testBit W (ug_g (L + j)))
theorem hdLm.get {L W : Nat} (e : hdLm L W = true) : (∀ k, k ∈ [6, 7, 8, 9, 10] → Nat.testBit W (ug_o (ug_g L) k) = false) ∧ ∀ j, j ∈ [1, 2, 3, 4, 5, 6] → Nat.testBit W (ug_g (L + j)) = false := by
  unfold hdLm at e
  rw [Bool.and_eq_true] at e
  refine ⟨fun k hk => ?_, fun k hk => ?_⟩
  · have q := List.all_eq_true.mp e.1 k hk
    simp only [Bool.not_eq_true'] at q
    exact q
  · have q := List.all_eq_true.mp e.2 k hk
    simp only [Bool.not_eq_true'] at q
    exact q
theorem hdL.uf {W L n : Nat} {ro : Nat → Int32} {A A' : hs_A} (h : hdL L ro n A) (hL : hLL L) (w : uf_W W A A') (e : hdLm L W = true) : hdL L ro n A' := by
  obtain ⟨g1, g2⟩ := hdLm.get e
  refine h.mv (fun k a b => ?_) (fun j a b x hx => ?_) (fun _ _ => rfl)
  · have hk : k = 6 ∨ k = 7 ∨ k = 8 ∨ k = 9 ∨ k = 10 := by omega
    rcases hk with rfl | rfl | rfl | rfl | rfl <;> exact w.1 _ _ _ _ (hsL hL) rfl (g1 _ (by decide))
  · exact w.2.1 _ _ _ x (hsLa hL a b) hx (g2 _ (by
      have hj : j = 1 ∨ j = 2 ∨ j = 3 ∨ j = 4 ∨ j = 5 ∨ j = 6 := by omega
      rcases hj with rfl | rfl | rfl | rfl | rfl | rfl <;> decide))
theorem hs_upN1 {f : Nat → Nat → Nat} {i k x : Nat} : hs_upN f i k x i k = x := by
  unfold hs_upN
  rw [if_pos rfl, if_pos rfl]
theorem hs_upN2 {f : Nat → Nat → Nat} {i k x a b : Nat} (h : ¬ (a = i ∧ b = k)) : hs_upN f i k x a b = f a b := by
  unfold hs_upN
  by_cases q : a = i
  · rw [if_pos q, if_neg (fun s => h ⟨q, s⟩)]
  · rw [if_neg q]
theorem uf_putl {M x : Nat} {A A' : hs_A} (e : A'.1 = A.1) (f : A'.2.1 = A.2.1) (g : A'.2.2.1 = A.2.2.1) (i : A'.2.2.2 = hs_upN A.2.2.2 323 5 x) (b : Nat.testBit M (ug_o (ug_g 323) 5) = true) : uf_W M A A' :=
  ⟨fun _ _ _ _ _ _ _ => by rw [e], fun _ _ _ _ _ _ _ => by rw [f], fun _ _ _ _ _ _ _ => by rw [g], fun a c ks j _ _ h => by
    rw [i]
    refine hs_upN2 (fun q => ?_)
    rw [q.1, q.2, b] at h
    cases h⟩
theorem uf_H.putl {T : Nat} {A A' : hs_A} (h : uf_H A) (hT : hTT T) (i : A'.2.2.2 = hs_upN A.2.2.2 323 5 (T + 5)) : uf_H A' := by
  obtain ⟨h1, h2, h3, -⟩ := h
  refine ⟨?_, ?_, ?_, ?_⟩
  · rw [i, hs_upN2 (by omega)]; exact h1
  · rw [i, hs_upN2 (by omega)]; exact h2
  · rw [i, hs_upN2 (by omega)]; exact h3
  · rw [i, hs_upN1]
    rcases hT with rfl | rfl
    · exact Or.inl rfl
    · exact Or.inr rfl
theorem hdT4 {W T : Nat} {A A' : hs_A} (w : uf_W W A A') (hT : hTT T) (e : hdG W = true) : A'.1 T 4 = A.1 T 4 := by
  have t := ((hdG.get e).1 T hT).1
  rcases hT with rfl | rfl
  · exact w.1 2 _ _ 4 rfl rfl t
  · exact w.1 11 _ _ 4 rfl rfl t
theorem hLL_26 : hLL 26 := by
  show 26 ∈ hl_L
  decide
theorem hLL_33 : hLL 33 := by
  show 33 ∈ hl_L
  decide
def huH (ro : Nat → Int32) (h : Nat) : Bool := decide ((ro (50 + h)).toInt = 1) && decide ((ro (60 + h)).toInt = 0)
/-- what is sent in this hour -/
def huN (D : hg_D) (ro : Nat → Int32) : Int32 := if (ro 71).toInt = -1 then Int32.ofInt (D.1 ((ro 70).toInt % 24).toNat) else ro 71
def huMy (x : Int32) : Int32 := x ^^^ (((x).toUInt32 >>> ((Int32.ofNat 15).toUInt32 &&& Int32.toUInt32 31)).toInt32)
def huMx (h v : Int32) : Int32 := huMy ((h ^^^ v) * Int32.ofNat 1103515245 + Int32.ofNat 12345)
def huLu (x : Int32) : Int32 := (((x).toUInt32 >>> ((Int32.ofNat 1).toUInt32 &&& Int32.toUInt32 31)).toInt32)
def huLv (x : Int32) : Int32 := x - x / Int32.ofNat 100 * Int32.ofNat 100
/-- LOT 100 -/
def huLt (s w : Int32) : Int32 := huLv (huLu (huMx (huMx s (Int32.ofNat 137)) w))
/-- what house h hears in this hour -/
def huHd (D : hg_D) (n : Nat) (ro : Nat → Int32) (h : Nat) : Int32 := if huH ro h then (if h = 0 then huN D ro else huW D (huX (Int32.ofNat n) ro (Int32.ofNat h) (ro 70)) (ro (29 + h))) else Int32.ofNat 0
def huDy (D : hg_D) (n : Nat) (ro : Nat → Int32) (b : Bool) (s : Int32) (h : Nat) : Bool := b && (decide ((ro (60 + h)).toInt = 0) && decide ((huLt s (Int32.ofNat 16 * ro 70 + Int32.ofNat h)).toInt < (huE D (huX (Int32.ofNat n) ro (Int32.ofNat h) (ro 70))).toInt))
def huGr (D : hg_D) (n : Nat) (ro : Nat → Int32) (b : Bool) (s : Int32) (h : Nat) : Int32 := if 0 < (ro (60 + h)).toInt then ro (60 + h) - Int32.ofNat 1 else if huDy D n ro b s h then Int32.ofInt D.2.1 else ro (60 + h)
def huCt (b : Nat → Bool) : Nat → Nat
  | 0 => 0
  | k + 1 => huCt b k + (if b k then 1 else 0)
/-- an hour: n houses, b with deaths, s the seed -/
def huR (D : hg_D) (n : Nat) (b : Bool) (s : Int32) (ro : Nat → Int32) : Nat → Int32 := fun k =>
  if 30 ≤ k ∧ k < 30 + n then huHd D n ro (k - 30)
  else if 40 ≤ k ∧ k < 40 + n then ro k ||| (huHd D n ro (k - 40) &&& ro (k - 40))
  else if 60 ≤ k ∧ k < 60 + n then huGr D n ro b s (k - 60)
  else if k = 70 then ro 70 + Int32.ofNat 1
  else if k = 71 then Int32.ofNat 4294967295
  else if k = 72 then ro 72 + Int32.ofNat (huCt (huDy D n ro b s) n)
  else ro k
theorem huI_c {m : Nat} (h : m = 0) : Int32.ofNat 0 = Int32.ofNat m := by rw [h]
theorem hW242 {g d f : Nat} {A : hs_A} (a1 : Int32) (pa1 : 0 ≤ a1.toInt) (qa1 : a1.toInt < 1024) {P : Option Value → hs_A → Prop} (hP : ∀ (r : Option Value) (A' : hs_A), (A = A' ∧ ∃ z : Int32, r = some (.int z) ∧ z = huB 10 a1) → P r A') : hpa (f, g) d (some (.int)) hm_t242 0 [.int a1] [] A P := by
  have k1 := hk_1
  have k1431655765 := hk_1431655765
  have k16 := hk_16
  have k2 := hk_2
  have k252645135 := hk_252645135
  have k4 := hk_4
  have k63 := hk_63
  have k8 := hk_8
  have k858993459 := hk_858993459
  refine hpa_iload_n (by rfl) rfl ?_
  refine hpa_iload_n (by rfl) rfl ?_
  refine hpa_iconst (by rfl) rfl ?_
  refine hpa_iushr (by rfl) ?_
  refine hpa_ldc_w (by rfl) rfl ?_
  refine hpa_iand (by rfl) ?_
  refine hpa_isub (by rfl) ?_
  generalize hy1 : (a1 - ((((a1).toUInt32 >>> (((Int32.ofNat 1)).toUInt32 &&& Int32.toUInt32 31)).toInt32) &&& (Int32.ofNat 1431655765))) = y1
  refine hpa_s1 (by rfl) (Or.inl ⟨_, rfl, rfl⟩) rfl ?_
  refine hpa_iload_n (by rfl) rfl ?_
  refine hpa_ldc_w (by rfl) rfl ?_
  refine hpa_iand (by rfl) ?_
  refine hpa_iload_n (by rfl) rfl ?_
  refine hpa_iconst (by rfl) rfl ?_
  refine hpa_iushr (by rfl) ?_
  refine hpa_ldc_w (by rfl) rfl ?_
  refine hpa_iand (by rfl) ?_
  refine hpa_iadd (by rfl) ?_
  generalize hy2 : ((y1 &&& (Int32.ofNat 858993459)) + ((((y1).toUInt32 >>> (((Int32.ofNat 2)).toUInt32 &&& Int32.toUInt32 31)).toInt32) &&& (Int32.ofNat 858993459))) = y2
  refine hpa_s1 (by rfl) (Or.inl ⟨_, rfl, rfl⟩) rfl ?_
  refine hpa_iload_n (by rfl) rfl ?_
  refine hpa_iload_n (by rfl) rfl ?_
  refine hpa_iconst (by rfl) rfl ?_
  refine hpa_iushr (by rfl) ?_
  refine hpa_iadd (by rfl) ?_
  refine hpa_ldc_w (by rfl) rfl ?_
  refine hpa_iand (by rfl) ?_
  generalize hy3 : ((y2 + (((y2).toUInt32 >>> (((Int32.ofNat 4)).toUInt32 &&& Int32.toUInt32 31)).toInt32)) &&& (Int32.ofNat 252645135)) = y3
  refine hpa_s1 (by rfl) (Or.inl ⟨_, rfl, rfl⟩) rfl ?_
  refine hpa_iload_n (by rfl) rfl ?_
  refine hpa_iload_n (by rfl) rfl ?_
  refine hpa_bipush (by rfl) rfl ?_
  refine hpa_iushr (by rfl) ?_
  refine hpa_iadd (by rfl) ?_
  generalize hy4 : (y3 + (((y3).toUInt32 >>> (((Int32.ofNat 8)).toUInt32 &&& Int32.toUInt32 31)).toInt32)) = y4
  refine hpa_s1 (by rfl) (Or.inl ⟨_, rfl, rfl⟩) rfl ?_
  refine hpa_iload_n (by rfl) rfl ?_
  refine hpa_iload_n (by rfl) rfl ?_
  refine hpa_bipush (by rfl) rfl ?_
  refine hpa_iushr (by rfl) ?_
  refine hpa_iadd (by rfl) ?_
  generalize hy5 : (y4 + (((y4).toUInt32 >>> (((Int32.ofNat 16)).toUInt32 &&& Int32.toUInt32 31)).toInt32)) = y5
  refine hpa_s1 (by rfl) (Or.inl ⟨_, rfl, rfl⟩) rfl ?_
  refine hpa_iload_n (by rfl) rfl ?_
  refine hpa_bipush (by rfl) rfl ?_
  refine hpa_iand (by rfl) ?_
  exact hpa_ireturn (by rfl) rfl (hP _ _ ⟨rfl, _, rfl, by subst hy5 hy4 hy3 hy2 hy1; exact huw pa1 qa1⟩)
theorem hP242 {g d : Nat} {A : hs_A} (a1 : Int32) (pa1 : 0 ≤ a1.toInt) (qa1 : a1.toInt < 1024) : hpC g d 242 hm_m242 [.int a1] A (fun r A' => A = A' ∧ ∃ z : Int32, r = some (.int z) ∧ z = huB 10 a1) := hpC.all (fun f d => hW242 a1 pa1 qa1 (fun r A' h => h))
theorem hW244 {g d f : Nat} {A : hs_A} (a1 a2 : Int32) {P : Option Value → hs_A → Prop} (hP : ∀ (r : Option Value) (A' : hs_A), (A = A' ∧ ∃ z : Int32, r = some (.int z) ∧ z = (if a1.toInt < a2.toInt then a2 else a1)) → P r A') : hpa (f, g) d (some (.int)) hm_t244 0 [.int a1, .int a2] [] A P := by
  refine hpa_iload_n (by rfl) rfl ?_
  refine hpa_iload_n (by rfl) rfl ?_
  refine hpj_clt (by rfl) rfl rfl (fun q1 => ?_) (fun q1 => ?_)
  ·
    refine hpa_iload_n (by rfl) rfl ?_
    exact hpa_ireturn (by rfl) rfl (hP _ _ ⟨rfl, _, rfl, by rw [if_pos (by omega)]⟩)
  ·
    refine hpa_iload_n (by rfl) rfl ?_
    refine hpa_goto (by rfl) ?_
    exact hpa_ireturn (by rfl) rfl (hP _ _ ⟨rfl, _, rfl, by rw [if_neg (by omega)]⟩)
theorem hP244 {g d : Nat} {A : hs_A} (a1 a2 : Int32) : hpC g d 244 hm_m244 [.int a1, .int a2] A (fun r A' => A = A' ∧ ∃ z : Int32, r = some (.int z) ∧ z = (if a1.toInt < a2.toInt then a2 else a1)) := hpC.all (fun f d => hW244 a1 a2 (fun r A' h => h))
theorem hW245 {g d f : Nat} {A : hs_A} (a1 a2 : Int32) {P : Option Value → hs_A → Prop} (hP : ∀ (r : Option Value) (A' : hs_A), (A = A' ∧ ∃ z : Int32, r = some (.int z) ∧ z = (if a2.toInt < a1.toInt then a2 else a1)) → P r A') : hpa (f, g) d (some (.int)) hm_t245 0 [.int a1, .int a2] [] A P := by
  refine hpa_iload_n (by rfl) rfl ?_
  refine hpa_iload_n (by rfl) rfl ?_
  refine hpj_cgt (by rfl) rfl rfl (fun q1 => ?_) (fun q1 => ?_)
  ·
    refine hpa_iload_n (by rfl) rfl ?_
    exact hpa_ireturn (by rfl) rfl (hP _ _ ⟨rfl, _, rfl, by rw [if_pos (by omega)]⟩)
  ·
    refine hpa_iload_n (by rfl) rfl ?_
    refine hpa_goto (by rfl) ?_
    exact hpa_ireturn (by rfl) rfl (hP _ _ ⟨rfl, _, rfl, by rw [if_neg (by omega)]⟩)
theorem hP245 {g d : Nat} {A : hs_A} (a1 a2 : Int32) : hpC g d 245 hm_m245 [.int a1, .int a2] A (fun r A' => A = A' ∧ ∃ z : Int32, r = some (.int z) ∧ z = (if a2.toInt < a1.toInt then a2 else a1)) := hpC.all (fun f d => hW245 a1 a2 (fun r A' h => h))
theorem huC_mm {m : Nat} {v : Int32} (hm : m < 2147483648) : (if (Int32.ofNat 0).toInt < (if v.toInt < (Int32.ofNat m).toInt then v else Int32.ofNat m).toInt then (if v.toInt < (Int32.ofNat m).toInt then v else Int32.ofNat m) else Int32.ofNat 0) = huC m v := by
  have e0 := hk_0
  have em := hn_c (n := m) rfl hm
  unfold huC
  by_cases h0 : v.toInt < 0
  · rw [if_pos h0]
    by_cases h1 : v.toInt < (Int32.ofNat m).toInt
    · rw [if_pos h1, if_neg (by omega)]
    · exact absurd h1 (by omega)
  · rw [if_neg h0]
    by_cases h1 : v.toInt < (Int32.ofNat m).toInt
    · rw [if_pos h1, show (if (m : Int) < v.toInt then Int32.ofNat m else v) = v from if_neg (by omega)]
      by_cases h2 : (Int32.ofNat 0).toInt < v.toInt
      · rw [if_pos h2]
      · rw [if_neg h2]
        exact (huI (n := 0) (by omega) (by decide)).symm
    · rw [if_neg h1]
      by_cases h3 : (m : Int) < v.toInt
      · rw [if_pos h3]
        by_cases h2 : (Int32.ofNat 0).toInt < (Int32.ofNat m).toInt
        · rw [if_pos h2]
        · rw [if_neg h2]
          exact huI_c (by omega)
      · rw [if_neg h3]
        by_cases h2 : (Int32.ofNat 0).toInt < (Int32.ofNat m).toInt
        · rw [if_pos h2]
          exact (huI (n := m) (by omega) hm).symm
        · rw [if_neg h2]
          exact (huI (n := 0) (by omega) (by decide)).symm
theorem hub_lk {x : Int32} (h : ((x >>> (Int32.ofNat 3 &&& 31)) &&& Int32.ofNat 1).toInt = 0) {l : hg_C} (n : hg_np x l) : (1, 3) ∉ l := n h
theorem hW11 {g d f : Nat} {A : hs_A} {T : Nat} {D : hg_D} {q : Nat} (a1 a2 : Int32) (hT : hTT T) (hC : hdK T D A) (hq : q < 4) (h1 : a1.toInt = (q : Int)) (h2 : a2 = Int32.ofNat 3) {P : Option Value → hs_A → Prop} (hP : ∀ (r : Option Value) (A' : hs_A), (A = A' ∧ ∃ z : Int32, r = some (.int z) ∧ ((z.toInt = 1) ∨ (z.toInt = 0 ∧ ∃ f, (1, 3) ∉ hg_law f (D.2.2.2 q)))) → P r A') : hpa (f, g) d (some (.boolean)) hm_t11 0 [.ref (T + 5), .int a1, .int a2] [] A P := by
  have k0 := hk_0
  have k1 := hk_1
  obtain ⟨kw, V, ns, zz, k1, k2, kM, k3⟩ := hC
  obtain ⟨f0, b1, b2, b3, b4⟩ := kM.2.1 q hq
  refine hpa_aload_n (by rfl) rfl ?_
  refine hpa_get (v := .ref (T + 8)) (by rfl) (hsT4 hT) (by rfl) (hvT hT (by omega)) ?_
  refine hpa_iload_n (by rfl) rfl ?_
  refine hpx_iald (by rfl) (hsT7 hT) (fun h0v1 h1v1 v1 ev1 => ?_)
  rw [show (a1).toNatClampNeg = q by have := hn_cn (j := a1) (by omega); omega] at ev1
  refine hpa_iload_n (by rfl) rfl ?_
  refine hpa_ishr (by rfl) ?_
  refine hpa_iconst (by rfl) rfl ?_
  refine hpa_iand (by rfl) ?_
  refine hpj_zeq (by rfl) rfl (fun q2 => ?_) (fun q2 => ?_)
  ·
    rw [h2, ← ev1] at q2
    have NPQ := q2
    refine hpa_iconst (by rfl) rfl ?_
    exact hpa_ireturn (by rfl) (by rfl) (hP _ _ ⟨rfl, _, rfl, Or.inr ⟨hk_0, f0, b4 NPQ⟩⟩)
  ·
    refine hpa_iconst (by rfl) rfl ?_
    refine hpa_goto (by rfl) ?_
    exact hpa_ireturn (by rfl) (by rfl) (hP _ _ ⟨rfl, _, rfl, Or.inl hk_1⟩)
theorem hP11 {g d : Nat} {A : hs_A} {T : Nat} {D : hg_D} {q : Nat} (a1 a2 : Int32) (hT : hTT T) (hC : hdK T D A) (hq : q < 4) (h1 : a1.toInt = (q : Int)) (h2 : a2 = Int32.ofNat 3) : hpC g d 11 hm_m11 [.ref (T + 5), .int a1, .int a2] A (fun r A' => A = A' ∧ ∃ z : Int32, r = some (.int z) ∧ ((z.toInt = 1) ∨ (z.toInt = 0 ∧ ∃ f, (1, 3) ∉ hg_law f (D.2.2.2 q)))) := hpC.all (fun f d => hW11 a1 a2 hT hC hq h1 h2 (fun r A' h => h))
def uM2 : Nat := 20266198323692544
theorem hW2 {g d f : Nat} {A : hs_A} {T : Nat} {D : hg_D} {x : Nat → Int32} {q : Nat} (a1 : Int32) (hT : hTT T) (hC : hdK T D A) (hV : hdV T x A) (hQ : hdQt D x A) (hq : q ≤ 8) (ha : a1 = Int32.ofNat q) (hH0 : uf_H A) {P : Option Value → hs_A → Prop} (hP : ∀ (r : Option Value) (A' : hs_A), (∃ z : Int32, r = some (.int z) ∧ z = huT D x a1 ∧ hdV T x A' ∧ hdQt D x A' ∧ (A'.1 = A.1 ∧ ∀ i, ¬ i = 324 → ¬ i = 327 → ¬ i = T + 8 → A'.2.1 i = A.2.1 i)) → P r A') : hpa (f, g) d (some (.int)) hm_t2 0 [.ref 324, .int a1] [] A P := by
  have k0 := hk_0
  have k1 := hk_1
  have k4294967295 := hk_4294967295
  have k7 := hk_7
  have hT9 : T ≤ 11 := by rcases hT with rfl | rfl <;> omega
  have cq := hn_c (n := q) (z := Int32.ofNat q) rfl (by omega)
  have caq : a1.toInt = (q : Int) := by rw [ha]; exact cq
  have ciq : a1.toNatClampNeg = q := by have := hn_cn (j := a1) (by omega); omega
  have U0 : uf_W uM2 A A := uf_W.rfl
  refine hpa_aload_n (by rfl) rfl ?_
  refine hpa_get (v := .ref 328) (by rfl) (by rfl) (by rfl) rfl ?_
  refine hpa_iload_n (by rfl) rfl ?_
  refine hpx_iald (by rfl) (by rfl) (fun h0v1 h1v1 v1 ev1 => ?_)
  refine hpa_iconst (by rfl) rfl ?_
  refine hpj_cne (by rfl) rfl hk_4294967295 (fun q2 => ?_) (fun q2 => ?_)
  ·
    have QR : A.2.1 327 q = huT D x a1 := by rw [ha]; rcases hQ q hq with u | u; (rw [ciq, u] at ev1; exact False.elim (q2 (by rw [← ev1]; exact hk_4294967295))); exact u
    refine hpa_aload_n (by rfl) rfl ?_
    refine hpa_get (v := .ref 328) (by rfl) (by rfl) (by rfl) rfl ?_
    refine hpa_iload_n (by rfl) rfl ?_
    refine hpx_iald (by rfl) (by rfl) (fun h0v3 h1v3 v3 ev3 => ?_)
    exact hpa_ireturn (by rfl) rfl (hP _ _ ⟨_, rfl, by rw [← ev3, ciq]; exact QR, hV, hQ, rfl, fun _ _ _ _ => rfl⟩)
  ·
    refine hpa_aload_n (by rfl) rfl ?_
    refine hpa_get (v := .ref 328) (by rfl) (by rfl) (by rfl) rfl ?_
    refine hpa_iload_n (by rfl) rfl ?_
    refine hpa_iconst (by rfl) rfl ?_
    refine hpa_bipush (by rfl) rfl ?_
    refine hpa_aload_n (by rfl) rfl ?_
    refine hpj_getT (by rfl) (by rfl) (by rfl) hV.1 ?_
    refine hpa_iconst (by rfl) rfl ?_
    refine hpa_aload_n (by rfl) rfl ?_
    refine hpa_get (v := .ref 325) (by rfl) (by rfl) (by rfl) rfl ?_
    refine hpa_iconst (by rfl) rfl ?_
    refine hpa_iload_n (by rfl) rfl ?_
    refine hpa_call0 (by rfl) (by rfl) (by rfl) (hsT4 hT) (by rfl) (by rfl) (uf_C (X := ug_x218) (j := 218) rfl rfl (ug_L.cons (by rcases hT with rfl | rfl <;> exact uf_rk_ok (by decide +kernel)) (uf_int (ug_L.cons (uf_rk_ok (by decide +kernel)) (uf_int (uf_int uf_nil))))) hH0 (hP14k (q := 1) (Int32.ofNat 1) (Int32.ofNat 0) a1 hT hC hV (by omega) hk_1)) ?_
    rintro _ A4 ⟨⟨z5, rfl, Z_A4, F_A4, V_A4⟩, wA4, HA4⟩
    have UA4 := (U0).trans (wA4.le (by decide +kernel : ug_wle ug_x218.2.2.2.1 uM2 = true))
    refine hpa_call2 (by rfl) (by decide) (by rfl) (by rfl) (by rfl) (uf_C (X := ug_x249) (j := 249) rfl rfl (uf_int (uf_int uf_nil)) HA4 (hP245 (Int32.ofNat 7) z5)) ?_
    rintro _ _ ⟨⟨rfl, z7, rfl, Z_A6⟩, -, -⟩
    subst Z_A6
    refine hpa_call2 (by rfl) (by decide) (by rfl) (by rfl) (by rfl) (uf_C (X := ug_x215) (j := 215) rfl rfl (uf_int (uf_int uf_nil)) HA4 (hP244 (Int32.ofNat 0) ((if (z5).toInt < ((Int32.ofNat 7)).toInt then z5 else (Int32.ofNat 7))))) ?_
    rintro _ _ ⟨⟨rfl, z9, rfl, Z_A8⟩, -, -⟩
    subst Z_A8
    refine hpx_iast (by rfl) (by rfl) (fun A10 h0A10 h1A10 eA10 fA10 gA10 => ?_)
    have UA10 := (UA4).ar eA10 fA10 gA10 (by decide +kernel)
    have HA10 := (HA4).e (congrArg (fun q => q.2) gA10)
    rw [ciq, huC_mm (by decide), Z_A4] at fA10
    have VA10 : hdV T x A10 := ⟨by rw [gA10]; exact V_A4.1, fun i hi h3 h6 => by rw [fA10, hup2 (by omega)]; exact V_A4.2 i hi h3 h6⟩
    refine hpa_aload_n (by rfl) rfl ?_
    refine hpa_get (v := .ref 328) (by rfl) (by rfl) (by rfl) rfl ?_
    refine hpa_iload_n (by rfl) rfl ?_
    refine hpx_iald (by rfl) (by rfl) (fun h0v11 h1v11 v11 ev11 => ?_)
    exact hpa_ireturn (by rfl) rfl (hP _ _ ⟨_, rfl, by rw [← ev11, ciq, fA10, hup1, ha]; rfl, VA10, fun r hr => by rw [fA10]; by_cases s : r = q; (rw [s, hup1, ha]; exact Or.inr rfl); rw [hup2 (by omega), F_A4.2.2 327 (by omega) (by omega)]; exact hQ r hr, ⟨eA10.trans F_A4.1, fun i h1 h2 h3 => by rw [fA10]; funext j; rw [hup2 (by omega), F_A4.2.2 i h1 h3]⟩⟩)
theorem hP2 {g d : Nat} {A : hs_A} {T : Nat} {D : hg_D} {x : Nat → Int32} {q : Nat} (a1 : Int32) (hT : hTT T) (hC : hdK T D A) (hV : hdV T x A) (hQ : hdQt D x A) (hq : q ≤ 8) (ha : a1 = Int32.ofNat q) (hH0 : uf_H A) : hpC g d 2 hm_m2 [.ref 324, .int a1] A (fun r A' => ∃ z : Int32, r = some (.int z) ∧ z = huT D x a1 ∧ hdV T x A' ∧ hdQt D x A' ∧ (A'.1 = A.1 ∧ ∀ i, ¬ i = 324 → ¬ i = 327 → ¬ i = T + 8 → A'.2.1 i = A.2.1 i)) := hpC.all (fun f d => hW2 a1 hT hC hV hQ hq ha hH0 (fun r A' h => h))
def uM3 : Nat := 107839786668602559178668060348078522694548577690162292176214255207424
theorem hW3 {g d f : Nat} {A : hs_A} {T : Nat} {D : hg_D} {x : Nat → Int32} (hT : hTT T) (hC : hdK T D A) (hV : hdV T x A) (hQ : hdQh D x A) (hH0 : uf_H A) {P : Option Value → hs_A → Prop} (hP : ∀ (r : Option Value) (A' : hs_A), (∃ z : Int32, r = some (.int z) ∧ z = huU D x ∧ hdV T x A' ∧ hdQh D x A' ∧ ((∀ i k, ¬ (i = 323 ∧ k = 4) → A'.1 i k = A.1 i k) ∧ ∀ i, ¬ i = 324 → ¬ i = T + 8 → A'.2.1 i = A.2.1 i)) → P r A') : hpa (f, g) d (some (.int)) hm_t3 0 [.ref 324] [] A P := by
  have k0 := hk_0
  have k2 := hk_2
  have k255 := hk_255
  have k4294967295 := hk_4294967295
  have hT9 : T ≤ 11 := by rcases hT with rfl | rfl <;> omega
  have U0 : uf_W uM3 A A := uf_W.rfl
  refine hpa_aload_n (by rfl) rfl ?_
  refine hpj_getK (by rfl) (by rfl) (by rfl) rfl ?_
  refine hpa_iconst (by rfl) rfl ?_
  refine hpj_cne (by rfl) rfl hk_4294967295 (fun q1 => ?_) (fun q1 => ?_)
  ·
    have QR : A.1 323 4 = huU D x := by rcases hQ with u | u; exact False.elim (q1 (by rw [u]; exact hk_4294967295)); exact u
    refine hpa_aload_n (by rfl) rfl ?_
    refine hpj_getK (by rfl) (by rfl) (by rfl) rfl ?_
    exact hpa_ireturn (by rfl) rfl (hP _ _ ⟨_, rfl, QR, hV, hQ, fun _ _ _ => rfl, fun _ _ _ => rfl⟩)
  ·
    refine hpa_aload_n (by rfl) rfl ?_
    refine hpa_iconst (by rfl) rfl ?_
    refine hpa_sipush (by rfl) rfl ?_
    refine hpa_aload_n (by rfl) rfl ?_
    refine hpj_getT (by rfl) (by rfl) (by rfl) hV.1 ?_
    refine hpa_iconst (by rfl) rfl ?_
    refine hpa_aload_n (by rfl) rfl ?_
    refine hpa_get (v := .ref 325) (by rfl) (by rfl) (by rfl) rfl ?_
    refine hpa_iconst (by rfl) rfl ?_
    refine hpa_iconst (by rfl) rfl ?_
    refine hpa_call0 (by rfl) (by rfl) (by rfl) (hsT4 hT) (by rfl) (by rfl) (uf_C (X := ug_x218) (j := 218) rfl rfl (ug_L.cons (by rcases hT with rfl | rfl <;> exact uf_rk_ok (by decide +kernel)) (uf_int (ug_L.cons (uf_rk_ok (by decide +kernel)) (uf_int (uf_int uf_nil))))) hH0 (hP14k (q := 2) (Int32.ofNat 2) (Int32.ofNat 0) (Int32.ofNat 0) hT hC hV (by omega) hk_2)) ?_
    rintro _ A2 ⟨⟨z3, rfl, Z_A2, F_A2, V_A2⟩, wA2, HA2⟩
    have UA2 := (U0).trans (wA2.le (by decide +kernel : ug_wle ug_x218.2.2.2.1 uM3 = true))
    refine hpa_call2 (by rfl) (by decide) (by rfl) (by rfl) (by rfl) (uf_C (X := ug_x249) (j := 249) rfl rfl (uf_int (uf_int uf_nil)) HA2 (hP245 (Int32.ofNat 255) z3)) ?_
    rintro _ _ ⟨⟨rfl, z5, rfl, Z_A4⟩, -, -⟩
    subst Z_A4
    refine hpa_call2 (by rfl) (by decide) (by rfl) (by rfl) (by rfl) (uf_C (X := ug_x215) (j := 215) rfl rfl (uf_int (uf_int uf_nil)) HA2 (hP244 (Int32.ofNat 0) ((if (z3).toInt < ((Int32.ofNat 255)).toInt then z3 else (Int32.ofNat 255))))) ?_
    rintro _ _ ⟨⟨rfl, z7, rfl, Z_A6⟩, -, -⟩
    subst Z_A6
    refine hpj_putI (by rfl) (by rfl) (by rfl) (by rfl) (fun A8 eA8 fA8 => ?_)
    have UA8 := (UA2).put eA8 fA8 (by decide +kernel)
    have HA8 := (HA2).e (congrArg (fun q => q.2.2) fA8)
    rw [huC_mm (by decide), Z_A2] at eA8
    have VA8 : hdV T x A8 := ⟨by rw [fA8]; exact V_A2.1, fun i hi h3 h6 => by rw [fA8]; exact V_A2.2 i hi h3 h6⟩
    have EA8 : A8.1 323 4 = huU D x := by rw [eA8, hup1]; rfl
    refine hpa_aload_n (by rfl) rfl ?_
    refine hpj_getK (by rfl) (by rfl) (by rfl) rfl ?_
    exact hpa_ireturn (by rfl) rfl (hP _ _ ⟨_, rfl, EA8, VA8, Or.inr EA8, fun i k h => by rw [eA8, hup2 h, F_A2.1], fun i h1 h2 => by rw [fA8]; exact F_A2.2.2 i h1 h2⟩)
theorem hP3 {g d : Nat} {A : hs_A} {T : Nat} {D : hg_D} {x : Nat → Int32} (hT : hTT T) (hC : hdK T D A) (hV : hdV T x A) (hQ : hdQh D x A) (hH0 : uf_H A) : hpC g d 3 hm_m3 [.ref 324] A (fun r A' => ∃ z : Int32, r = some (.int z) ∧ z = huU D x ∧ hdV T x A' ∧ hdQh D x A' ∧ ((∀ i k, ¬ (i = 323 ∧ k = 4) → A'.1 i k = A.1 i k) ∧ ∀ i, ¬ i = 324 → ¬ i = T + 8 → A'.2.1 i = A.2.1 i)) := hpC.all (fun f d => hW3 hT hC hV hQ hH0 (fun r A' h => h))
def uM4 : Nat := 2251799814210560
theorem hW4 {g d f : Nat} {A : hs_A} {T : Nat} {D : hg_D} {x : Nat → Int32} (hT : hTT T) (hC : hdK T D A) (hV : hdV T x A) (hH0 : uf_H A) {P : Option Value → hs_A → Prop} (hP : ∀ (r : Option Value) (A' : hs_A), (∃ z : Int32, r = some (.int z) ∧ z = huE D x ∧ hdV T x A' ∧ hdF T A A') → P r A') : hpa (f, g) d (some (.int)) hm_t4 0 [.ref 324] [] A P := by
  have k0 := hk_0
  have k100 := hk_100
  have k3 := hk_3
  have hT9 : T ≤ 11 := by rcases hT with rfl | rfl <;> omega
  have U0 : uf_W uM4 A A := uf_W.rfl
  refine hpa_iconst (by rfl) rfl ?_
  refine hpa_bipush (by rfl) rfl ?_
  refine hpa_aload_n (by rfl) rfl ?_
  refine hpj_getT (by rfl) (by rfl) (by rfl) hV.1 ?_
  refine hpa_iconst (by rfl) rfl ?_
  refine hpa_aload_n (by rfl) rfl ?_
  refine hpa_get (v := .ref 325) (by rfl) (by rfl) (by rfl) rfl ?_
  refine hpa_iconst (by rfl) rfl ?_
  refine hpa_iconst (by rfl) rfl ?_
  refine hpa_call0 (by rfl) (by rfl) (by rfl) (hsT4 hT) (by rfl) (by rfl) (uf_C (X := ug_x218) (j := 218) rfl rfl (ug_L.cons (by rcases hT with rfl | rfl <;> exact uf_rk_ok (by decide +kernel)) (uf_int (ug_L.cons (uf_rk_ok (by decide +kernel)) (uf_int (uf_int uf_nil))))) hH0 (hP14k (q := 3) (Int32.ofNat 3) (Int32.ofNat 0) (Int32.ofNat 0) hT hC hV (by omega) hk_3)) ?_
  rintro _ A1 ⟨⟨z2, rfl, Z_A1, F_A1, V_A1⟩, wA1, HA1⟩
  have UA1 := (U0).trans (wA1.le (by decide +kernel : ug_wle ug_x218.2.2.2.1 uM4 = true))
  refine hpa_call2 (by rfl) (by decide) (by rfl) (by rfl) (by rfl) (uf_C (X := ug_x249) (j := 249) rfl rfl (uf_int (uf_int uf_nil)) HA1 (hP245 (Int32.ofNat 100) z2)) ?_
  rintro _ _ ⟨⟨rfl, z4, rfl, Z_A3⟩, -, -⟩
  subst Z_A3
  refine hpa_call2 (by rfl) (by decide) (by rfl) (by rfl) (by rfl) (uf_C (X := ug_x215) (j := 215) rfl rfl (uf_int (uf_int uf_nil)) HA1 (hP244 (Int32.ofNat 0) ((if (z2).toInt < ((Int32.ofNat 100)).toInt then z2 else (Int32.ofNat 100))))) ?_
  rintro _ _ ⟨⟨rfl, z6, rfl, Z_A5⟩, -, -⟩
  subst Z_A5
  exact hpa_ireturn (by rfl) rfl (hP _ _ ⟨_, rfl, by rw [huC_mm (by decide), Z_A1]; rfl, V_A1, F_A1⟩)
theorem hP4 {g d : Nat} {A : hs_A} {T : Nat} {D : hg_D} {x : Nat → Int32} (hT : hTT T) (hC : hdK T D A) (hV : hdV T x A) (hH0 : uf_H A) : hpC g d 4 hm_m4 [.ref 324] A (fun r A' => ∃ z : Int32, r = some (.int z) ∧ z = huE D x ∧ hdV T x A' ∧ hdF T A A') := hpC.all (fun f d => hW4 hT hC hV hH0 (fun r A' h => h))
def uM6 : Nat := 15762598696322048
theorem hub_255 : ∀ p, p < 8 → hub (Int32.ofNat 255) p = true := by decide +kernel
theorem hW6 {g d f : Nat} {A : hs_A} {T : Nat} {D : hg_D} {x : Nat → Int32} {q : Nat} (a1 a2 : Int32) (hT : hTT T) (hC : hdK T D A) (hV : hdV T x A) (hQ : hdQk D x A) (hq : q ≤ 8) (ha : a2 = Int32.ofNat q) (pa1 : 0 ≤ a1.toInt) (qa1 : a1.toInt ≤ 255) (hH0 : uf_H A) {P : Option Value → hs_A → Prop} (hP : ∀ (r : Option Value) (A' : hs_A), (∃ z : Int32, r = some (.int z) ∧ (0 ≤ z.toInt ∧ z.toInt ≤ 255) ∧ (∀ p, p < 8 → hub z p = (hub a1 p && huK D x a2 p)) ∧ hdV T x A' ∧ hdQk D x A' ∧ (A'.1 = A.1 ∧ ∀ i, ¬ i = 324 → ¬ i = 325 → ¬ i = 326 → ¬ i = T + 8 → A'.2.1 i = A.2.1 i)) → P r A') : hpa (f, g) d (some (.int)) hm_t6 0 [.ref 324, .int a1, .int a2, .retAddr 0, .retAddr 0] [] A P := by
  have k0 := hk_0
  have k1 := hk_1
  have k255 := hk_255
  have k3 := hk_3
  have k4294967295 := hk_4294967295
  have k8 := hk_8
  have hT9 : T ≤ 11 := by rcases hT with rfl | rfl <;> omega
  have cq := hn_c (n := q) (z := Int32.ofNat q) rfl (by omega)
  have caq : a2.toInt = (q : Int) := by rw [ha]; exact cq
  have ciq : a2.toNatClampNeg = q := by have := hn_cn (j := a2) (by omega); omega
  have QA := hQ q hq
  rw [← ha] at QA
  have aw : ∀ w : Int32, 0 ≤ (a1 &&& w).toInt ∧ (a1 &&& w).toInt ≤ 255 := fun w => by rw [Int32.and_comm]; have := hn_and (x := w) (y := a1) pa1; omega
  have U0 : uf_W uM6 A A := uf_W.rfl
  have L84 : ∀ (f : Nat) (x84_4 : Value) (x84_3 : Int32) (A84 : hs_A) (k : Nat) (bk : k ≤ 8) (ek : x84_3 = Int32.ofNat k) (B84 : hdB2 k a1 (A.2.1 325 q) (A84.2.1 326 q) (huK D x a2)) (V84 : hdV T x A84) (F84 : (A84.1 = A.1 ∧ (A84.2.1 325 = A.2.1 325) ∧ (∀ r, ¬ r = q → A84.2.1 326 r = A.2.1 326 r) ∧ ∀ i, ¬ i = 324 → ¬ i = 326 → ¬ i = T + 8 → A84.2.1 i = A.2.1 i)) (U84 : uf_W uM6 A A84) (H84 : uf_H A84), hpa (f, g) d (some (.int)) hm_t6 84 [.ref 324, .int a1, .int a2, .int x84_3, x84_4] [] A84 P := by
    intro f
    induction f with
    | zero => intros; exact hpa.zero
    | succ f ih84 =>
      intro x84_4 x84_3 A84 k bk ek B84 V84 F84 U84 H84
      subst ek
      have ck := hn_c (n := k) (z := Int32.ofNat k) rfl (by omega)
      refine hpa_iload_nS (by rfl) rfl ?_
      refine hpa_bipush (by rfl) rfl ?_
      refine hpj_cge (by rfl) ck hk_8 (fun q1 => ?_) (fun q1 => ?_)
      ·
        refine hpa_aload_n (by rfl) rfl ?_
        refine hpa_get (v := .ref 326) (by rfl) (by rfl) (by rfl) rfl ?_
        refine hpa_iload_n (by rfl) rfl ?_
        refine hpa_dup2IR (by rfl) ?_
        refine hpx_iald (by rfl) (by rfl) (fun h0v2 h1v2 v2 ev2 => ?_)
        rw [ciq] at ev2
        subst ev2
        refine hpa_iload_n (by rfl) rfl ?_
        refine hpa_ior (by rfl) ?_
        refine hpx_iast (by rfl) (by rfl) (fun A3 h0A3 h1A3 eA3 fA3 gA3 => ?_)
        have UA3 := (U84).ar eA3 fA3 gA3 (by decide +kernel)
        have HA3 := (H84).e (congrArg (fun q => q.2) gA3)
        rw [ciq] at fA3
        have k8 : k = 8 := by omega
        subst k8
        have VA3 : hdV T x A3 := ⟨by rw [gA3]; exact V84.1, fun i hi h3 h6 => by rw [fA3, hup2 (by omega)]; exact V84.2 i hi h3 h6⟩
        have QKA3 : hdQk D x A3 := fun r hr => by
          by_cases s : r = q
          · rw [s, ← ha, fA3, hup1, hup2 (by omega), F84.2.1]; exact B84.fin
          · rw [fA3, hup2 (by omega), hup2 (by omega), F84.2.1, F84.2.2.1 r s]; exact hQ r hr
        refine hpa_iload_n (by rfl) rfl ?_
        refine hpa_aload_n (by rfl) rfl ?_
        refine hpa_get (v := .ref 327) (by rfl) (by rfl) (by rfl) rfl ?_
        refine hpa_iload_n (by rfl) rfl ?_
        refine hpx_iald (by rfl) (by rfl) (fun h0v4 h1v4 v4 ev4 => ?_)
        rw [ciq] at ev4
        subst ev4
        refine hpa_iand (by rfl) ?_
        exact hpa_ireturn (by rfl) rfl (hP _ _ ⟨_, rfl, aw _, by rw [fA3, hup2 (by omega)]; exact B84.and, VA3, QKA3, ⟨eA3.trans F84.1, fun i h1 h2 h3 h4 => by rw [← F84.2.2.2 i h1 h3 h4, fA3]; funext j; exact hup2 (by omega)⟩⟩)
      ·
        refine hpa_iconst (by rfl) rfl ?_
        refine hpa_iload_n (by rfl) rfl ?_
        refine hpa_ishl (by rfl) ?_
        refine hpa_s1 (by rfl) (Or.inr ⟨_, rfl, rfl⟩) rfl ?_
        refine hpa_iload_n (by rfl) rfl ?_
        refine hpa_iload (by rfl) rfl ?_
        refine hpa_iand (by rfl) ?_
        refine hpa_aload_n (by rfl) rfl ?_
        refine hpa_get (v := .ref 326) (by rfl) (by rfl) (by rfl) rfl ?_
        refine hpa_iload_n (by rfl) rfl ?_
        refine hpx_iald (by rfl) (by rfl) (fun h0v5 h1v5 v5 ev5 => ?_)
        rw [ciq] at ev5
        subst ev5
        refine hpa_iconst (by rfl) rfl ?_
        refine hpa_ixor (by rfl) ?_
        refine hpa_iand (by rfl) ?_
        refine hpj_zeq (by rfl) rfl (fun q6 => ?_) (fun q6 => ?_)
        ·
          have nk : ¬ (hub a1 k = true ∧ hub (A.2.1 325 q) k = false) := (hub_ask (by omega)).mp (by rw [← F84.2.1]; exact q6)
          refine hpj_iinc (by rfl) rfl ck hk_1 (by omega) (by omega) (fun _ => rfl) (fun z7 ez7 => ?_)
          refine hpa_goto (by rfl) ?_
          exact ih84 (.int ((Int32.ofNat 1) <<< ((Int32.ofNat k) &&& 31))) z7 A84 (k + 1) (by omega) (huI (by omega) (by omega)) (B84.no (by omega) (Or.inl nk)) V84 F84 U84 H84
        ·
          have yk : hub a1 k = true ∧ hub (A.2.1 325 q) k = false := Classical.not_not.mp (fun u => q6 (by rw [F84.2.1]; exact (hub_ask (by omega)).mpr u))
          refine hpa_aload_n (by rfl) rfl ?_
          refine hpj_getT (by rfl) (by rfl) (by rfl) V84.1 ?_
          refine hpa_iconst (by rfl) rfl ?_
          refine hpa_aload_n (by rfl) rfl ?_
          refine hpa_get (v := .ref 325) (by rfl) (by rfl) (by rfl) rfl ?_
          refine hpa_iload_n (by rfl) rfl ?_
          refine hpa_iload_n (by rfl) rfl ?_
          have hCA84 : hdK T D A84 := hC.uf hT U84 (by decide +kernel)
          refine hpa_call0 (by rfl) (by rfl) (by rfl) (hsT4 hT) (by rfl) (by rfl) (uf_C (X := ug_x218) (j := 218) rfl rfl (ug_L.cons (by rcases hT with rfl | rfl <;> exact uf_rk_ok (by decide +kernel)) (uf_int (ug_L.cons (uf_rk_ok (by decide +kernel)) (uf_int (uf_int uf_nil))))) H84 (hP14k (q := 0) (Int32.ofNat 0) (Int32.ofNat k) a2 hT hCA84 V84 (by omega) hk_0)) ?_
          rintro _ A8 ⟨⟨z9, rfl, Z_A8, F_A8, V_A8⟩, wA8, HA8⟩
          have UA8 := (U84).trans (wA8.le (by decide +kernel : ug_wle ug_x218.2.2.2.1 uM6 = true))
          have F84A8 : (A8.1 = A.1 ∧ (A8.2.1 325 = A.2.1 325) ∧ (∀ r, ¬ r = q → A8.2.1 326 r = A.2.1 326 r) ∧ ∀ i, ¬ i = 324 → ¬ i = 326 → ¬ i = T + 8 → A8.2.1 i = A.2.1 i) := ⟨F_A8.1.trans F84.1, by rw [F_A8.2.2 325 (by omega) (by omega)]; exact F84.2.1, fun r hr => by rw [F_A8.2.2 326 (by omega) (by omega)]; exact F84.2.2.1 r hr, fun i h1 h2 h3 => by rw [F_A8.2.2 i h1 h3]; exact F84.2.2.2 i h1 h2 h3⟩
          have B84A8 : hdB2 k a1 (A.2.1 325 q) (A8.2.1 326 q) (huK D x a2) := by rw [F_A8.2.2 326 (by omega) (by omega)]; exact B84
          refine hpj_zle (by rfl) rfl (fun q10 => ?_) (fun q10 => ?_)
          ·
            have kn : huK D x a2 k = false := decide_eq_false (by rw [← Z_A8]; omega)
            refine hpj_iinc (by rfl) rfl ck hk_1 (by omega) (by omega) (fun _ => rfl) (fun z11 ez11 => ?_)
            refine hpa_goto (by rfl) ?_
            exact ih84 (.int ((Int32.ofNat 1) <<< ((Int32.ofNat k) &&& 31))) z11 A8 (k + 1) (by omega) (huI (by omega) (by omega)) (B84A8.no (by omega) (Or.inr kn)) V_A8 F84A8 UA8 HA8
          ·
            have ky : huK D x a2 k = true := decide_eq_true (by rw [← Z_A8]; omega)
            refine hpa_aload_n (by rfl) rfl ?_
            refine hpa_get (v := .ref 327) (by rfl) (by rfl) (by rfl) rfl ?_
            refine hpa_iload_n (by rfl) rfl ?_
            refine hpa_dup2IR (by rfl) ?_
            refine hpx_iald (by rfl) (by rfl) (fun h0v12 h1v12 v12 ev12 => ?_)
            rw [ciq] at ev12
            subst ev12
            refine hpa_iload (by rfl) rfl ?_
            refine hpa_ior (by rfl) ?_
            refine hpx_iast (by rfl) (by rfl) (fun A13 h0A13 h1A13 eA13 fA13 gA13 => ?_)
            have UA13 := (UA8).ar eA13 fA13 gA13 (by decide +kernel)
            have HA13 := (HA8).e (congrArg (fun q => q.2) gA13)
            rw [ciq] at fA13
            have VA13 : hdV T x A13 := ⟨by rw [gA13]; exact V_A8.1, fun i hi h3 h6 => by rw [fA13, hup2 (by omega)]; exact V_A8.2 i hi h3 h6⟩
            have F84A13 : (A13.1 = A.1 ∧ (A13.2.1 325 = A.2.1 325) ∧ (∀ r, ¬ r = q → A13.2.1 326 r = A.2.1 326 r) ∧ ∀ i, ¬ i = 324 → ¬ i = 326 → ¬ i = T + 8 → A13.2.1 i = A.2.1 i) := ⟨eA13.trans F84A8.1, by rw [← F84A8.2.1, fA13]; funext j; exact hup2 (by omega), fun r hr => by rw [fA13, hup2 (by omega)]; exact F84A8.2.2.1 r hr, fun i h1 h2 h3 => by rw [← F84A8.2.2.2 i h1 h2 h3, fA13]; funext j; exact hup2 (by omega)⟩
            have B84A13 : hdB2 (k + 1) a1 (A.2.1 325 q) (A13.2.1 326 q) (huK D x a2) := by rw [fA13, hup1]; exact B84A8.yes (by omega) yk.1 yk.2 ky
            refine hpj_iinc (by rfl) rfl ck hk_1 (by omega) (by omega) (fun _ => rfl) (fun z14 ez14 => ?_)
            refine hpa_goto (by rfl) ?_
            exact ih84 (.int ((Int32.ofNat 1) <<< ((Int32.ofNat k) &&& 31))) z14 A13 (k + 1) (by omega) (huI (by omega) (by omega)) B84A13 VA13 F84A13 UA13 HA13
  refine hpa_iload_n (by rfl) rfl ?_
  refine hpa_aload_n (by rfl) rfl ?_
  refine hpa_get (v := .ref 326) (by rfl) (by rfl) (by rfl) rfl ?_
  refine hpa_iload_n (by rfl) rfl ?_
  refine hpx_iald (by rfl) (by rfl) (fun h0v15 h1v15 v15 ev15 => ?_)
  rw [ciq] at ev15
  subst ev15
  refine hpa_iconst (by rfl) rfl ?_
  refine hpa_ixor (by rfl) ?_
  refine hpa_iand (by rfl) ?_
  refine hpj_zne (by rfl) rfl (fun q16 => ?_) (fun q16 => ?_)
  ·
    refine hpa_aload_n (by rfl) rfl ?_
    refine hpj_getT (by rfl) (by rfl) (by rfl) hV.1 ?_
    refine hpa_iconst (by rfl) rfl ?_
    refine hpa_iconst (by rfl) rfl ?_
    refine hpa_call0 (by rfl) (by rfl) (by rfl) (hsT4 hT) (by rfl) (by rfl) (uf_C (X := ug_x216) (j := 216) rfl rfl (ug_L.cons (by rcases hT with rfl | rfl <;> exact uf_rk_ok (by decide +kernel)) (uf_int (uf_int uf_nil))) hH0 (hP11 (q := 0) (Int32.ofNat 0) (Int32.ofNat 3) hT hC (by omega) hk_0 rfl)) ?_
    rintro _ _ ⟨⟨rfl, z18, rfl, (fz_A17 | ⟨fz_A17, NP_A17⟩)⟩, -, -⟩
    ·
      refine hpj_zne (by rfl) rfl (fun q19 => ?_) (fun q19 => False.elim (by omega))
      refine hpa_iconst (by rfl) rfl ?_
      refine hpa_s1 (by rfl) (Or.inl ⟨_, rfl, rfl⟩) rfl ?_
      exact L84 _ (.retAddr 0) (Int32.ofNat 0) A 0 (by omega) rfl QA.two hV ⟨rfl, rfl, fun _ _ => rfl, fun _ _ _ _ => rfl⟩ U0 hH0
    ·
      refine hpj_zne (by rfl) rfl (fun q20 => False.elim (by omega)) (fun q20 => ?_)
      refine hpa_aload_n (by rfl) rfl ?_
      refine hpa_get (v := .ref 326) (by rfl) (by rfl) (by rfl) rfl ?_
      refine hpa_iload_n (by rfl) rfl ?_
      refine hpa_sipush (by rfl) rfl ?_
      refine hpx_iast (by rfl) (by rfl) (fun A21 h0A21 h1A21 eA21 fA21 gA21 => ?_)
      have UA21 := (U0).ar eA21 fA21 gA21 (by decide +kernel)
      have HA21 := (hH0).e (congrArg (fun q => q.2) gA21)
      rw [ciq] at fA21
      have VA21 : hdV T x A21 := ⟨by rw [gA21]; exact hV.1, fun i hi h3 h6 => by rw [fA21, hup2 (by omega)]; exact hV.2 i hi h3 h6⟩
      refine hpa_aload_n (by rfl) rfl ?_
      refine hpa_get (v := .ref 327) (by rfl) (by rfl) (by rfl) rfl ?_
      refine hpa_iload_n (by rfl) rfl ?_
      refine hpa_aload_n (by rfl) rfl ?_
      refine hpj_getT (by rfl) (by rfl) (by rfl) VA21.1 ?_
      refine hpa_iconst (by rfl) rfl ?_
      refine hpa_aload_n (by rfl) rfl ?_
      refine hpa_get (v := .ref 325) (by rfl) (by rfl) (by rfl) rfl ?_
      refine hpa_iconst (by rfl) rfl ?_
      refine hpa_iload_n (by rfl) rfl ?_
      have hCA21 : hdK T D A21 := hC.uf hT UA21 (by decide +kernel)
      refine hpa_call0 (by rfl) (by rfl) (by rfl) (hsT4 hT) (by rfl) (by rfl) (uf_C (X := ug_x218) (j := 218) rfl rfl (ug_L.cons (by rcases hT with rfl | rfl <;> exact uf_rk_ok (by decide +kernel)) (uf_int (ug_L.cons (uf_rk_ok (by decide +kernel)) (uf_int (uf_int uf_nil))))) HA21 (hP14k (q := 0) (Int32.ofNat 0) (Int32.ofNat 0) a2 hT hCA21 VA21 (by omega) hk_0)) ?_
      rintro _ A22 ⟨⟨z23, rfl, Z_A22, F_A22, V_A22⟩, wA22, HA22⟩
      have UA22 := (UA21).trans (wA22.le (by decide +kernel : ug_wle ug_x218.2.2.2.1 uM6 = true))
      obtain ⟨f3, np⟩ := NP_A17
      have KA : ∀ p, p < 8 → huK D x a2 p = decide (0 < (z23).toInt) := fun p _ => by unfold huK; rw [Z_A22, huL_np (a := Int32.ofNat p) (b := Int32.ofNat 0) np]
      refine hpj_zle (by rfl) rfl (fun q24 => ?_) (fun q24 => ?_)
      ·
        have K62 : ∀ p, p < 8 → huK D x a2 p = false := fun p hp => (KA p hp).trans (decide_eq_false (by omega))
        refine hpa_iconst (by rfl) rfl ?_
        refine hpx_iast (by rfl) (by rfl) (fun A25 h0A25 h1A25 eA25 fA25 gA25 => ?_)
        have UA25 := (UA22).ar eA25 fA25 gA25 (by decide +kernel)
        have HA25 := (HA22).e (congrArg (fun q => q.2) gA25)
        rw [ciq] at fA25
        have VA25 : hdV T x A25 := ⟨by rw [gA25]; exact V_A22.1, fun i hi h3 h6 => by rw [fA25, hup2 (by omega)]; exact V_A22.2 i hi h3 h6⟩
        have BA25 : hdB1 (A25.2.1 325 q) (A25.2.1 326 q) (huK D x a2) := by
          rw [fA25, hup2 (by omega), hup1, F_A22.2.2 325 (by omega) (by omega), fA21, hup1]
          exact hdB1.all K62 (by rfl)
        have QKA25 : hdQk D x A25 := fun r hr => by
          by_cases s : r = q
          · rw [s, ← ha]; exact BA25
          · rw [fA25, hup2 (by omega), hup2 (by omega), F_A22.2.2 325 (by omega) (by omega), F_A22.2.2 326 (by omega) (by omega), fA21, hup2 (by omega), hup2 (by omega)]; exact hQ r hr
        refine hpa_iload_n (by rfl) rfl ?_
        refine hpa_aload_n (by rfl) rfl ?_
        refine hpa_get (v := .ref 327) (by rfl) (by rfl) (by rfl) rfl ?_
        refine hpa_iload_n (by rfl) rfl ?_
        refine hpx_iald (by rfl) (by rfl) (fun h0v26 h1v26 v26 ev26 => ?_)
        rw [ciq] at ev26
        subst ev26
        refine hpa_iand (by rfl) ?_
        exact hpa_ireturn (by rfl) rfl (hP _ _ ⟨_, rfl, aw _, fun p hp => by rw [hub_and, (BA25 p hp).1 (by rw [fA25, hup2 (by omega), F_A22.2.2 325 (by omega) (by omega), fA21, hup1]; exact hub_255 p hp)], VA25, QKA25, ⟨eA25.trans (F_A22.1.trans eA21), fun i h1 h2 h3 h4 => by rw [fA25]; funext j; rw [hup2 (by omega), F_A22.2.2 i h1 h4, fA21, hup2 (by omega)]⟩⟩)
      ·
        have K62 : ∀ p, p < 8 → huK D x a2 p = true := fun p hp => (KA p hp).trans (decide_eq_true (by omega))
        refine hpa_sipush (by rfl) rfl ?_
        refine hpa_goto (by rfl) ?_
        refine hpx_iast (by rfl) (by rfl) (fun A27 h0A27 h1A27 eA27 fA27 gA27 => ?_)
        have UA27 := (UA22).ar eA27 fA27 gA27 (by decide +kernel)
        have HA27 := (HA22).e (congrArg (fun q => q.2) gA27)
        rw [ciq] at fA27
        have VA27 : hdV T x A27 := ⟨by rw [gA27]; exact V_A22.1, fun i hi h3 h6 => by rw [fA27, hup2 (by omega)]; exact V_A22.2 i hi h3 h6⟩
        have BA27 : hdB1 (A27.2.1 325 q) (A27.2.1 326 q) (huK D x a2) := by
          rw [fA27, hup2 (by omega), hup1, F_A22.2.2 325 (by omega) (by omega), fA21, hup1]
          exact hdB1.all K62 (by rfl)
        have QKA27 : hdQk D x A27 := fun r hr => by
          by_cases s : r = q
          · rw [s, ← ha]; exact BA27
          · rw [fA27, hup2 (by omega), hup2 (by omega), F_A22.2.2 325 (by omega) (by omega), F_A22.2.2 326 (by omega) (by omega), fA21, hup2 (by omega), hup2 (by omega)]; exact hQ r hr
        refine hpa_iload_n (by rfl) rfl ?_
        refine hpa_aload_n (by rfl) rfl ?_
        refine hpa_get (v := .ref 327) (by rfl) (by rfl) (by rfl) rfl ?_
        refine hpa_iload_n (by rfl) rfl ?_
        refine hpx_iald (by rfl) (by rfl) (fun h0v28 h1v28 v28 ev28 => ?_)
        rw [ciq] at ev28
        subst ev28
        refine hpa_iand (by rfl) ?_
        exact hpa_ireturn (by rfl) rfl (hP _ _ ⟨_, rfl, aw _, fun p hp => by rw [hub_and, (BA27 p hp).1 (by rw [fA27, hup2 (by omega), F_A22.2.2 325 (by omega) (by omega), fA21, hup1]; exact hub_255 p hp)], VA27, QKA27, ⟨eA27.trans (F_A22.1.trans eA21), fun i h1 h2 h3 h4 => by rw [fA27]; funext j; rw [hup2 (by omega), F_A22.2.2 i h1 h4, fA21, hup2 (by omega)]⟩⟩)
  ·
    have q10 := q16
    refine hpa_iload_n (by rfl) rfl ?_
    refine hpa_aload_n (by rfl) rfl ?_
    refine hpa_get (v := .ref 327) (by rfl) (by rfl) (by rfl) rfl ?_
    refine hpa_iload_n (by rfl) rfl ?_
    refine hpx_iald (by rfl) (by rfl) (fun h0v29 h1v29 v29 ev29 => ?_)
    rw [ciq] at ev29
    subst ev29
    refine hpa_iand (by rfl) ?_
    exact hpa_ireturn (by rfl) rfl (hP _ _ ⟨_, rfl, aw _, QA.and q10, hV, hQ, rfl, fun _ _ _ _ _ => rfl⟩)
theorem hP6 {g d : Nat} {A : hs_A} {T : Nat} {D : hg_D} {x : Nat → Int32} {q : Nat} (a1 a2 : Int32) (hT : hTT T) (hC : hdK T D A) (hV : hdV T x A) (hQ : hdQk D x A) (hq : q ≤ 8) (ha : a2 = Int32.ofNat q) (pa1 : 0 ≤ a1.toInt) (qa1 : a1.toInt ≤ 255) (hH0 : uf_H A) : hpC g d 6 hm_m6 [.ref 324, .int a1, .int a2] A (fun r A' => ∃ z : Int32, r = some (.int z) ∧ (0 ≤ z.toInt ∧ z.toInt ≤ 255) ∧ (∀ p, p < 8 → hub z p = (hub a1 p && huK D x a2 p)) ∧ hdV T x A' ∧ hdQk D x A' ∧ (A'.1 = A.1 ∧ ∀ i, ¬ i = 324 → ¬ i = 325 → ¬ i = 326 → ¬ i = T + 8 → A'.2.1 i = A.2.1 i)) := hpC.all (fun f d => hW6 a1 a2 hT hC hV hQ hq ha pa1 qa1 hH0 (fun r A' h => h))
def uM5 : Nat := 107839786668602559178668060348078522694548577690162323701411646800896
theorem hW5 {g d f : Nat} {A : hs_A} {T : Nat} {D : hg_D} {x : Nat → Int32} (a1 : Int32) (hT : hTT T) (hC : hdK T D A) (hS : hdS T D x A) (pa1 : 0 ≤ a1.toInt) (qa1 : a1.toInt ≤ 255) (hH0 : uf_H A) {P : Option Value → hs_A → Prop} (hP : ∀ (r : Option Value) (A' : hs_A), (∃ z : Int32, r = some (.int z) ∧ z = huW D x a1 ∧ hdS T D x A' ∧ ((∀ i k, ¬ (i = 323 ∧ k = 4) → A'.1 i k = A.1 i k) ∧ ∀ i, ¬ i = 324 → ¬ i = 325 → ¬ i = 326 → ¬ i = 327 → ¬ i = T + 8 → A'.2.1 i = A.2.1 i)) → P r A') : hpa (f, g) d (some (.int)) hm_t5 0 [.ref 324, .int a1, .retAddr 0, .retAddr 0, .retAddr 0] [] A P := by
  have k255 := hk_255
  have k8 := hk_8
  have hT9 : T ≤ 11 := by rcases hT with rfl | rfl <;> omega
  have b8 := huB_8 pa1 qa1
  have c8 := hn_cn (j := huB 10 a1) b8.1
  have hV := hS.1
  have U0 : uf_W uM5 A A := uf_W.rfl
  refine hpa_iload_n (by rfl) rfl ?_
  refine hpa_sipush (by rfl) rfl ?_
  refine hpa_iand (by rfl) ?_
  rw [hs_and255 pa1 qa1]
  refine hpa_call2 (by rfl) (by decide) (by rfl) (by rfl) (by rfl) (uf_C (X := ug_x108) (j := 108) rfl rfl (uf_int uf_nil) hH0 (hP242 a1 (by omega) (by omega))) ?_
  rintro _ _ ⟨⟨rfl, z2, rfl, Z_A1⟩, -, -⟩
  subst Z_A1
  refine hpa_s1 (by rfl) (Or.inl ⟨_, rfl, rfl⟩) rfl ?_
  refine hpa_aload_n (by rfl) rfl ?_
  refine hpa_iload_n (by rfl) rfl ?_
  refine hpa_sipush (by rfl) rfl ?_
  refine hpa_iand (by rfl) ?_
  rw [hs_and255 pa1 qa1]
  refine hpa_iload_n (by rfl) rfl ?_
  refine hpa_call0 (by rfl) (by rfl) (by rfl) (by rfl) (by rfl) (by rfl) (uf_C (X := ug_x182) (j := 182) rfl rfl (ug_L.cons (uf_rk_ok (by decide +kernel)) (uf_int (uf_int uf_nil))) hH0 (hP6 (q := (huB 10 a1).toNatClampNeg) a1 (huB 10 a1) hT hC hV hS.2.1 (by omega) (hI32 b8.1 (by omega)) (by omega) (by omega) hH0)) ?_
  rintro _ A3 ⟨⟨z4, rfl, IN_A3, BT_A3, VV_A3, QK_A3, FR_A3⟩, wA3, HA3⟩
  have UA3 := (U0).trans (wA3.le (by decide +kernel : ug_wle ug_x182.2.2.2.1 uM5 = true))
  have QTA3 : hdQt D x A3 := fun r hr => by rw [FR_A3.2 327 (by omega) (by omega) (by omega) (by omega)]; exact hS.2.2.1 r hr
  have QHA3 : hdQh D x A3 := by unfold hdQh; rw [FR_A3.1]; exact hS.2.2.2
  refine hpa_s1 (by rfl) (Or.inl ⟨_, rfl, rfl⟩) rfl ?_
  refine hpa_iload_n (by rfl) rfl ?_
  refine hpj_zeq (by rfl) rfl (fun q5 => ?_) (fun q5 => ?_)
  ·
    refine hpa_iload_n (by rfl) rfl ?_
    refine hpa_aload_n (by rfl) rfl ?_
    have hCA3 : hdK T D A3 := hC.uf hT UA3 (by decide +kernel)
    refine hpa_call0 (by rfl) (by rfl) (by rfl) (by rfl) (by rfl) (by rfl) (uf_C (X := ug_x191) (j := 191) rfl rfl (ug_L.cons (uf_rk_ok (by decide +kernel)) uf_nil) HA3 (hP3 hT hCA3 VV_A3 QHA3 HA3)) ?_
    rintro _ A6 ⟨⟨z7, rfl, Z_A6, VV_A6, QH_A6, FR_A6⟩, wA6, HA6⟩
    have UA6 := (UA3).trans (wA6.le (by decide +kernel : ug_wle ug_x191.2.2.2.1 uM5 = true))
    subst Z_A6
    have QKA6 : hdQk D x A6 := fun r hr => by rw [FR_A6.2 325 (by omega) (by omega), FR_A6.2 326 (by omega) (by omega)]; exact QK_A3 r hr
    have QTA6 : hdQt D x A6 := fun r hr => by rw [FR_A6.2 327 (by omega) (by omega)]; exact QTA3 r hr
    refine hpa_ior (by rfl) ?_
    exact hpa_ireturn (by rfl) rfl (hP _ _ ⟨_, rfl, by unfold huW; rw [huP_no (n := 8) (fun p hp => by show (hub a1 p && huK D x (huB 10 a1) p) = false; rw [← BT_A3 p hp]; exact hub_z q5), huI (n := 0) q5 (by decide), hs_orc], ⟨VV_A6, QKA6, QTA6, QH_A6⟩, ⟨fun i k h => by rw [FR_A6.1 i k h, FR_A3.1], fun i h1 h2 h3 h4 h5 => by rw [FR_A6.2 i h1 h5, FR_A3.2 i h1 h2 h3 h5]⟩⟩)
  ·
    refine hpa_aload_n (by rfl) rfl ?_
    refine hpa_iload_n (by rfl) rfl ?_
    have hCA3 : hdK T D A3 := hC.uf hT UA3 (by decide +kernel)
    refine hpa_call0 (by rfl) (by rfl) (by rfl) (by rfl) (by rfl) (by rfl) (uf_C (X := ug_x193) (j := 193) rfl rfl (ug_L.cons (uf_rk_ok (by decide +kernel)) (uf_int uf_nil)) HA3 (hP2 (q := (huB 10 a1).toNatClampNeg) (huB 10 a1) hT hCA3 VV_A3 QTA3 (by omega) (hI32 b8.1 (by omega)) HA3)) ?_
    rintro _ A8 ⟨⟨z9, rfl, Z_A8, VV_A8, QT_A8, FR_A8⟩, wA8, HA8⟩
    have UA8 := (UA3).trans (wA8.le (by decide +kernel : ug_wle ug_x193.2.2.2.1 uM5 = true))
    subst Z_A8
    have QKA8 : hdQk D x A8 := fun r hr => by rw [FR_A8.2 325 (by omega) (by omega) (by omega), FR_A8.2 326 (by omega) (by omega) (by omega)]; exact QK_A3 r hr
    have QHA8 : hdQh D x A8 := by unfold hdQh; rw [FR_A8.1]; exact QHA3
    refine hpa_s1 (by rfl) (Or.inr ⟨_, rfl, rfl⟩) rfl ?_
    refine hpa_iload_n (by rfl) rfl ?_
    refine hpa_iload (by rfl) rfl ?_
    refine hpa_ishl (by rfl) ?_
    refine hpa_iload_n (by rfl) rfl ?_
    refine hpa_bipush (by rfl) rfl ?_
    refine hpa_iload (by rfl) rfl ?_
    refine hpa_isub (by rfl) ?_
    refine hpa_ishr (by rfl) ?_
    refine hpa_ior (by rfl) ?_
    refine hpa_sipush (by rfl) rfl ?_
    refine hpa_iand (by rfl) ?_
    rw [huP_rot IN_A3.1 IN_A3.2 huT_in.1 huT_in.2]
    refine hpa_s1 (by rfl) (Or.inl ⟨_, rfl, rfl⟩) rfl ?_
    refine hpa_iload_n (by rfl) rfl ?_
    refine hpa_aload_n (by rfl) rfl ?_
    have hCA8 : hdK T D A8 := hC.uf hT UA8 (by decide +kernel)
    refine hpa_call0 (by rfl) (by rfl) (by rfl) (by rfl) (by rfl) (by rfl) (uf_C (X := ug_x191) (j := 191) rfl rfl (ug_L.cons (uf_rk_ok (by decide +kernel)) uf_nil) HA8 (hP3 hT hCA8 VV_A8 QHA8 HA8)) ?_
    rintro _ A10 ⟨⟨z11, rfl, Z_A10, VV_A10, QH_A10, FR_A10⟩, wA10, HA10⟩
    have UA10 := (UA8).trans (wA10.le (by decide +kernel : ug_wle ug_x191.2.2.2.1 uM5 = true))
    subst Z_A10
    have QKA10 : hdQk D x A10 := fun r hr => by rw [FR_A10.2 325 (by omega) (by omega), FR_A10.2 326 (by omega) (by omega)]; exact QKA8 r hr
    have QTA10 : hdQt D x A10 := fun r hr => by rw [FR_A10.2 327 (by omega) (by omega)]; exact QT_A8 r hr
    refine hpa_ior (by rfl) ?_
    exact hpa_ireturn (by rfl) rfl (hP _ _ ⟨_, rfl, by rw [hs_orc]; unfold huW; rw [huP_cg (n := 8) BT_A3], ⟨VV_A10, QKA10, QTA10, QH_A10⟩, ⟨fun i k h => by rw [FR_A10.1 i k h, FR_A8.1, FR_A3.1], fun i h1 h2 h3 h4 h5 => by rw [FR_A10.2 i h1 h5, FR_A8.2 i h1 h4 h5, FR_A3.2 i h1 h2 h3 h5]⟩⟩)
theorem hP5 {g d : Nat} {A : hs_A} {T : Nat} {D : hg_D} {x : Nat → Int32} (a1 : Int32) (hT : hTT T) (hC : hdK T D A) (hS : hdS T D x A) (pa1 : 0 ≤ a1.toInt) (qa1 : a1.toInt ≤ 255) (hH0 : uf_H A) : hpC g d 5 hm_m5 [.ref 324, .int a1] A (fun r A' => ∃ z : Int32, r = some (.int z) ∧ z = huW D x a1 ∧ hdS T D x A' ∧ ((∀ i k, ¬ (i = 323 ∧ k = 4) → A'.1 i k = A.1 i k) ∧ ∀ i, ¬ i = 324 → ¬ i = 325 → ¬ i = 326 → ¬ i = 327 → ¬ i = T + 8 → A'.2.1 i = A.2.1 i)) := hpC.all (fun f d => hW5 a1 hT hC hS pa1 qa1 hH0 (fun r A' h => h))
