theorem hW246 {g d f : Nat} {A : hs_A} {C m : Nat} (hC0 : hc_get hs_sh C = some (0, 1, [m])) (hm : m < 2000) (a2 : Int32) {P : Option Value → hs_A → Prop} (hP : ∀ (r : Option Value) (A' : hs_A), (r = none ∧ ((A'.1 = A.1 ∧ A'.2.2 = A.2.2 ∧ (∀ i, ¬ i = C → A'.2.1 i = A.2.1 i) ∧ ∀ j, j < m → A'.2.1 C j = a2))) → P r A') : hpa (f, g) d none hm_t246 0 [.ref (C + 1), .int a2, .retAddr 0, .retAddr 0] [] A P := by
  have k0 := hk_0
  have k1 := hk_1
  have cm := hn_c (n := m) (z := Int32.ofNat m) rfl (by omega)
  have L5 : ∀ (f : Nat) (x5_2 : Int32) (A5 : hs_A) (k : Nat) (bk : k ≤ m) (ek : x5_2 = Int32.ofNat k) (F5 : (A5.1 = A.1 ∧ A5.2.2 = A.2.2 ∧ (∀ i, ¬ i = C → A5.2.1 i = A.2.1 i) ∧ ∀ j, j < k → A5.2.1 C j = a2)), hpa (f, g) d none hm_t246 5 [.ref (C + 1), .int a2, .int x5_2, .int (Int32.ofNat m)] [] A5 P := by
    intro f
    induction f with
    | zero => intros; exact hpa.zero
    | succ f ih5 =>
      intro x5_2 A5 k bk ek F5
      subst ek
      have ck := hn_c (n := k) (z := Int32.ofNat k) rfl (by omega)
      refine hpa_iload_nS (by rfl) rfl ?_
      refine hpa_iload_n (by rfl) rfl ?_
      refine hpj_cge (by rfl) ck cm (fun q1 => ?_) (fun q1 => ?_)
      ·
        exact hpa_return (by rfl) rfl (hP _ _ ⟨rfl, F5.1, F5.2.1, F5.2.2.1, fun j hj => F5.2.2.2 j (by omega)⟩)
      ·
        refine hpa_aload_n (by rfl) rfl ?_
        refine hpa_iload_n (by rfl) rfl ?_
        refine hpa_iload_n (by rfl) rfl ?_
        refine hpx_iast (by rfl) hC0 (fun A2 h0A2 h1A2 eA2 fA2 gA2 => ?_)
        refine hpj_iinc (by rfl) rfl ck hk_1 (by omega) (by omega) (fun _ => rfl) (fun z3 ez3 => ?_)
        refine hpa_goto (by rfl) ?_
        exact ih5 z3 A2 (k + 1) (by omega) (huI (by omega) (by omega)) (by rw [show ((Int32.ofNat k)).toNatClampNeg = k from by have := hn_cn (j := (Int32.ofNat k)) (by omega); omega] at fA2; exact ⟨eA2.trans F5.1, gA2.trans F5.2.1, fun i hi => by rw [← F5.2.2.1 i hi, fA2]; funext j; exact hup2 (by omega), fun j hj => by rw [fA2]; by_cases s : j = k; (rw [s, hup1]); rw [hup2 (by omega)]; exact F5.2.2.2 j (by omega)⟩)
  refine hpa_iconst (by rfl) rfl ?_
  refine hpa_s1 (by rfl) (Or.inl ⟨_, rfl, rfl⟩) rfl ?_
  refine hpa_aload_n (by rfl) rfl ?_
  refine hpa_alen (by rfl) (by rfl) hC0 ?_
  refine hpa_s1 (by rfl) (Or.inl ⟨_, rfl, rfl⟩) rfl ?_
  exact L5 _ (Int32.ofNat 0) A 0 (by omega) rfl ⟨rfl, rfl, fun _ _ => rfl, fun j hj => absurd hj (Nat.not_lt_zero j)⟩
theorem hP246 {g d : Nat} {A : hs_A} {C m : Nat} (hC0 : hc_get hs_sh C = some (0, 1, [m])) (hm : m < 2000) (a2 : Int32) : hpC g d 246 hm_m246 [.ref (C + 1), .int a2] A (fun r A' => r = none ∧ ((A'.1 = A.1 ∧ A'.2.2 = A.2.2 ∧ (∀ i, ¬ i = C → A'.2.1 i = A.2.1 i) ∧ ∀ j, j < m → A'.2.1 C j = a2))) := hpC.all (fun f d => hW246 hC0 hm a2 (fun r A' h => h))
theorem huX_v {H : Int32} {ro : Nat → Int32} {h : Nat} {t : Int32} (c : (Int32.ofNat h).toNatClampNeg = h) : huX H ro (Int32.ofNat h) t 4 = huB 10 (ro h) ∧ huX H ro (Int32.ofNat h) t 5 = ro (10 + h) ∧ huX H ro (Int32.ofNat h) t 8 = huB 10 (ro (40 + h)) := by
  refine ⟨?_, ?_, ?_⟩
  · show huB 10 (ro (Int32.ofNat h).toNatClampNeg) = _
    rw [c]
  · show ro (10 + (Int32.ofNat h).toNatClampNeg) = _
    rw [c]
  · show huB 10 (ro (40 + (Int32.ofNat h).toNatClampNeg)) = _
    rw [c]
def uM1_26 : Nat := 323519360005807677536004181044235568083645733070486903550240528269312
theorem hW1_26 {g d f : Nat} {A : hs_A} {T : Nat} {D : hg_D} {ro : Nat → Int32} {n : Nat} {h : Nat} (a1 a2 : Int32) (hT : hTT T) (hC : hdK T D A) (hL : hdL 26 ro n A) (hO : huO ro n) (hh : h < n) (ha : a1 = Int32.ofNat h) (hTn : (A.1 T 4).toInt = (n : Int)) (hH0 : uf_H A) {P : Option Value → hs_A → Prop} (hP : ∀ (r : Option Value) (A' : hs_A), (r = none ∧ (hdS T D (huX (Int32.ofNat n) ro a1 a2) A' ∧ ((∀ i k, ¬ (i = 323 ∧ k = 4) → A'.1 i k = A.1 i k) ∧ ∀ i, ¬ i = 324 → ¬ i = 325 → ¬ i = 326 → ¬ i = 327 → A'.2.1 i = A.2.1 i))) → P r A') : hpa (f, g) d none hm_t1 0 [.ref 324, .ref (T + 1), .ref 27, .int a1, .int a2] [] A P := by
  have k0 := hk_0
  have k1 := hk_1
  have k2 := hk_2
  have k24 := hk_24
  have k4 := hk_4
  have k4294967295 := hk_4294967295
  have k5 := hk_5
  have k7 := hk_7
  have k8 := hk_8
  have hT9 : T ≤ 11 := by rcases hT with rfl | rfl <;> omega
  have hn10 := hL.1
  have ch := hn_c (n := h) (z := Int32.ofNat h) rfl (by omega)
  have cah : a1.toInt = (h : Int) := by rw [ha]; exact ch
  have cih : a1.toNatClampNeg = h := by have := hn_cn (j := a1) (by omega); omega
  have oh := hO.1 h hh
  obtain ⟨xv4, xv5, xv8⟩ := huX_v (H := Int32.ofNat n) (ro := ro) (h := h) (t := a2) (by rw [← ha]; exact cih)
  rw [← ha] at xv4 xv5 xv8
  have U0 : uf_W uM1_26 A A := uf_W.rfl
  refine hpa_aload_n (by rfl) rfl ?_
  refine hpa_aload_n (by rfl) rfl ?_
  refine hpa_get (v := .ref (T + 5)) (by rfl) (hsT hT) (by rfl) (hvT hT (by omega)) ?_
  refine hpj_putR (by rfl) (by rfl) (by rfl) (by rcases hT with rfl | rfl <;> rfl) (fun A1 eA1 fA1 gA1 iA1 => ?_)
  have UA1 : uf_W uM1_26 A A1 := uf_putl eA1 fA1 gA1 iA1 (by decide +kernel)
  have HA1 : uf_H A1 := hH0.putl hT iA1
  refine hpa_aload_n (by rfl) rfl ?_
  refine hpa_get (v := .ref 325) (by rfl) (by rfl) (by rfl) rfl ?_
  refine hpa_iconst (by rfl) rfl ?_
  refine hpa_iload_n (by rfl) rfl ?_
  refine hpx_iast (by rfl) (by rfl) (fun A2 h0A2 h1A2 eA2 fA2 gA2 => ?_)
  have UA2 := (UA1).ar eA2 fA2 gA2 (by decide +kernel)
  have HA2 := (HA1).e (congrArg (fun q => q.2) gA2)
  rw [show ((Int32.ofNat 0)).toNatClampNeg = 0 from by have := hn_cn (j := (Int32.ofNat 0)) (by omega); omega] at fA2
  refine hpa_aload_n (by rfl) rfl ?_
  refine hpa_get (v := .ref 325) (by rfl) (by rfl) (by rfl) rfl ?_
  refine hpa_iconst (by rfl) rfl ?_
  refine hpa_iload (by rfl) rfl ?_
  refine hpa_bipush (by rfl) rfl ?_
  refine hpa_irem (by rfl) (by decide) ?_
  refine hpx_iast (by rfl) (by rfl) (fun A3 h0A3 h1A3 eA3 fA3 gA3 => ?_)
  have UA3 := (UA2).ar eA3 fA3 gA3 (by decide +kernel)
  have HA3 := (HA2).e (congrArg (fun q => q.2) gA3)
  rw [show ((Int32.ofNat 1)).toNatClampNeg = 1 from by have := hn_cn (j := (Int32.ofNat 1)) (by omega); omega] at fA3
  refine hpa_aload_n (by rfl) rfl ?_
  refine hpa_get (v := .ref 325) (by rfl) (by rfl) (by rfl) rfl ?_
  refine hpa_iconst (by rfl) rfl ?_
  refine hpa_iload (by rfl) rfl ?_
  refine hpa_bipush (by rfl) rfl ?_
  refine hpa_idiv (by rfl) (by decide) ?_
  refine hpx_iast (by rfl) (by rfl) (fun A4 h0A4 h1A4 eA4 fA4 gA4 => ?_)
  have UA4 := (UA3).ar eA4 fA4 gA4 (by decide +kernel)
  have HA4 := (HA3).e (congrArg (fun q => q.2) gA4)
  rw [show ((Int32.ofNat 2)).toNatClampNeg = 2 from by have := hn_cn (j := (Int32.ofNat 2)) (by omega); omega] at fA4
  refine hpa_aload_n (by rfl) rfl ?_
  refine hpa_get (v := .ref 325) (by rfl) (by rfl) (by rfl) rfl ?_
  refine hpa_iconst (by rfl) rfl ?_
  refine hpa_aload_n (by rfl) rfl ?_
  refine hpa_get (v := .ref 28) (by rfl) (by rfl) (by rfl) rfl ?_
  refine hpa_iload_n (by rfl) rfl ?_
  refine hpx_iald (by rfl) (by rfl) (fun h0v5 h1v5 v5 ev5 => ?_)
  have hL26A4 : hdL 26 ro n A4 := hL.uf hLL_26 UA4 (by decide +kernel)
  rw [show (a1).toNatClampNeg = h from by have := hn_cn (j := a1) (by omega); omega] at ev5
  have lv5 := ev5.symm.trans ((hL26A4.2.2.2.2 (h) (by omega)).1.1)
  clear ev5
  subst lv5
  refine hpa_call2 (by rfl) (by decide) (by rfl) (by rfl) (by rfl) (uf_C (X := ug_x108) (j := 108) rfl rfl (uf_int uf_nil) HA4 (hP242 (ro h) (by omega) (by omega))) ?_
  rintro _ _ ⟨⟨rfl, z7, rfl, Z_A6⟩, -, -⟩
  subst Z_A6
  refine hpx_iast (by rfl) (by rfl) (fun A8 h0A8 h1A8 eA8 fA8 gA8 => ?_)
  have UA8 := (UA4).ar eA8 fA8 gA8 (by decide +kernel)
  have HA8 := (HA4).e (congrArg (fun q => q.2) gA8)
  rw [show ((Int32.ofNat 4)).toNatClampNeg = 4 from by have := hn_cn (j := (Int32.ofNat 4)) (by omega); omega] at fA8
  refine hpa_aload_n (by rfl) rfl ?_
  refine hpa_get (v := .ref 325) (by rfl) (by rfl) (by rfl) rfl ?_
  refine hpa_iconst (by rfl) rfl ?_
  refine hpa_aload_n (by rfl) rfl ?_
  refine hpa_get (v := .ref 29) (by rfl) (by rfl) (by rfl) rfl ?_
  refine hpa_iload_n (by rfl) rfl ?_
  refine hpx_iald (by rfl) (by rfl) (fun h0v9 h1v9 v9 ev9 => ?_)
  have hL26A8 : hdL 26 ro n A8 := hL.uf hLL_26 UA8 (by decide +kernel)
  rw [show (a1).toNatClampNeg = h from by have := hn_cn (j := a1) (by omega); omega] at ev9
  have lv9 := ev9.symm.trans ((hL26A8.2.2.2.2 (h) (by omega)).1.2.1)
  clear ev9
  subst lv9
  refine hpx_iast (by rfl) (by rfl) (fun A10 h0A10 h1A10 eA10 fA10 gA10 => ?_)
  have UA10 := (UA8).ar eA10 fA10 gA10 (by decide +kernel)
  have HA10 := (HA8).e (congrArg (fun q => q.2) gA10)
  rw [show ((Int32.ofNat 5)).toNatClampNeg = 5 from by have := hn_cn (j := (Int32.ofNat 5)) (by omega); omega] at fA10
  refine hpa_aload_n (by rfl) rfl ?_
  refine hpa_get (v := .ref 325) (by rfl) (by rfl) (by rfl) rfl ?_
  refine hpa_bipush (by rfl) rfl ?_
  refine hpa_aload_n (by rfl) rfl ?_
  refine hpj_getK (by rfl) (hsT hT) (by rfl) rfl ?_
  have hTnA10 : (A10.1 T 4).toInt = (n : Int) := (congrArg Int32.toInt (hdT4 UA10 hT (by decide +kernel))).trans hTn
  rw [show (A10.1 T 4) = Int32.ofNat n from huI hTnA10 (by omega)]
  refine hpx_iast (by rfl) (by rfl) (fun A11 h0A11 h1A11 eA11 fA11 gA11 => ?_)
  have UA11 := (UA10).ar eA11 fA11 gA11 (by decide +kernel)
  have HA11 := (HA10).e (congrArg (fun q => q.2) gA11)
  rw [show ((Int32.ofNat 7)).toNatClampNeg = 7 from by have := hn_cn (j := (Int32.ofNat 7)) (by omega); omega] at fA11
  refine hpa_aload_n (by rfl) rfl ?_
  refine hpa_get (v := .ref 325) (by rfl) (by rfl) (by rfl) rfl ?_
  refine hpa_bipush (by rfl) rfl ?_
  refine hpa_aload_n (by rfl) rfl ?_
  refine hpa_get (v := .ref 30) (by rfl) (by rfl) (by rfl) rfl ?_
  refine hpa_iload_n (by rfl) rfl ?_
  refine hpx_iald (by rfl) (by rfl) (fun h0v12 h1v12 v12 ev12 => ?_)
  have hL26A11 : hdL 26 ro n A11 := hL.uf hLL_26 UA11 (by decide +kernel)
  rw [show (a1).toNatClampNeg = h from by have := hn_cn (j := a1) (by omega); omega] at ev12
  have lv12 := ev12.symm.trans ((hL26A11.2.2.2.2 (h) (by omega)).1.2.2)
  clear ev12
  subst lv12
  refine hpa_call2 (by rfl) (by decide) (by rfl) (by rfl) (by rfl) (uf_C (X := ug_x108) (j := 108) rfl rfl (uf_int uf_nil) HA11 (hP242 (ro (40 + h)) (by omega) (by omega))) ?_
  rintro _ _ ⟨⟨rfl, z14, rfl, Z_A13⟩, -, -⟩
  subst Z_A13
  refine hpx_iast (by rfl) (by rfl) (fun A15 h0A15 h1A15 eA15 fA15 gA15 => ?_)
  have UA15 := (UA11).ar eA15 fA15 gA15 (by decide +kernel)
  have HA15 := (HA11).e (congrArg (fun q => q.2) gA15)
  rw [show ((Int32.ofNat 8)).toNatClampNeg = 8 from by have := hn_cn (j := (Int32.ofNat 8)) (by omega); omega] at fA15
  have X90 : ∀ i, i < 9 → ¬ i = 3 → ¬ i = 6 → A15.2.1 324 i = huX (Int32.ofNat n) ro a1 a2 i := by
    intro i hi h3 h6
    have hi9 : i = 0 ∨ i = 1 ∨ i = 2 ∨ i = 4 ∨ i = 5 ∨ i = 7 ∨ i = 8 := by omega
    rcases hi9 with rfl | rfl | rfl | rfl | rfl | rfl | rfl
    · rw [fA15, hup2 (by omega), fA11, hup2 (by omega), fA10, hup2 (by omega), fA8, hup2 (by omega), fA4, hup2 (by omega), fA3, hup2 (by omega), fA2, hup1] <;> rfl
    · rw [fA15, hup2 (by omega), fA11, hup2 (by omega), fA10, hup2 (by omega), fA8, hup2 (by omega), fA4, hup2 (by omega), fA3, hup1] <;> rfl
    · rw [fA15, hup2 (by omega), fA11, hup2 (by omega), fA10, hup2 (by omega), fA8, hup2 (by omega), fA4, hup1] <;> rfl
    · rw [fA15, hup2 (by omega), fA11, hup2 (by omega), fA10, hup2 (by omega), fA8, hup1] <;> exact xv4.symm
    · rw [fA15, hup2 (by omega), fA11, hup2 (by omega), fA10, hup1] <;> exact xv5.symm
    · rw [fA15, hup2 (by omega), fA11, hup1] <;> rfl
    · rw [fA15, hup1] <;> exact xv8.symm
  have E90 : ∀ i, ¬ i = 324 → A15.2.1 i = A.2.1 i := fun i hi => by rw [fA15, fA11, fA10, fA8, fA4, fA3, fA2, fA1]; funext j; rw [hup2 (by omega), hup2 (by omega), hup2 (by omega), hup2 (by omega), hup2 (by omega), hup2 (by omega), hup2 (by omega)]
  have C90 : A15.1 = A.1 := (((((((eA15).trans eA11).trans eA10).trans eA8).trans eA4).trans eA3).trans eA2).trans eA1
  have R90 : A15.2.2.2 323 5 = T + 5 := by rw [gA15, gA11, gA10, gA8, gA4, gA3, gA2, iA1, hs_upN1]
  refine hpa_aload_n (by rfl) rfl ?_
  refine hpa_get (v := .ref 326) (by rfl) (by rfl) (by rfl) rfl ?_
  refine hpa_iconst (by rfl) rfl ?_
  refine hpa_call2 (by rfl) (by decide) (by rfl) (by rfl) (by rfl) (uf_C (X := ug_x179) (j := 179) rfl rfl (ug_L.cons (uf_rk_ok (by decide +kernel)) (uf_int uf_nil)) HA15 (hP246 (m := 9) rfl (by decide) (Int32.ofNat 0))) ?_
  rintro _ A16 ⟨⟨rfl, FR_A16⟩, wA16, HA16⟩
  have UA16 := (UA15).trans (wA16.le (by decide +kernel : ug_wle ug_x179.2.2.2.1 uM1_26 = true))
  refine hpa_aload_n (by rfl) rfl ?_
  refine hpa_get (v := .ref 327) (by rfl) (by rfl) (by rfl) rfl ?_
  refine hpa_iconst (by rfl) rfl ?_
  refine hpa_call2 (by rfl) (by decide) (by rfl) (by rfl) (by rfl) (uf_C (X := ug_x180) (j := 180) rfl rfl (ug_L.cons (uf_rk_ok (by decide +kernel)) (uf_int uf_nil)) HA16 (hP246 (m := 9) rfl (by decide) (Int32.ofNat 0))) ?_
  rintro _ A17 ⟨⟨rfl, FR_A17⟩, wA17, HA17⟩
  have UA17 := (UA16).trans (wA17.le (by decide +kernel : ug_wle ug_x180.2.2.2.1 uM1_26 = true))
  refine hpa_aload_n (by rfl) rfl ?_
  refine hpa_get (v := .ref 328) (by rfl) (by rfl) (by rfl) rfl ?_
  refine hpa_iconst (by rfl) rfl ?_
  refine hpa_call2 (by rfl) (by decide) (by rfl) (by rfl) (by rfl) (uf_C (X := ug_x181) (j := 181) rfl rfl (ug_L.cons (uf_rk_ok (by decide +kernel)) (uf_int uf_nil)) HA17 (hP246 (m := 9) rfl (by decide) (Int32.ofNat 4294967295))) ?_
  rintro _ A18 ⟨⟨rfl, FR_A18⟩, wA18, HA18⟩
  have UA18 := (UA17).trans (wA18.le (by decide +kernel : ug_wle ug_x181.2.2.2.1 uM1_26 = true))
  refine hpa_aload_n (by rfl) rfl ?_
  refine hpa_iconst (by rfl) rfl ?_
  refine hpj_putI (by rfl) (by rfl) (by rfl) (by rfl) (fun A19 eA19 fA19 => ?_)
  have UA19 := (UA18).put eA19 fA19 (by decide +kernel)
  have HA19 := (HA18).e (congrArg (fun q => q.2.2) fA19)
  exact hpa_return (by rfl) rfl (hP _ _ ⟨rfl, ⟨⟨by rw [fA19, FR_A18.2.1, FR_A17.2.1, FR_A16.2.1]; exact R90, fun i hi h3 h6 => by rw [fA19, FR_A18.2.2.1 324 (by omega), FR_A17.2.2.1 324 (by omega), FR_A16.2.2.1 324 (by omega)]; exact X90 i hi h3 h6⟩, fun q hq p hp => by rw [fA19, FR_A18.2.2.1 325 (by omega), FR_A17.2.2.1 325 (by omega), FR_A16.2.2.2 q (by omega), FR_A18.2.2.1 326 (by omega), FR_A17.2.2.2 q (by omega), hub_0]; exact ⟨fun u => absurd u (by decide), fun _ => rfl⟩, fun q hq => Or.inl (by rw [fA19, FR_A18.2.2.2 q (by omega)]), Or.inl (by rw [eA19, hup1])⟩, fun i k h => by rw [eA19, hup2 h, FR_A18.1, FR_A17.1, FR_A16.1, C90], fun i h1 h2 h3 h4 => by rw [fA19, FR_A18.2.2.1 i h4, FR_A17.2.2.1 i h3, FR_A16.2.2.1 i h2, E90 i h1]⟩)
theorem hP1_26 {g d : Nat} {A : hs_A} {T : Nat} {D : hg_D} {ro : Nat → Int32} {n : Nat} {h : Nat} (a1 a2 : Int32) (hT : hTT T) (hC : hdK T D A) (hL : hdL 26 ro n A) (hO : huO ro n) (hh : h < n) (ha : a1 = Int32.ofNat h) (hTn : (A.1 T 4).toInt = (n : Int)) (hH0 : uf_H A) : hpC g d 1 hm_m1 [.ref 324, .ref (T + 1), .ref 27, .int a1, .int a2] A (fun r A' => r = none ∧ (hdS T D (huX (Int32.ofNat n) ro a1 a2) A' ∧ ((∀ i k, ¬ (i = 323 ∧ k = 4) → A'.1 i k = A.1 i k) ∧ ∀ i, ¬ i = 324 → ¬ i = 325 → ¬ i = 326 → ¬ i = 327 → A'.2.1 i = A.2.1 i))) := hpC.all (fun f d => hW1_26 a1 a2 hT hC hL hO hh ha hTn hH0 (fun r A' h => h))
def uM1_33 : Nat := 323519360005807677536004181044235568083645733070486903550240528269312
theorem hW1_33 {g d f : Nat} {A : hs_A} {T : Nat} {D : hg_D} {ro : Nat → Int32} {n : Nat} {h : Nat} (a1 a2 : Int32) (hT : hTT T) (hC : hdK T D A) (hL : hdL 33 ro n A) (hO : huO ro n) (hh : h < n) (ha : a1 = Int32.ofNat h) (hTn : (A.1 T 4).toInt = (n : Int)) (hH0 : uf_H A) {P : Option Value → hs_A → Prop} (hP : ∀ (r : Option Value) (A' : hs_A), (r = none ∧ (hdS T D (huX (Int32.ofNat n) ro a1 a2) A' ∧ ((∀ i k, ¬ (i = 323 ∧ k = 4) → A'.1 i k = A.1 i k) ∧ ∀ i, ¬ i = 324 → ¬ i = 325 → ¬ i = 326 → ¬ i = 327 → A'.2.1 i = A.2.1 i))) → P r A') : hpa (f, g) d none hm_t1 0 [.ref 324, .ref (T + 1), .ref 34, .int a1, .int a2] [] A P := by
  have k0 := hk_0
  have k1 := hk_1
  have k2 := hk_2
  have k24 := hk_24
  have k4 := hk_4
  have k4294967295 := hk_4294967295
  have k5 := hk_5
  have k7 := hk_7
  have k8 := hk_8
  have hT9 : T ≤ 11 := by rcases hT with rfl | rfl <;> omega
  have hn10 := hL.1
  have ch := hn_c (n := h) (z := Int32.ofNat h) rfl (by omega)
  have cah : a1.toInt = (h : Int) := by rw [ha]; exact ch
  have cih : a1.toNatClampNeg = h := by have := hn_cn (j := a1) (by omega); omega
  have oh := hO.1 h hh
  obtain ⟨xv4, xv5, xv8⟩ := huX_v (H := Int32.ofNat n) (ro := ro) (h := h) (t := a2) (by rw [← ha]; exact cih)
  rw [← ha] at xv4 xv5 xv8
  have U0 : uf_W uM1_33 A A := uf_W.rfl
  refine hpa_aload_n (by rfl) rfl ?_
  refine hpa_aload_n (by rfl) rfl ?_
  refine hpa_get (v := .ref (T + 5)) (by rfl) (hsT hT) (by rfl) (hvT hT (by omega)) ?_
  refine hpj_putR (by rfl) (by rfl) (by rfl) (by rcases hT with rfl | rfl <;> rfl) (fun A1 eA1 fA1 gA1 iA1 => ?_)
  have UA1 : uf_W uM1_33 A A1 := uf_putl eA1 fA1 gA1 iA1 (by decide +kernel)
  have HA1 : uf_H A1 := hH0.putl hT iA1
  refine hpa_aload_n (by rfl) rfl ?_
  refine hpa_get (v := .ref 325) (by rfl) (by rfl) (by rfl) rfl ?_
  refine hpa_iconst (by rfl) rfl ?_
  refine hpa_iload_n (by rfl) rfl ?_
  refine hpx_iast (by rfl) (by rfl) (fun A2 h0A2 h1A2 eA2 fA2 gA2 => ?_)
  have UA2 := (UA1).ar eA2 fA2 gA2 (by decide +kernel)
  have HA2 := (HA1).e (congrArg (fun q => q.2) gA2)
  rw [show ((Int32.ofNat 0)).toNatClampNeg = 0 from by have := hn_cn (j := (Int32.ofNat 0)) (by omega); omega] at fA2
  refine hpa_aload_n (by rfl) rfl ?_
  refine hpa_get (v := .ref 325) (by rfl) (by rfl) (by rfl) rfl ?_
  refine hpa_iconst (by rfl) rfl ?_
  refine hpa_iload (by rfl) rfl ?_
  refine hpa_bipush (by rfl) rfl ?_
  refine hpa_irem (by rfl) (by decide) ?_
  refine hpx_iast (by rfl) (by rfl) (fun A3 h0A3 h1A3 eA3 fA3 gA3 => ?_)
  have UA3 := (UA2).ar eA3 fA3 gA3 (by decide +kernel)
  have HA3 := (HA2).e (congrArg (fun q => q.2) gA3)
  rw [show ((Int32.ofNat 1)).toNatClampNeg = 1 from by have := hn_cn (j := (Int32.ofNat 1)) (by omega); omega] at fA3
  refine hpa_aload_n (by rfl) rfl ?_
  refine hpa_get (v := .ref 325) (by rfl) (by rfl) (by rfl) rfl ?_
  refine hpa_iconst (by rfl) rfl ?_
  refine hpa_iload (by rfl) rfl ?_
  refine hpa_bipush (by rfl) rfl ?_
  refine hpa_idiv (by rfl) (by decide) ?_
  refine hpx_iast (by rfl) (by rfl) (fun A4 h0A4 h1A4 eA4 fA4 gA4 => ?_)
  have UA4 := (UA3).ar eA4 fA4 gA4 (by decide +kernel)
  have HA4 := (HA3).e (congrArg (fun q => q.2) gA4)
  rw [show ((Int32.ofNat 2)).toNatClampNeg = 2 from by have := hn_cn (j := (Int32.ofNat 2)) (by omega); omega] at fA4
  refine hpa_aload_n (by rfl) rfl ?_
  refine hpa_get (v := .ref 325) (by rfl) (by rfl) (by rfl) rfl ?_
  refine hpa_iconst (by rfl) rfl ?_
  refine hpa_aload_n (by rfl) rfl ?_
  refine hpa_get (v := .ref 35) (by rfl) (by rfl) (by rfl) rfl ?_
  refine hpa_iload_n (by rfl) rfl ?_
  refine hpx_iald (by rfl) (by rfl) (fun h0v5 h1v5 v5 ev5 => ?_)
  have hL33A4 : hdL 33 ro n A4 := hL.uf hLL_33 UA4 (by decide +kernel)
  rw [show (a1).toNatClampNeg = h from by have := hn_cn (j := a1) (by omega); omega] at ev5
  have lv5 := ev5.symm.trans ((hL33A4.2.2.2.2 (h) (by omega)).1.1)
  clear ev5
  subst lv5
  refine hpa_call2 (by rfl) (by decide) (by rfl) (by rfl) (by rfl) (uf_C (X := ug_x108) (j := 108) rfl rfl (uf_int uf_nil) HA4 (hP242 (ro h) (by omega) (by omega))) ?_
  rintro _ _ ⟨⟨rfl, z7, rfl, Z_A6⟩, -, -⟩
  subst Z_A6
  refine hpx_iast (by rfl) (by rfl) (fun A8 h0A8 h1A8 eA8 fA8 gA8 => ?_)
  have UA8 := (UA4).ar eA8 fA8 gA8 (by decide +kernel)
  have HA8 := (HA4).e (congrArg (fun q => q.2) gA8)
  rw [show ((Int32.ofNat 4)).toNatClampNeg = 4 from by have := hn_cn (j := (Int32.ofNat 4)) (by omega); omega] at fA8
  refine hpa_aload_n (by rfl) rfl ?_
  refine hpa_get (v := .ref 325) (by rfl) (by rfl) (by rfl) rfl ?_
  refine hpa_iconst (by rfl) rfl ?_
  refine hpa_aload_n (by rfl) rfl ?_
  refine hpa_get (v := .ref 36) (by rfl) (by rfl) (by rfl) rfl ?_
  refine hpa_iload_n (by rfl) rfl ?_
  refine hpx_iald (by rfl) (by rfl) (fun h0v9 h1v9 v9 ev9 => ?_)
  have hL33A8 : hdL 33 ro n A8 := hL.uf hLL_33 UA8 (by decide +kernel)
  rw [show (a1).toNatClampNeg = h from by have := hn_cn (j := a1) (by omega); omega] at ev9
  have lv9 := ev9.symm.trans ((hL33A8.2.2.2.2 (h) (by omega)).1.2.1)
  clear ev9
  subst lv9
  refine hpx_iast (by rfl) (by rfl) (fun A10 h0A10 h1A10 eA10 fA10 gA10 => ?_)
  have UA10 := (UA8).ar eA10 fA10 gA10 (by decide +kernel)
  have HA10 := (HA8).e (congrArg (fun q => q.2) gA10)
  rw [show ((Int32.ofNat 5)).toNatClampNeg = 5 from by have := hn_cn (j := (Int32.ofNat 5)) (by omega); omega] at fA10
  refine hpa_aload_n (by rfl) rfl ?_
  refine hpa_get (v := .ref 325) (by rfl) (by rfl) (by rfl) rfl ?_
  refine hpa_bipush (by rfl) rfl ?_
  refine hpa_aload_n (by rfl) rfl ?_
  refine hpj_getK (by rfl) (hsT hT) (by rfl) rfl ?_
  have hTnA10 : (A10.1 T 4).toInt = (n : Int) := (congrArg Int32.toInt (hdT4 UA10 hT (by decide +kernel))).trans hTn
  rw [show (A10.1 T 4) = Int32.ofNat n from huI hTnA10 (by omega)]
  refine hpx_iast (by rfl) (by rfl) (fun A11 h0A11 h1A11 eA11 fA11 gA11 => ?_)
  have UA11 := (UA10).ar eA11 fA11 gA11 (by decide +kernel)
  have HA11 := (HA10).e (congrArg (fun q => q.2) gA11)
  rw [show ((Int32.ofNat 7)).toNatClampNeg = 7 from by have := hn_cn (j := (Int32.ofNat 7)) (by omega); omega] at fA11
  refine hpa_aload_n (by rfl) rfl ?_
  refine hpa_get (v := .ref 325) (by rfl) (by rfl) (by rfl) rfl ?_
  refine hpa_bipush (by rfl) rfl ?_
  refine hpa_aload_n (by rfl) rfl ?_
  refine hpa_get (v := .ref 37) (by rfl) (by rfl) (by rfl) rfl ?_
  refine hpa_iload_n (by rfl) rfl ?_
  refine hpx_iald (by rfl) (by rfl) (fun h0v12 h1v12 v12 ev12 => ?_)
  have hL33A11 : hdL 33 ro n A11 := hL.uf hLL_33 UA11 (by decide +kernel)
  rw [show (a1).toNatClampNeg = h from by have := hn_cn (j := a1) (by omega); omega] at ev12
  have lv12 := ev12.symm.trans ((hL33A11.2.2.2.2 (h) (by omega)).1.2.2)
  clear ev12
  subst lv12
  refine hpa_call2 (by rfl) (by decide) (by rfl) (by rfl) (by rfl) (uf_C (X := ug_x108) (j := 108) rfl rfl (uf_int uf_nil) HA11 (hP242 (ro (40 + h)) (by omega) (by omega))) ?_
  rintro _ _ ⟨⟨rfl, z14, rfl, Z_A13⟩, -, -⟩
  subst Z_A13
  refine hpx_iast (by rfl) (by rfl) (fun A15 h0A15 h1A15 eA15 fA15 gA15 => ?_)
  have UA15 := (UA11).ar eA15 fA15 gA15 (by decide +kernel)
  have HA15 := (HA11).e (congrArg (fun q => q.2) gA15)
  rw [show ((Int32.ofNat 8)).toNatClampNeg = 8 from by have := hn_cn (j := (Int32.ofNat 8)) (by omega); omega] at fA15
  have X90 : ∀ i, i < 9 → ¬ i = 3 → ¬ i = 6 → A15.2.1 324 i = huX (Int32.ofNat n) ro a1 a2 i := by
    intro i hi h3 h6
    have hi9 : i = 0 ∨ i = 1 ∨ i = 2 ∨ i = 4 ∨ i = 5 ∨ i = 7 ∨ i = 8 := by omega
    rcases hi9 with rfl | rfl | rfl | rfl | rfl | rfl | rfl
    · rw [fA15, hup2 (by omega), fA11, hup2 (by omega), fA10, hup2 (by omega), fA8, hup2 (by omega), fA4, hup2 (by omega), fA3, hup2 (by omega), fA2, hup1] <;> rfl
    · rw [fA15, hup2 (by omega), fA11, hup2 (by omega), fA10, hup2 (by omega), fA8, hup2 (by omega), fA4, hup2 (by omega), fA3, hup1] <;> rfl
    · rw [fA15, hup2 (by omega), fA11, hup2 (by omega), fA10, hup2 (by omega), fA8, hup2 (by omega), fA4, hup1] <;> rfl
    · rw [fA15, hup2 (by omega), fA11, hup2 (by omega), fA10, hup2 (by omega), fA8, hup1] <;> exact xv4.symm
    · rw [fA15, hup2 (by omega), fA11, hup2 (by omega), fA10, hup1] <;> exact xv5.symm
    · rw [fA15, hup2 (by omega), fA11, hup1] <;> rfl
    · rw [fA15, hup1] <;> exact xv8.symm
  have E90 : ∀ i, ¬ i = 324 → A15.2.1 i = A.2.1 i := fun i hi => by rw [fA15, fA11, fA10, fA8, fA4, fA3, fA2, fA1]; funext j; rw [hup2 (by omega), hup2 (by omega), hup2 (by omega), hup2 (by omega), hup2 (by omega), hup2 (by omega), hup2 (by omega)]
  have C90 : A15.1 = A.1 := (((((((eA15).trans eA11).trans eA10).trans eA8).trans eA4).trans eA3).trans eA2).trans eA1
  have R90 : A15.2.2.2 323 5 = T + 5 := by rw [gA15, gA11, gA10, gA8, gA4, gA3, gA2, iA1, hs_upN1]
  refine hpa_aload_n (by rfl) rfl ?_
  refine hpa_get (v := .ref 326) (by rfl) (by rfl) (by rfl) rfl ?_
  refine hpa_iconst (by rfl) rfl ?_
  refine hpa_call2 (by rfl) (by decide) (by rfl) (by rfl) (by rfl) (uf_C (X := ug_x179) (j := 179) rfl rfl (ug_L.cons (uf_rk_ok (by decide +kernel)) (uf_int uf_nil)) HA15 (hP246 (m := 9) rfl (by decide) (Int32.ofNat 0))) ?_
  rintro _ A16 ⟨⟨rfl, FR_A16⟩, wA16, HA16⟩
  have UA16 := (UA15).trans (wA16.le (by decide +kernel : ug_wle ug_x179.2.2.2.1 uM1_33 = true))
  refine hpa_aload_n (by rfl) rfl ?_
  refine hpa_get (v := .ref 327) (by rfl) (by rfl) (by rfl) rfl ?_
  refine hpa_iconst (by rfl) rfl ?_
  refine hpa_call2 (by rfl) (by decide) (by rfl) (by rfl) (by rfl) (uf_C (X := ug_x180) (j := 180) rfl rfl (ug_L.cons (uf_rk_ok (by decide +kernel)) (uf_int uf_nil)) HA16 (hP246 (m := 9) rfl (by decide) (Int32.ofNat 0))) ?_
  rintro _ A17 ⟨⟨rfl, FR_A17⟩, wA17, HA17⟩
  have UA17 := (UA16).trans (wA17.le (by decide +kernel : ug_wle ug_x180.2.2.2.1 uM1_33 = true))
  refine hpa_aload_n (by rfl) rfl ?_
  refine hpa_get (v := .ref 328) (by rfl) (by rfl) (by rfl) rfl ?_
  refine hpa_iconst (by rfl) rfl ?_
  refine hpa_call2 (by rfl) (by decide) (by rfl) (by rfl) (by rfl) (uf_C (X := ug_x181) (j := 181) rfl rfl (ug_L.cons (uf_rk_ok (by decide +kernel)) (uf_int uf_nil)) HA17 (hP246 (m := 9) rfl (by decide) (Int32.ofNat 4294967295))) ?_
  rintro _ A18 ⟨⟨rfl, FR_A18⟩, wA18, HA18⟩
  have UA18 := (UA17).trans (wA18.le (by decide +kernel : ug_wle ug_x181.2.2.2.1 uM1_33 = true))
  refine hpa_aload_n (by rfl) rfl ?_
  refine hpa_iconst (by rfl) rfl ?_
  refine hpj_putI (by rfl) (by rfl) (by rfl) (by rfl) (fun A19 eA19 fA19 => ?_)
  have UA19 := (UA18).put eA19 fA19 (by decide +kernel)
  have HA19 := (HA18).e (congrArg (fun q => q.2.2) fA19)
  exact hpa_return (by rfl) rfl (hP _ _ ⟨rfl, ⟨⟨by rw [fA19, FR_A18.2.1, FR_A17.2.1, FR_A16.2.1]; exact R90, fun i hi h3 h6 => by rw [fA19, FR_A18.2.2.1 324 (by omega), FR_A17.2.2.1 324 (by omega), FR_A16.2.2.1 324 (by omega)]; exact X90 i hi h3 h6⟩, fun q hq p hp => by rw [fA19, FR_A18.2.2.1 325 (by omega), FR_A17.2.2.1 325 (by omega), FR_A16.2.2.2 q (by omega), FR_A18.2.2.1 326 (by omega), FR_A17.2.2.2 q (by omega), hub_0]; exact ⟨fun u => absurd u (by decide), fun _ => rfl⟩, fun q hq => Or.inl (by rw [fA19, FR_A18.2.2.2 q (by omega)]), Or.inl (by rw [eA19, hup1])⟩, fun i k h => by rw [eA19, hup2 h, FR_A18.1, FR_A17.1, FR_A16.1, C90], fun i h1 h2 h3 h4 => by rw [fA19, FR_A18.2.2.1 i h4, FR_A17.2.2.1 i h3, FR_A16.2.2.1 i h2, E90 i h1]⟩)
theorem hP1_33 {g d : Nat} {A : hs_A} {T : Nat} {D : hg_D} {ro : Nat → Int32} {n : Nat} {h : Nat} (a1 a2 : Int32) (hT : hTT T) (hC : hdK T D A) (hL : hdL 33 ro n A) (hO : huO ro n) (hh : h < n) (ha : a1 = Int32.ofNat h) (hTn : (A.1 T 4).toInt = (n : Int)) (hH0 : uf_H A) : hpC g d 1 hm_m1 [.ref 324, .ref (T + 1), .ref 34, .int a1, .int a2] A (fun r A' => r = none ∧ (hdS T D (huX (Int32.ofNat n) ro a1 a2) A' ∧ ((∀ i k, ¬ (i = 323 ∧ k = 4) → A'.1 i k = A.1 i k) ∧ ∀ i, ¬ i = 324 → ¬ i = 325 → ¬ i = 326 → ¬ i = 327 → A'.2.1 i = A.2.1 i))) := hpC.all (fun f d => hW1_33 a1 a2 hT hC hL hO hh ha hTn hH0 (fun r A' h => h))
theorem hW18_26 {g d f : Nat} {A : hs_A} {ro : Nat → Int32} {n : Nat} {h : Nat} (a1 : Int32) (hL : hdL 26 ro n A) (hh : h < n) (ha : a1 = Int32.ofNat h) {P : Option Value → hs_A → Prop} (hP : ∀ (r : Option Value) (A' : hs_A), (A = A' ∧ ∃ z : Int32, r = some (.int z) ∧ ((z.toInt = 1 ∧ (ro (50 + h)).toInt = 1) ∨ (z.toInt = 0 ∧ (ro (50 + h)).toInt = 0))) → P r A') : hpa (f, g) d (some (.boolean)) hm_t18 0 [.ref 27, .int a1] [] A P := by
  have k0 := hk_0
  have k1 := hk_1
  have hn10 := hL.1
  have ch := hn_c (n := h) (z := Int32.ofNat h) rfl (by omega)
  have cah : a1.toInt = (h : Int) := by rw [ha]; exact ch
  have cih : a1.toNatClampNeg = h := by have := hn_cn (j := a1) (by omega); omega
  have hb := hL.2.2.2.1.bit (a := a1) (by omega) (by omega) (by omega)
  rw [cih] at hb
  refine hpa_aload_n (by rfl) rfl ?_
  refine hpj_getK (by rfl) (by rfl) (by rfl) rfl ?_
  refine hpa_iload_n (by rfl) rfl ?_
  refine hpa_ishr (by rfl) ?_
  refine hpa_iconst (by rfl) rfl ?_
  refine hpa_iand (by rfl) ?_
  refine hpj_zeq (by rfl) rfl (fun q1 => ?_) (fun q1 => ?_)
  ·
    have hq : hBit (A.1 26 9) a1 = 0 := q1
    refine hpa_iconst (by rfl) rfl ?_
    exact hpa_ireturn (by rfl) (by rfl) (hP _ _ ⟨rfl, _, rfl, Or.inr ⟨hk_0, by omega⟩⟩)
  ·
    have hq : ¬ hBit (A.1 26 9) a1 = 0 := q1
    refine hpa_iconst (by rfl) rfl ?_
    refine hpa_goto (by rfl) ?_
    exact hpa_ireturn (by rfl) (by rfl) (hP _ _ ⟨rfl, _, rfl, Or.inl ⟨hk_1, by omega⟩⟩)
theorem hP18_26 {g d : Nat} {A : hs_A} {ro : Nat → Int32} {n : Nat} {h : Nat} (a1 : Int32) (hL : hdL 26 ro n A) (hh : h < n) (ha : a1 = Int32.ofNat h) : hpC g d 18 hm_m18 [.ref 27, .int a1] A (fun r A' => A = A' ∧ ∃ z : Int32, r = some (.int z) ∧ ((z.toInt = 1 ∧ (ro (50 + h)).toInt = 1) ∨ (z.toInt = 0 ∧ (ro (50 + h)).toInt = 0))) := hpC.all (fun f d => hW18_26 a1 hL hh ha (fun r A' h => h))
theorem hW19_26 {g d f : Nat} {A : hs_A} {ro : Nat → Int32} {n : Nat} {h : Nat} (a1 : Int32) (hL : hdL 26 ro n A) (hh : h < n) (ha : a1 = Int32.ofNat h) {P : Option Value → hs_A → Prop} (hP : ∀ (r : Option Value) (A' : hs_A), (A = A' ∧ ∃ z : Int32, r = some (.int z) ∧ ((z.toInt = 1 ∧ huH ro h = true) ∨ (z.toInt = 0 ∧ huH ro h = false))) → P r A') : hpa (f, g) d (some (.boolean)) hm_t19 0 [.ref 27, .int a1] [] A P := by
  have k0 := hk_0
  have k1 := hk_1
  have hn10 := hL.1
  have ch := hn_c (n := h) (z := Int32.ofNat h) rfl (by omega)
  have cah : a1.toInt = (h : Int) := by rw [ha]; exact ch
  have cih : a1.toNatClampNeg = h := by have := hn_cn (j := a1) (by omega); omega
  refine hpa_aload_n (by rfl) rfl ?_
  refine hpa_iload_n (by rfl) rfl ?_
  refine hpa_call0 (by rfl) (by rfl) (by rfl) (by rfl) (by rfl) (by rfl) (hP18_26 a1 hL (by omega) (by omega)) ?_
  rintro _ _ ⟨rfl, z2, rfl, (⟨fz_A1, ON_A1⟩ | ⟨fz_A1, ON_A1⟩)⟩
  ·
    have ON1 := ON_A1
    refine hpj_zeq (by rfl) rfl (fun q3 => False.elim (by omega)) (fun q3 => ?_)
    refine hpa_aload_n (by rfl) rfl ?_
    refine hpa_get (v := .ref 33) (by rfl) (by rfl) (by rfl) rfl ?_
    refine hpa_iload_n (by rfl) rfl ?_
    refine hpx_iald (by rfl) (by rfl) (fun h0v4 h1v4 v4 ev4 => ?_)
    rw [show (a1).toNatClampNeg = h from by have := hn_cn (j := a1) (by omega); omega] at ev4
    have lv4 := ev4.symm.trans ((hL.2.2.2.2 (h) (by omega)).2.2.2)
    clear ev4
    subst lv4
    refine hpj_zne (by rfl) rfl (fun q5 => ?_) (fun q5 => ?_)
    ·
      refine hpa_iconst (by rfl) rfl ?_
      exact hpa_ireturn (by rfl) (by rfl) (hP _ _ ⟨rfl, _, rfl, Or.inr ⟨hk_0, by unfold huH; rw [decide_eq_false q5, Bool.and_false]⟩⟩)
    ·
      refine hpa_iconst (by rfl) rfl ?_
      refine hpa_goto (by rfl) ?_
      exact hpa_ireturn (by rfl) (by rfl) (hP _ _ ⟨rfl, _, rfl, Or.inl ⟨hk_1, by unfold huH; rw [decide_eq_true ON1, decide_eq_true q5]; rfl⟩⟩)
  ·
    have ON1 := ON_A1
    refine hpj_zeq (by rfl) rfl (fun q6 => ?_) (fun q6 => False.elim (by omega))
    refine hpa_iconst (by rfl) rfl ?_
    exact hpa_ireturn (by rfl) (by rfl) (hP _ _ ⟨rfl, _, rfl, Or.inr ⟨hk_0, by unfold huH; rw [decide_eq_false (by omega), Bool.false_and]⟩⟩)
theorem hP19_26 {g d : Nat} {A : hs_A} {ro : Nat → Int32} {n : Nat} {h : Nat} (a1 : Int32) (hL : hdL 26 ro n A) (hh : h < n) (ha : a1 = Int32.ofNat h) : hpC g d 19 hm_m19 [.ref 27, .int a1] A (fun r A' => A = A' ∧ ∃ z : Int32, r = some (.int z) ∧ ((z.toInt = 1 ∧ huH ro h = true) ∨ (z.toInt = 0 ∧ huH ro h = false))) := hpC.all (fun f d => hW19_26 a1 hL hh ha (fun r A' h => h))
theorem hW21_26 {g d f : Nat} {A : hs_A} {ro : Nat → Int32} {n : Nat} {h : Nat} (a1 : Int32) (hL : hdL 26 ro n A) (hh : h < n) (ha : a1 = Int32.ofNat h) {P : Option Value → hs_A → Prop} (hP : ∀ (r : Option Value) (A' : hs_A), (A = A' ∧ ∃ z : Int32, r = some (.int z) ∧ z = (ro h &&& (ro (40 + h) ^^^ Int32.ofNat 4294967295))) → P r A') : hpa (f, g) d (some (.int)) hm_t21 0 [.ref 27, .int a1] [] A P := by
  have k4294967295 := hk_4294967295
  have hn10 := hL.1
  have ch := hn_c (n := h) (z := Int32.ofNat h) rfl (by omega)
  have cah : a1.toInt = (h : Int) := by rw [ha]; exact ch
  have cih : a1.toNatClampNeg = h := by have := hn_cn (j := a1) (by omega); omega
  refine hpa_aload_n (by rfl) rfl ?_
  refine hpa_get (v := .ref 28) (by rfl) (by rfl) (by rfl) rfl ?_
  refine hpa_iload_n (by rfl) rfl ?_
  refine hpx_iald (by rfl) (by rfl) (fun h0v1 h1v1 v1 ev1 => ?_)
  rw [show (a1).toNatClampNeg = h from by have := hn_cn (j := a1) (by omega); omega] at ev1
  have lv1 := ev1.symm.trans ((hL.2.2.2.2 (h) (by omega)).1.1)
  clear ev1
  subst lv1
  refine hpa_aload_n (by rfl) rfl ?_
  refine hpa_get (v := .ref 30) (by rfl) (by rfl) (by rfl) rfl ?_
  refine hpa_iload_n (by rfl) rfl ?_
  refine hpx_iald (by rfl) (by rfl) (fun h0v2 h1v2 v2 ev2 => ?_)
  rw [show (a1).toNatClampNeg = h from by have := hn_cn (j := a1) (by omega); omega] at ev2
  have lv2 := ev2.symm.trans ((hL.2.2.2.2 (h) (by omega)).1.2.2)
  clear ev2
  subst lv2
  refine hpa_iconst (by rfl) rfl ?_
  refine hpa_ixor (by rfl) ?_
  refine hpa_iand (by rfl) ?_
  exact hpa_ireturn (by rfl) rfl (hP _ _ ⟨rfl, _, rfl, rfl⟩)
theorem hP21_26 {g d : Nat} {A : hs_A} {ro : Nat → Int32} {n : Nat} {h : Nat} (a1 : Int32) (hL : hdL 26 ro n A) (hh : h < n) (ha : a1 = Int32.ofNat h) : hpC g d 21 hm_m21 [.ref 27, .int a1] A (fun r A' => A = A' ∧ ∃ z : Int32, r = some (.int z) ∧ z = (ro h &&& (ro (40 + h) ^^^ Int32.ofNat 4294967295))) := hpC.all (fun f d => hW21_26 a1 hL hh ha (fun r A' h => h))
theorem hW18_33 {g d f : Nat} {A : hs_A} {ro : Nat → Int32} {n : Nat} {h : Nat} (a1 : Int32) (hL : hdL 33 ro n A) (hh : h < n) (ha : a1 = Int32.ofNat h) {P : Option Value → hs_A → Prop} (hP : ∀ (r : Option Value) (A' : hs_A), (A = A' ∧ ∃ z : Int32, r = some (.int z) ∧ ((z.toInt = 1 ∧ (ro (50 + h)).toInt = 1) ∨ (z.toInt = 0 ∧ (ro (50 + h)).toInt = 0))) → P r A') : hpa (f, g) d (some (.boolean)) hm_t18 0 [.ref 34, .int a1] [] A P := by
  have k0 := hk_0
  have k1 := hk_1
  have hn10 := hL.1
  have ch := hn_c (n := h) (z := Int32.ofNat h) rfl (by omega)
  have cah : a1.toInt = (h : Int) := by rw [ha]; exact ch
  have cih : a1.toNatClampNeg = h := by have := hn_cn (j := a1) (by omega); omega
  have hb := hL.2.2.2.1.bit (a := a1) (by omega) (by omega) (by omega)
  rw [cih] at hb
  refine hpa_aload_n (by rfl) rfl ?_
  refine hpj_getK (by rfl) (by rfl) (by rfl) rfl ?_
  refine hpa_iload_n (by rfl) rfl ?_
  refine hpa_ishr (by rfl) ?_
  refine hpa_iconst (by rfl) rfl ?_
  refine hpa_iand (by rfl) ?_
  refine hpj_zeq (by rfl) rfl (fun q1 => ?_) (fun q1 => ?_)
  ·
    have hq : hBit (A.1 33 9) a1 = 0 := q1
    refine hpa_iconst (by rfl) rfl ?_
    exact hpa_ireturn (by rfl) (by rfl) (hP _ _ ⟨rfl, _, rfl, Or.inr ⟨hk_0, by omega⟩⟩)
  ·
    have hq : ¬ hBit (A.1 33 9) a1 = 0 := q1
    refine hpa_iconst (by rfl) rfl ?_
    refine hpa_goto (by rfl) ?_
    exact hpa_ireturn (by rfl) (by rfl) (hP _ _ ⟨rfl, _, rfl, Or.inl ⟨hk_1, by omega⟩⟩)
theorem hP18_33 {g d : Nat} {A : hs_A} {ro : Nat → Int32} {n : Nat} {h : Nat} (a1 : Int32) (hL : hdL 33 ro n A) (hh : h < n) (ha : a1 = Int32.ofNat h) : hpC g d 18 hm_m18 [.ref 34, .int a1] A (fun r A' => A = A' ∧ ∃ z : Int32, r = some (.int z) ∧ ((z.toInt = 1 ∧ (ro (50 + h)).toInt = 1) ∨ (z.toInt = 0 ∧ (ro (50 + h)).toInt = 0))) := hpC.all (fun f d => hW18_33 a1 hL hh ha (fun r A' h => h))
theorem hW19_33 {g d f : Nat} {A : hs_A} {ro : Nat → Int32} {n : Nat} {h : Nat} (a1 : Int32) (hL : hdL 33 ro n A) (hh : h < n) (ha : a1 = Int32.ofNat h) {P : Option Value → hs_A → Prop} (hP : ∀ (r : Option Value) (A' : hs_A), (A = A' ∧ ∃ z : Int32, r = some (.int z) ∧ ((z.toInt = 1 ∧ huH ro h = true) ∨ (z.toInt = 0 ∧ huH ro h = false))) → P r A') : hpa (f, g) d (some (.boolean)) hm_t19 0 [.ref 34, .int a1] [] A P := by
  have k0 := hk_0
  have k1 := hk_1
  have hn10 := hL.1
  have ch := hn_c (n := h) (z := Int32.ofNat h) rfl (by omega)
  have cah : a1.toInt = (h : Int) := by rw [ha]; exact ch
  have cih : a1.toNatClampNeg = h := by have := hn_cn (j := a1) (by omega); omega
  refine hpa_aload_n (by rfl) rfl ?_
  refine hpa_iload_n (by rfl) rfl ?_
  refine hpa_call0 (by rfl) (by rfl) (by rfl) (by rfl) (by rfl) (by rfl) (hP18_33 a1 hL (by omega) (by omega)) ?_
  rintro _ _ ⟨rfl, z2, rfl, (⟨fz_A1, ON_A1⟩ | ⟨fz_A1, ON_A1⟩)⟩
  ·
    have ON1 := ON_A1
    refine hpj_zeq (by rfl) rfl (fun q3 => False.elim (by omega)) (fun q3 => ?_)
    refine hpa_aload_n (by rfl) rfl ?_
    refine hpa_get (v := .ref 40) (by rfl) (by rfl) (by rfl) rfl ?_
    refine hpa_iload_n (by rfl) rfl ?_
    refine hpx_iald (by rfl) (by rfl) (fun h0v4 h1v4 v4 ev4 => ?_)
    rw [show (a1).toNatClampNeg = h from by have := hn_cn (j := a1) (by omega); omega] at ev4
    have lv4 := ev4.symm.trans ((hL.2.2.2.2 (h) (by omega)).2.2.2)
    clear ev4
    subst lv4
    refine hpj_zne (by rfl) rfl (fun q5 => ?_) (fun q5 => ?_)
    ·
      refine hpa_iconst (by rfl) rfl ?_
      exact hpa_ireturn (by rfl) (by rfl) (hP _ _ ⟨rfl, _, rfl, Or.inr ⟨hk_0, by unfold huH; rw [decide_eq_false q5, Bool.and_false]⟩⟩)
    ·
      refine hpa_iconst (by rfl) rfl ?_
      refine hpa_goto (by rfl) ?_
      exact hpa_ireturn (by rfl) (by rfl) (hP _ _ ⟨rfl, _, rfl, Or.inl ⟨hk_1, by unfold huH; rw [decide_eq_true ON1, decide_eq_true q5]; rfl⟩⟩)
  ·
    have ON1 := ON_A1
    refine hpj_zeq (by rfl) rfl (fun q6 => ?_) (fun q6 => False.elim (by omega))
    refine hpa_iconst (by rfl) rfl ?_
    exact hpa_ireturn (by rfl) (by rfl) (hP _ _ ⟨rfl, _, rfl, Or.inr ⟨hk_0, by unfold huH; rw [decide_eq_false (by omega), Bool.false_and]⟩⟩)
theorem hP19_33 {g d : Nat} {A : hs_A} {ro : Nat → Int32} {n : Nat} {h : Nat} (a1 : Int32) (hL : hdL 33 ro n A) (hh : h < n) (ha : a1 = Int32.ofNat h) : hpC g d 19 hm_m19 [.ref 34, .int a1] A (fun r A' => A = A' ∧ ∃ z : Int32, r = some (.int z) ∧ ((z.toInt = 1 ∧ huH ro h = true) ∨ (z.toInt = 0 ∧ huH ro h = false))) := hpC.all (fun f d => hW19_33 a1 hL hh ha (fun r A' h => h))
theorem hW21_33 {g d f : Nat} {A : hs_A} {ro : Nat → Int32} {n : Nat} {h : Nat} (a1 : Int32) (hL : hdL 33 ro n A) (hh : h < n) (ha : a1 = Int32.ofNat h) {P : Option Value → hs_A → Prop} (hP : ∀ (r : Option Value) (A' : hs_A), (A = A' ∧ ∃ z : Int32, r = some (.int z) ∧ z = (ro h &&& (ro (40 + h) ^^^ Int32.ofNat 4294967295))) → P r A') : hpa (f, g) d (some (.int)) hm_t21 0 [.ref 34, .int a1] [] A P := by
  have k4294967295 := hk_4294967295
  have hn10 := hL.1
  have ch := hn_c (n := h) (z := Int32.ofNat h) rfl (by omega)
  have cah : a1.toInt = (h : Int) := by rw [ha]; exact ch
  have cih : a1.toNatClampNeg = h := by have := hn_cn (j := a1) (by omega); omega
  refine hpa_aload_n (by rfl) rfl ?_
  refine hpa_get (v := .ref 35) (by rfl) (by rfl) (by rfl) rfl ?_
  refine hpa_iload_n (by rfl) rfl ?_
  refine hpx_iald (by rfl) (by rfl) (fun h0v1 h1v1 v1 ev1 => ?_)
  rw [show (a1).toNatClampNeg = h from by have := hn_cn (j := a1) (by omega); omega] at ev1
  have lv1 := ev1.symm.trans ((hL.2.2.2.2 (h) (by omega)).1.1)
  clear ev1
  subst lv1
  refine hpa_aload_n (by rfl) rfl ?_
  refine hpa_get (v := .ref 37) (by rfl) (by rfl) (by rfl) rfl ?_
  refine hpa_iload_n (by rfl) rfl ?_
  refine hpx_iald (by rfl) (by rfl) (fun h0v2 h1v2 v2 ev2 => ?_)
  rw [show (a1).toNatClampNeg = h from by have := hn_cn (j := a1) (by omega); omega] at ev2
  have lv2 := ev2.symm.trans ((hL.2.2.2.2 (h) (by omega)).1.2.2)
  clear ev2
  subst lv2
  refine hpa_iconst (by rfl) rfl ?_
  refine hpa_ixor (by rfl) ?_
  refine hpa_iand (by rfl) ?_
  exact hpa_ireturn (by rfl) rfl (hP _ _ ⟨rfl, _, rfl, rfl⟩)
theorem hP21_33 {g d : Nat} {A : hs_A} {ro : Nat → Int32} {n : Nat} {h : Nat} (a1 : Int32) (hL : hdL 33 ro n A) (hh : h < n) (ha : a1 = Int32.ofNat h) : hpC g d 21 hm_m21 [.ref 34, .int a1] A (fun r A' => A = A' ∧ ∃ z : Int32, r = some (.int z) ∧ z = (ro h &&& (ro (40 + h) ^^^ Int32.ofNat 4294967295))) := hpC.all (fun f d => hW21_33 a1 hL hh ha (fun r A' h => h))
theorem hu_xor0 {x y : Int32} (h0 : 0 ≤ x.toInt) (h1 : 0 ≤ y.toInt) : 0 ≤ (x ^^^ y).toInt := by
  have hx := hn_bv h0
  have hy := hn_bv h1
  have rx := hn_rng x
  have ry := hn_rng y
  have h5 : x.toBitVec.toNat ^^^ y.toBitVec.toNat < 2 ^ 31 := Nat.xor_lt_two_pow (by omega) (by omega)
  have e : (x ^^^ y).toBitVec.toNat = x.toBitVec.toNat ^^^ y.toBitVec.toNat := by rw [Int32.toBitVec_xor, BitVec.toNat_xor]
  have h4 := hn_bv2 (x := x ^^^ y) (by rw [e]; omega)
  omega
theorem hs_fm {x : Int32} (h : 0 ≤ x.toInt) : ((x - x / Int32.ofNat 24 * Int32.ofNat 24).toInt = x.toInt % 24) := hn_rem (y := Int32.ofNat 24) h (by decide)
theorem hW243 {g d f : Nat} {A : hs_A} (a1 a2 : Int32) (pa1 : 0 ≤ a1.toInt) (ha : a2 = Int32.ofNat 24) {P : Option Value → hs_A → Prop} (hP : ∀ (r : Option Value) (A' : hs_A), (A = A' ∧ ∃ z : Int32, r = some (.int z) ∧ z.toInt = a1.toInt % 24) → P r A') : hpa (f, g) d (some (.int)) hm_t243 0 [.int a1, .int a2, .retAddr 0] [] A P := by
  have ax := hu_xor0 (y := Int32.ofNat 24) pa1 (by decide)
  have k24 := hk_24
  have a24 : a2.toInt = 24 := by rw [ha]; exact hk_24
  refine hpa_iload_n (by rfl) rfl ?_
  refine hpa_iload_n (by rfl) rfl ?_
  refine hpa_irem (by rfl) (by rw [ha]; decide) ?_
  rw [ha]
  refine hpa_s1 (by rfl) (Or.inl ⟨_, rfl, rfl⟩) rfl ?_
  refine hpa_iload_n (by rfl) rfl ?_
  refine hpa_iload_n (by rfl) rfl ?_
  refine hpa_ixor (by rfl) ?_
  refine hpj_zge (by rfl) rfl (fun q1 => ?_) (fun q1 => ?_)
  ·
    refine hpa_iload_n (by rfl) rfl ?_
    exact hpa_ireturn (by rfl) rfl (hP _ _ ⟨rfl, _, rfl, hs_fm pa1⟩)
  ·
    refine hpa_iload_n (by rfl) rfl ?_
    refine hpj_zeq (by rfl) (hs_fm pa1) (fun q2 => ?_) (fun q2 => ?_)
    ·
      refine hpa_iload_n (by rfl) rfl ?_
      exact hpa_ireturn (by rfl) rfl (hP _ _ ⟨rfl, _, rfl, hs_fm pa1⟩)
    ·
      refine hpa_iload_n (by rfl) rfl ?_
      refine hpa_iload_n (by rfl) rfl ?_
      refine hpj_iadd (by rfl) (hs_fm pa1) rfl (by omega) (by omega) (fun z3 ez3 => ?_)
      exact hpa_ireturn (by rfl) rfl (hP _ _ ⟨rfl, _, rfl, by omega⟩)
theorem hP243 {g d : Nat} {A : hs_A} (a1 a2 : Int32) (pa1 : 0 ≤ a1.toInt) (ha : a2 = Int32.ofNat 24) : hpC g d 243 hm_m243 [.int a1, .int a2] A (fun r A' => A = A' ∧ ∃ z : Int32, r = some (.int z) ∧ z.toInt = a1.toInt % 24) := hpC.all (fun f d => hW243 a1 a2 pa1 ha (fun r A' h => h))
theorem hW22_26 {g d f : Nat} {A : hs_A} {T : Nat} {D : hg_D} {ro : Nat → Int32} {n : Nat} (hT : hTT T) (hC : hdK T D A) (hL : hdL 26 ro n A) (hO : huO ro n) (hD : ∀ t, t < 24 → 0 ≤ D.1 t ∧ D.1 t ≤ 255) {P : Option Value → hs_A → Prop} (hP : ∀ (r : Option Value) (A' : hs_A), (A = A' ∧ ∃ z : Int32, r = some (.int z) ∧ z = huN D ro ∧ (0 ≤ z.toInt ∧ z.toInt ≤ 255)) → P r A') : hpa (f, g) d (some (.int)) hm_t22 0 [.ref 27, .ref (T + 1)] [] A P := by
  have k24 := hk_24
  have k4294967295 := hk_4294967295
  have hT9 : T ≤ 11 := by rcases hT with rfl | rfl <;> omega
  obtain ⟨kw, V, ns, zz, k1, k2, kM, k3⟩ := hC
  have hX := kM.2.2.1.1
  have hO70 := hO.2.1
  refine hpa_aload_n (by rfl) rfl ?_
  refine hpj_getK (by rfl) (by rfl) (by rfl) rfl ?_
  rw [show (A.1 26 8) = ro 71 from hL.2.2.1.2.1]
  refine hpa_iconst (by rfl) rfl ?_
  refine hpj_cne (by rfl) rfl hk_4294967295 (fun q1 => ?_) (fun q1 => ?_)
  ·
    refine hpa_aload_n (by rfl) rfl ?_
    refine hpj_getK (by rfl) (by rfl) (by rfl) rfl ?_
    rw [show (A.1 26 8) = ro 71 from hL.2.2.1.2.1]
    exact hpa_ireturn (by rfl) rfl (hP _ _ ⟨rfl, _, rfl, by unfold huN; rw [if_neg q1], by have := hO.2.2; omega⟩)
  ·
    refine hpa_aload_n (by rfl) rfl ?_
    refine hpa_get (v := .ref (T + 4)) (by rfl) (hsT hT) (by rfl) (hvT hT (by omega)) ?_
    refine hpa_aload_n (by rfl) rfl ?_
    refine hpj_getK (by rfl) (by rfl) (by rfl) rfl ?_
    rw [show (A.1 26 7) = ro 70 from hL.2.2.1.1]
    refine hpa_bipush (by rfl) rfl ?_
    refine hpa_call2 (by rfl) (by decide) (by rfl) (by rfl) (by rfl) (hP243 (ro 70) (Int32.ofNat 24) hO70 rfl) ?_
    rintro _ _ ⟨rfl, z3, rfl, Z_A2⟩
    refine hpx_iald (by rfl) (hsT3 hT) (fun h0v4 h1v4 v4 ev4 => ?_)
    have hm : 0 ≤ (ro 70).toInt % 24 ∧ (ro 70).toInt % 24 < 24 := by omega
    have c21 := hn_cn (j := z3) (by omega)
    have e21 := hX ((ro 70).toInt % 24).toNat (by omega)
    rw [show ((ro 70).toInt % 24).toNat = (z3).toNatClampNeg by omega, ev4] at e21
    have d21 := hD ((ro 70).toInt % 24).toNat (by omega)
    rw [show ((ro 70).toInt % 24).toNat = (z3).toNatClampNeg by omega] at d21
    refine hpa_goto (by rfl) ?_
    exact hpa_ireturn (by rfl) rfl (hP _ _ ⟨rfl, _, rfl, by unfold huN; rw [if_pos q1, show ((ro 70).toInt % 24).toNat = (z3).toNatClampNeg by omega]; exact Int32.toInt_inj.mp (e21.trans (hofi e21).symm), by omega⟩)
theorem hP22_26 {g d : Nat} {A : hs_A} {T : Nat} {D : hg_D} {ro : Nat → Int32} {n : Nat} (hT : hTT T) (hC : hdK T D A) (hL : hdL 26 ro n A) (hO : huO ro n) (hD : ∀ t, t < 24 → 0 ≤ D.1 t ∧ D.1 t ≤ 255) : hpC g d 22 hm_m22 [.ref 27, .ref (T + 1)] A (fun r A' => A = A' ∧ ∃ z : Int32, r = some (.int z) ∧ z = huN D ro ∧ (0 ≤ z.toInt ∧ z.toInt ≤ 255)) := hpC.all (fun f d => hW22_26 hT hC hL hO hD (fun r A' h => h))
theorem hW22_33 {g d f : Nat} {A : hs_A} {T : Nat} {D : hg_D} {ro : Nat → Int32} {n : Nat} (hT : hTT T) (hC : hdK T D A) (hL : hdL 33 ro n A) (hO : huO ro n) (hD : ∀ t, t < 24 → 0 ≤ D.1 t ∧ D.1 t ≤ 255) {P : Option Value → hs_A → Prop} (hP : ∀ (r : Option Value) (A' : hs_A), (A = A' ∧ ∃ z : Int32, r = some (.int z) ∧ z = huN D ro ∧ (0 ≤ z.toInt ∧ z.toInt ≤ 255)) → P r A') : hpa (f, g) d (some (.int)) hm_t22 0 [.ref 34, .ref (T + 1)] [] A P := by
  have k24 := hk_24
  have k4294967295 := hk_4294967295
  have hT9 : T ≤ 11 := by rcases hT with rfl | rfl <;> omega
  obtain ⟨kw, V, ns, zz, k1, k2, kM, k3⟩ := hC
  have hX := kM.2.2.1.1
  have hO70 := hO.2.1
  refine hpa_aload_n (by rfl) rfl ?_
  refine hpj_getK (by rfl) (by rfl) (by rfl) rfl ?_
  rw [show (A.1 33 8) = ro 71 from hL.2.2.1.2.1]
  refine hpa_iconst (by rfl) rfl ?_
  refine hpj_cne (by rfl) rfl hk_4294967295 (fun q1 => ?_) (fun q1 => ?_)
  ·
    refine hpa_aload_n (by rfl) rfl ?_
    refine hpj_getK (by rfl) (by rfl) (by rfl) rfl ?_
    rw [show (A.1 33 8) = ro 71 from hL.2.2.1.2.1]
    exact hpa_ireturn (by rfl) rfl (hP _ _ ⟨rfl, _, rfl, by unfold huN; rw [if_neg q1], by have := hO.2.2; omega⟩)
  ·
    refine hpa_aload_n (by rfl) rfl ?_
    refine hpa_get (v := .ref (T + 4)) (by rfl) (hsT hT) (by rfl) (hvT hT (by omega)) ?_
    refine hpa_aload_n (by rfl) rfl ?_
    refine hpj_getK (by rfl) (by rfl) (by rfl) rfl ?_
    rw [show (A.1 33 7) = ro 70 from hL.2.2.1.1]
    refine hpa_bipush (by rfl) rfl ?_
    refine hpa_call2 (by rfl) (by decide) (by rfl) (by rfl) (by rfl) (hP243 (ro 70) (Int32.ofNat 24) hO70 rfl) ?_
    rintro _ _ ⟨rfl, z3, rfl, Z_A2⟩
    refine hpx_iald (by rfl) (hsT3 hT) (fun h0v4 h1v4 v4 ev4 => ?_)
    have hm : 0 ≤ (ro 70).toInt % 24 ∧ (ro 70).toInt % 24 < 24 := by omega
    have c21 := hn_cn (j := z3) (by omega)
    have e21 := hX ((ro 70).toInt % 24).toNat (by omega)
    rw [show ((ro 70).toInt % 24).toNat = (z3).toNatClampNeg by omega, ev4] at e21
    have d21 := hD ((ro 70).toInt % 24).toNat (by omega)
    rw [show ((ro 70).toInt % 24).toNat = (z3).toNatClampNeg by omega] at d21
    refine hpa_goto (by rfl) ?_
    exact hpa_ireturn (by rfl) rfl (hP _ _ ⟨rfl, _, rfl, by unfold huN; rw [if_pos q1, show ((ro 70).toInt % 24).toNat = (z3).toNatClampNeg by omega]; exact Int32.toInt_inj.mp (e21.trans (hofi e21).symm), by omega⟩)
theorem hP22_33 {g d : Nat} {A : hs_A} {T : Nat} {D : hg_D} {ro : Nat → Int32} {n : Nat} (hT : hTT T) (hC : hdK T D A) (hL : hdL 33 ro n A) (hO : huO ro n) (hD : ∀ t, t < 24 → 0 ≤ D.1 t ∧ D.1 t ≤ 255) : hpC g d 22 hm_m22 [.ref 34, .ref (T + 1)] A (fun r A' => A = A' ∧ ∃ z : Int32, r = some (.int z) ∧ z = huN D ro ∧ (0 ≤ z.toInt ∧ z.toInt ≤ 255)) := hpC.all (fun f d => hW22_33 hT hC hL hO hD (fun r A' h => h))
