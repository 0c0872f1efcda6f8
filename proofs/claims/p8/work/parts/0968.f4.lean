/-! HOURS OF THE CLASS -/
set_option maxRecDepth 1000000 in
theorem uf_tt : uf_rk [2, 11] 3 = true ∧ uf_rk [2, 11] 12 = true := by decide +kernel
theorem uf_tV {T : Nat} (h : hTT T) : ug_V (some (.inl [2, 11])) (.ref (T + 1)) := by
  rcases h with rfl | rfl
  · exact uf_rk_ok uf_tt.1
  · exact uf_rk_ok uf_tt.2
section HXG
variable {d : Nat} {ret : Option FieldType} {tb : hc_K} {pc len r1 r2 : Nat} {l st : List Value} {A : hs_A} {P : Option Value → hs_A → Prop}
theorem hxj_iaddE {x y : Int32} (hI : hc_get tb pc = some (.iadd, len, r1, r2)) (k : ∀ z : Int32, z = x + y → hxa d ret tb (pc + 1) l (.int z :: st) A P) : hxa d ret tb pc l (.int y :: .int x :: st) A P := hxa_iadd hI (k _ rfl)
end HXG
theorem uf_m23 {d : Nat} {A : hs_A} {P : Option Value → hs_A → Prop} {a1 a2 : Int32} (hH : uf_H A) (w : hxC d 23 hm_m23 [.ref 27, .int a1, .int a2] A P) : hxC d 23 hm_m23 [.ref 27, .int a1, .int a2] A (fun r A' => P r A' ∧ uf_W ug_x142.2.2.2.1 A A' ∧ uf_H A') := uf_X (X := ug_x142) (j := 142) rfl rfl (ug_L.cons (uf_rk_ok (by decide +kernel)) (uf_int (uf_int uf_nil))) hH w
theorem uf_m4 {d : Nat} {A : hs_A} {P : Option Value → hs_A → Prop}  (hH : uf_H A) (w : hxC d 4 hm_m4 [.ref 324] A P) : hxC d 4 hm_m4 [.ref 324] A (fun r A' => P r A' ∧ uf_W ug_x192.2.2.2.1 A A' ∧ uf_H A') := uf_X (X := ug_x192) (j := 192) rfl rfl (ug_L.cons (uf_rk_ok (by decide +kernel)) uf_nil) hH w
theorem uf_m5 {d : Nat} {A : hs_A} {P : Option Value → hs_A → Prop} {a1 : Int32} (hH : uf_H A) (w : hxC d 5 hm_m5 [.ref 324, .int a1] A P) : hxC d 5 hm_m5 [.ref 324, .int a1] A (fun r A' => P r A' ∧ uf_W ug_x134.2.2.2.1 A A' ∧ uf_H A') := uf_X (X := ug_x134) (j := 134) rfl rfl (ug_L.cons (uf_rk_ok (by decide +kernel)) (uf_int uf_nil)) hH w
theorem uf_m1 {d : Nat} {A : hs_A} {P : Option Value → hs_A → Prop} {T : Nat} (hT : hTT T) {a1 a2 : Int32} (hH : uf_H A) (w : hxC d 1 hm_m1 [.ref 324, .ref (T + 1), .ref 27, .int a1, .int a2] A P) : hxC d 1 hm_m1 [.ref 324, .ref (T + 1), .ref 27, .int a1, .int a2] A (fun r A' => P r A' ∧ uf_W ug_x133.2.2.2.1 A A' ∧ uf_H A') := uf_X (X := ug_x133) (j := 133) rfl rfl (ug_L.cons (uf_rk_ok (by decide +kernel)) (ug_L.cons (uf_tV hT) (ug_L.cons (uf_rk_ok (by decide +kernel)) (uf_int (uf_int uf_nil))))) hH w
theorem uf_m26 {d : Nat} {A : hs_A} {P : Option Value → hs_A → Prop} {T : Nat} (hT : hTT T) {a1 a2 : Int32} (hH : uf_H A) (w : hxC d 26 hm_m26 [.ref 27, .ref (T + 1), .ref 324, .int a1, .int a2] A P) : hxC d 26 hm_m26 [.ref 27, .ref (T + 1), .ref 324, .int a1, .int a2] A (fun r A' => P r A' ∧ uf_W ug_x150.2.2.2.1 A A' ∧ uf_H A') := uf_X (X := ug_x150) (j := 150) rfl rfl (ug_L.cons (uf_rk_ok (by decide +kernel)) (ug_L.cons (uf_tV hT) (ug_L.cons (uf_rk_ok (by decide +kernel)) (uf_int (uf_int uf_nil))))) hH w
theorem uf_m24 {d : Nat} {A : hs_A} {P : Option Value → hs_A → Prop} {a1 a2 : Int32} (hH : uf_H A) (w : hxC d 24 hm_m24 [.ref 27, .int a1, .int a2] A P) : hxC d 24 hm_m24 [.ref 27, .int a1, .int a2] A (fun r A' => P r A' ∧ uf_W ug_x145.2.2.2.1 A A' ∧ uf_H A') := uf_X (X := ug_x145) (j := 145) rfl rfl (ug_L.cons (uf_rk_ok (by decide +kernel)) (uf_int (uf_int uf_nil))) hH w
theorem hY26g {d : Nat} {Bn Br : Int} {A0 A : hs_A} (hA : hJ 0 Bn Br A0 A)  {T : Nat} (hT : hTT T) (eT : A0.2.2.2 0 3 = T + 1) (a3 : Int32) (p3 : 0 ≤ a3.toInt) (q3 : a3.toInt ≤ 1) (a4 : Int32) (uH : uf_H A) {P : Option Value → hs_A → Prop} (hP : ∀ (r : Option Value) (A' : hs_A), (hJ 0 Bn Br A0 A' ∧ r = none ∧ A'.1 26 7 = A.1 26 7 + Int32.ofNat 1) → P r A') : hxa (d + 3) none hm_t26 0 [.ref 27, .ref (T + 1), .ref 324, .int a3, .int a4, .retAddr 0, .retAddr 0, .retAddr 0] [] A P := by
  have rA : A.1 26 7 = A.1 26 7 := rfl
  have uA : uf_H A := uH
  have k0 := hk_0
  have L15 : ∀ (m15 : Nat) (x15_5 : Int32) (x15_6 : Int32) (x15_7 : Value) (Ac15 : hs_A) (hAc15 : hJ 0 Bn Br A0 Ac15) (bx15_5 : 0 ≤ x15_5.toInt) (cx15_5 : x15_5.toInt ≤ 255) (bx15_6 : -1 ≤ x15_6.toInt) (cx15_6 : x15_6.toInt ≤ 9) (hm15 : x15_6.toInt - (-1) < (m15 : Int)) (iv15 : Ac15.1 26 7 = A.1 26 7 ∧ uf_H Ac15), hxa (d + 3) none hm_t26 15 [.ref 27, .ref (T + 1), .ref 324, .int a3, .int a4, .int x15_5, .int x15_6, x15_7] [] Ac15 P := by
    intro m15
    induction m15 with
    | zero => intro x15_5 x15_6 x15_7 Ac15 hAc15 bx15_5 cx15_5 bx15_6 cx15_6 hm15 iv15;  exact False.elim (by omega)
    | succ m15 ih15 =>
      intro x15_5 x15_6 x15_7 Ac15 hAc15 bx15_5 cx15_5 bx15_6 cx15_6 hm15 iv15
      have rAc15 := iv15.1
      have uAc15 := iv15.2
      have L69 : ∀ (x69_7 : Int32) (Ac69 : hs_A) (hAc69 : hJ 0 Bn Br A0 Ac69) (bx69_7 : 0 ≤ x69_7.toInt) (cx69_7 : x69_7.toInt ≤ 255) (bx15_6 : 0 ≤ x15_6.toInt) (iv69 : Ac69.1 26 7 = A.1 26 7 ∧ uf_H Ac69), hxa (d + 3) none hm_t26 69 [.ref 27, .ref (T + 1), .ref 324, .int a3, .int a4, .int x15_5, .int x15_6, .int x69_7] [] Ac69 P := by
        intro x69_7 Ac69 hAc69 bx69_7 cx69_7 bx15_6 iv69
        have rAc69 := iv69.1
        have uAc69 := iv69.2
        refine hxa_aload_n (by rfl) rfl ?_
        refine hxa_get (v := .ref 33) (by rfl) (by rfl) (by rfl) (by rfl) ?_
        refine hxa_iload (by rfl) rfl ?_
        refine hxj_iald (by rfl) (by rfl) rfl (by omega) (by omega) (fun z1 ez1 => ?_)
        refine hxj_zle (by rfl) rfl (fun q2 => ?_) (fun q2 => ?_)
        ·
          refine hxa_iload_n (by rfl) rfl ?_
          refine hxj_zeq (by rfl) rfl (fun q3 => ?_) (fun q3 => ?_)
          ·
            refine hxa_aload_n (by rfl) rfl ?_
            refine hxa_iload (by rfl) rfl ?_
            refine hxa_iload (by rfl) rfl ?_
            refine hxa_call0 (by rfl) (by rfl) (by rfl) (by rfl) (by rfl) (by rfl) (uf_m23 uAc69 (hX23 (d := d + 2) hAc69 hL26 x15_6 (by omega) (by omega) x69_7 (by omega) (by omega))) ?_
            rintro _ A4 ⟨⟨hA4, rfl⟩, wA4, HA4⟩
            have rA4 : A4.1 26 7 = A.1 26 7 := (wA4.1 26 _ _ 7 rfl rfl (by decide +kernel)).trans rAc69
            have uA4 : uf_H A4 := HA4
            refine hxj_iinc (by rfl) rfl rfl hk_4294967295 (by omega) (by omega) (fun _ => rfl) (fun z5 ez5 => ?_)
            refine hxa_goto (by rfl) ?_
            exact ih15 x15_5 z5 (.int x69_7) A4 hA4 (by omega) (by omega) (by omega) (by omega) (by omega) ⟨rA4, uA4⟩
          ·
            refine hxa_iload (by rfl) rfl ?_
            refine hxa_bipush (by rfl) rfl ?_
            refine hxa_aload_n (by rfl) rfl ?_
            refine hxj_getI (by rfl) (by rfl) (by rfl) (fun z6 ez6 => ?_)
            refine hxj_imulU (by rfl) (fun z7 => ?_)
            refine hxa_iload (by rfl) rfl ?_
            refine hxj_iaddU (by rfl) (fun z8 => ?_)
            refine hxa_call2 (by rfl) (by decide) (by rfl) (by rfl) (by rfl) (hX27 (d := d + 1)  a4 z8) ?_
            rintro _ _ ⟨rfl, z9, rfl⟩
            refine hxa_aload_n (by rfl) rfl ?_
            refine hxa_call0 (by rfl) (by rfl) (by rfl) (by rfl) (by rfl) (by rfl) (uf_m4 uAc69 (hX4 (d := d + 1) hAc69 )) ?_
            rintro _ A10 ⟨⟨hA10, z11, rfl⟩, wA10, HA10⟩
            have rA10 : A10.1 26 7 = A.1 26 7 := (wA10.1 26 _ _ 7 rfl rfl (by decide +kernel)).trans rAc69
            have uA10 : uf_H A10 := HA10
            have rgz9 := hn_rng z9
            have rgz11 := hn_rng z11
            refine hxj_cge (by rfl) rfl rfl (fun q12 => ?_) (fun q12 => ?_)
            ·
              refine hxa_aload_n (by rfl) rfl ?_
              refine hxa_iload (by rfl) rfl ?_
              refine hxa_iload (by rfl) rfl ?_
              refine hxa_call0 (by rfl) (by rfl) (by rfl) (by rfl) (by rfl) (by rfl) (uf_m23 uA10 (hX23 (d := d + 2) hA10 hL26 x15_6 (by omega) (by omega) x69_7 (by omega) (by omega))) ?_
              rintro _ A13 ⟨⟨hA13, rfl⟩, wA13, HA13⟩
              have rA13 : A13.1 26 7 = A.1 26 7 := (wA13.1 26 _ _ 7 rfl rfl (by decide +kernel)).trans rA10
              have uA13 : uf_H A13 := HA13
              refine hxj_iinc (by rfl) rfl rfl hk_4294967295 (by omega) (by omega) (fun _ => rfl) (fun z14 ez14 => ?_)
              refine hxa_goto (by rfl) ?_
              exact ih15 x15_5 z14 (.int x69_7) A13 hA13 (by omega) (by omega) (by omega) (by omega) (by omega) ⟨rA13, uA13⟩
            ·
              refine hxa_aload_n (by rfl) rfl ?_
              refine hxa_get (v := .ref 33) (by rfl) (by rfl) (by rfl) (by rfl) ?_
              refine hxa_iload (by rfl) rfl ?_
              refine hxa_aload_n (by rfl) rfl ?_
              refine hxj_getI (by rfl) (hsT hT) (by rfl) (fun z15 ez15 => ?_)
              refine hxj_iast (by rfl) (by rfl) rfl (by omega) (by omega) hA10 (hbokN (by rfl)) (by rfl) (by rfl) (fun A16 hA16 eA16 fA16 gA16 => ?_)
              have rA16 : A16.1 26 7 = A.1 26 7 := (by rw [eA16]; exact rA10)
              have uA16 : uf_H A16 := uA10.e (congrArg (fun q => q.2) gA16)
              refine hxa_aload_n (by rfl) rfl ?_
              refine hxa_dupR (by rfl) ?_
              refine hxj_getI (by rfl) (by rfl) (by rfl) (fun z17 ez17 => ?_)
              refine hxa_iconst (by rfl) rfl ?_
              refine hxj_iaddU (by rfl) (fun z18 => ?_)
              refine hxj_putI (by rfl) (by rfl) (by rfl) (by rfl) hA16 (hbokN (by rfl)) (by rfl) (by rfl) (fun A19 hA19 eA19 fA19 => ?_)
              have rA19 : A19.1 26 7 = A.1 26 7 := (by rw [eA19, hup2 (by omega)]; exact rA16)
              have uA19 : uf_H A19 := uA16.e (congrArg (fun q => q.2.2) fA19)
              refine hxa_aload_n (by rfl) rfl ?_
              refine hxa_iload (by rfl) rfl ?_
              refine hxa_iload (by rfl) rfl ?_
              refine hxa_call0 (by rfl) (by rfl) (by rfl) (by rfl) (by rfl) (by rfl) (uf_m23 uA19 (hX23 (d := d + 2) hA19 hL26 x15_6 (by omega) (by omega) x69_7 (by omega) (by omega))) ?_
              rintro _ A20 ⟨⟨hA20, rfl⟩, wA20, HA20⟩
              have rA20 : A20.1 26 7 = A.1 26 7 := (wA20.1 26 _ _ 7 rfl rfl (by decide +kernel)).trans rA19
              have uA20 : uf_H A20 := HA20
              refine hxj_iinc (by rfl) rfl rfl hk_4294967295 (by omega) (by omega) (fun _ => rfl) (fun z21 ez21 => ?_)
              refine hxa_goto (by rfl) ?_
              exact ih15 x15_5 z21 (.int x69_7) A20 hA20 (by omega) (by omega) (by omega) (by omega) (by omega) ⟨rA20, uA20⟩
        ·
          refine hxa_aload_n (by rfl) rfl ?_
          refine hxa_get (v := .ref 33) (by rfl) (by rfl) (by rfl) (by rfl) ?_
          refine hxa_iload (by rfl) rfl ?_
          refine hxa_dup2IR (by rfl) ?_
          refine hxj_iald (by rfl) (by rfl) rfl (by omega) (by omega) (fun z22 ez22 => ?_)
          refine hxa_iconst (by rfl) rfl ?_
          refine hxj_isubU (by rfl) (fun z23 => ?_)
          refine hxj_iast (by rfl) (by rfl) rfl (by omega) (by omega) hAc69 (hbokN (by rfl)) (by rfl) (by rfl) (fun A24 hA24 eA24 fA24 gA24 => ?_)
          have rA24 : A24.1 26 7 = A.1 26 7 := (by rw [eA24]; exact rAc69)
          have uA24 : uf_H A24 := uAc69.e (congrArg (fun q => q.2) gA24)
          refine hxa_goto (by rfl) ?_
          refine hxa_aload_n (by rfl) rfl ?_
          refine hxa_iload (by rfl) rfl ?_
          refine hxa_iload (by rfl) rfl ?_
          refine hxa_call0 (by rfl) (by rfl) (by rfl) (by rfl) (by rfl) (by rfl) (uf_m23 uA24 (hX23 (d := d + 2) hA24 hL26 x15_6 (by omega) (by omega) x69_7 (by omega) (by omega))) ?_
          rintro _ A25 ⟨⟨hA25, rfl⟩, wA25, HA25⟩
          have rA25 : A25.1 26 7 = A.1 26 7 := (wA25.1 26 _ _ 7 rfl rfl (by decide +kernel)).trans rA24
          have uA25 : uf_H A25 := HA25
          refine hxj_iinc (by rfl) rfl rfl hk_4294967295 (by omega) (by omega) (fun _ => rfl) (fun z26 ez26 => ?_)
          refine hxa_goto (by rfl) ?_
          exact ih15 x15_5 z26 (.int x69_7) A25 hA25 (by omega) (by omega) (by omega) (by omega) (by omega) ⟨rA25, uA25⟩
      refine hxa_iload (by rfl) rfl ?_
      refine hxj_zlt (by rfl) rfl (fun q27 => ?_) (fun q27 => ?_)
      ·
        refine hxa_aload_n (by rfl) rfl ?_
        refine hxa_iconst (by rfl) rfl ?_
        refine hxj_putI (by rfl) (by rfl) (by rfl) (by rfl) hAc15 (hbok (by rfl) hk_4294967295 (by omega) (by omega)) (by rfl) (by rfl) (fun A28 hA28 eA28 fA28 => ?_)
        have rA28 : A28.1 26 7 = A.1 26 7 := (by rw [eA28, hup2 (by omega)]; exact rAc15)
        have uA28 : uf_H A28 := uAc15.e (congrArg (fun q => q.2.2) fA28)
        refine hxa_aload_n (by rfl) rfl ?_
        refine hxa_dupR (by rfl) ?_
        refine hxj_getI (by rfl) (by rfl) (by rfl) (fun z29 ez29 => ?_)
        refine hxa_iconst (by rfl) rfl ?_
        refine hxj_iaddE (by rfl) (fun z30 ez30 => ?_)
        refine hxj_putI (by rfl) (by rfl) (by rfl) (by rfl) hA28 (hbokN (by rfl)) (by rfl) (by rfl) (fun A31 hA31 eA31 fA31 => ?_)
        exact hxa_return (by rfl) rfl (hP _ _ ⟨hA31, rfl, by rw [eA31, hup1, ez30, ← ez29, rA28]⟩)
      ·
        refine hxa_aload_n (by rfl) rfl ?_
        refine hxa_aload_n (by rfl) rfl ?_
        refine hxa_aload_n (by rfl) rfl ?_
        refine hxa_iload (by rfl) rfl ?_
        refine hxa_aload_n (by rfl) rfl ?_
        refine hxj_getI (by rfl) (by rfl) (by rfl) (fun z32 ez32 => ?_)
        refine hxa_call0 (by rfl) (by rfl) (by rfl) (by rfl) (by rfl) (by rfl) (uf_m1 hT uAc15 (hX1 (d := d + 1) hAc15 hT eT hL26 x15_6 (by omega) (by omega) z32)) ?_
        rintro _ A33 ⟨⟨hA33, rfl⟩, wA33, HA33⟩
        have rA33 : A33.1 26 7 = A.1 26 7 := (wA33.1 26 _ _ 7 rfl rfl (by decide +kernel)).trans rAc15
        have uA33 : uf_H A33 := HA33
        refine hxa_iconst (by rfl) rfl ?_
        refine hxa_s1 (by rfl) (Or.inr ⟨_, rfl, rfl⟩) rfl ?_
        refine hxa_aload_n (by rfl) rfl ?_
        refine hxa_iload (by rfl) rfl ?_
        refine hxa_call0 (by rfl) (by rfl) (by rfl) (by rfl) (by rfl) (by rfl) (hX19 (d := d + 1) hA33 hL26 x15_6 (by omega) (by omega)) ?_
        rintro _ _ ⟨rfl, z34, rfl, fz34⟩
        refine hxj_zeq (by rfl) rfl (fun q35 => ?_) (fun q35 => ?_)
        ·
          exact L69 (Int32.ofNat 0) A33 hA33 (by omega) (by omega) (by omega) ⟨rA33, uA33⟩
        ·
          refine hxa_iload (by rfl) rfl ?_
          refine hxj_zne (by rfl) rfl (fun q36 => ?_) (fun q36 => ?_)
          ·
            refine hxa_aload_n (by rfl) rfl ?_
            refine hxa_aload_n (by rfl) rfl ?_
            refine hxa_get (v := .ref 32) (by rfl) (by rfl) (by rfl) (by rfl) ?_
            refine hxa_iload (by rfl) rfl ?_
            refine hxa_iconst (by rfl) rfl ?_
            refine hxj_isub (by rfl) rfl hk_1 (by omega) (by omega) (fun z37 ez37 => ?_)
            refine hxj_ialdB (by rfl) (by rfl) rfl (by omega) (by omega) hA33 (by rfl) (fun z38 ez38 fz38 gz38 => ?_)
            refine hxa_call0 (by rfl) (by rfl) (by rfl) (by rfl) (by rfl) (by rfl) (uf_m5 uA33 (hX5 (d := d + 0) hA33 z38)) ?_
            rintro _ A39 ⟨⟨hA39, z40, rfl, fz40⟩, wA39, HA39⟩
            have rA39 : A39.1 26 7 = A.1 26 7 := (wA39.1 26 _ _ 7 rfl rfl (by decide +kernel)).trans rA33
            have uA39 : uf_H A39 := HA39
            refine hxa_s1 (by rfl) (Or.inr ⟨_, rfl, rfl⟩) rfl ?_
            exact L69 z40 A39 hA39 (by omega) (by omega) (by omega) ⟨rA39, uA39⟩
          ·
            refine hxa_iload (by rfl) rfl ?_
            refine hxa_goto (by rfl) ?_
            refine hxa_s1 (by rfl) (Or.inr ⟨_, rfl, rfl⟩) rfl ?_
            exact L69 x15_5 A33 hA33 (by omega) (by omega) (by omega) ⟨rA33, uA33⟩
  refine hxa_aload_n (by rfl) rfl ?_
  refine hxa_aload_n (by rfl) rfl ?_
  refine hxa_call0 (by rfl) (by rfl) (by rfl) (by rfl) (by rfl) (by rfl) (hX22 (d := d + 1) hA hL26 hT eT) ?_
  rintro _ _ ⟨rfl, z41, rfl, fz41⟩
  refine hxa_s1 (by rfl) (Or.inr ⟨_, rfl, rfl⟩) rfl ?_
  refine hxa_aload_n (by rfl) rfl ?_
  refine hxj_getB (by rfl) (by rfl) (by rfl) hA (by rfl) (fun z42 ez42 fz42 gz42 => ?_)
  refine hxa_iconst (by rfl) rfl ?_
  refine hxj_isub (by rfl) rfl hk_1 (by omega) (by omega) (fun z43 ez43 => ?_)
  refine hxa_s1 (by rfl) (Or.inr ⟨_, rfl, rfl⟩) rfl ?_
  exact L15 (Int.toNat (z43.toInt - (-1)) + 1) z41 z43 (.retAddr 0) A hA (by omega) (by omega) (by omega) (by omega) (by omega) ⟨rA, uA⟩
theorem hX26g {d : Nat} {Bn Br : Int} {A0 A : hs_A} (hA : hJ 0 Bn Br A0 A)  {T : Nat} (hT : hTT T) (eT : A0.2.2.2 0 3 = T + 1) (a3 : Int32) (p3 : 0 ≤ a3.toInt) (q3 : a3.toInt ≤ 1) (a4 : Int32) (uH : uf_H A) : hxC (d + 4) 26 hm_m26 [.ref 27, .ref (T + 1), .ref 324, .int a3, .int a4] A (fun r A' => hJ 0 Bn Br A0 A' ∧ r = none ∧ A'.1 26 7 = A.1 26 7 + Int32.ofNat 1) := hxC.of (by rfl) (hY26g hA hT eT a3 p3 q3 a4 uH (fun r A' h => h))
theorem hY87g {d : Nat} {Bn Br : Int} {A0 A : hs_A} (hA : hJ 0 Bn Br A0 A)  (a1 : Int32) (uH : uf_H A) (hb : 0 ≤ (A.1 26 7).toInt ∧ (A.1 26 7).toInt ≤ 1000000) {P : Option Value → hs_A → Prop} (hP : ∀ (r : Option Value) (A' : hs_A), (hJ 0 Bn Br A0 A' ∧ ∃ z : Int32, r = some (.int z) ∧ ((0 ≤ a1.toInt ∧ a1.toInt ≤ 72 ∧ z = A'.1 26 7 ∧ (A'.1 26 7).toInt = (A.1 26 7).toInt + a1.toInt ∧ (a1.toInt = 0 ∧ hPk A A' ∨ 0 < a1.toInt ∧ hKq A A')) ∨ ((a1.toInt < 0 ∨ 72 < a1.toInt) ∧ z.toInt = -1 ∧ A' = A))) → P r A') : hxa (d + 4) (some (.int)) hm_t87 0 [.ref 1, .int a1, .retAddr 0] [] A P := by
  have k0 := hk_0
  have k1 := hk_1
  have k4294967295 := hk_4294967295
  have k72 := hk_72
  obtain ⟨T0, hT0, -, eT0⟩ := hA.T
  have L22 : ∀ (m22 : Nat) (x22_2 : Int32) (Ac22 : hs_A) (hAc22 : hJ 0 Bn Br A0 Ac22) (bx22_2 : 0 ≤ x22_2.toInt) (cx22_2 : x22_2.toInt ≤ 72) (ba1 : 0 ≤ a1.toInt) (ca1 : a1.toInt ≤ 72) (dx22 : x22_2.toInt ≤ a1.toInt) (hm22 : 72 - x22_2.toInt < (m22 : Int)) (iv22 : (a1.toInt = 0 ∧ hPk A Ac22 ∨ 0 < a1.toInt ∧ hKq A Ac22) ∧ (Ac22.1 26 7).toInt = (A.1 26 7).toInt + x22_2.toInt ∧ uf_H Ac22), hxa (d + 4) (some (.int)) hm_t87 22 [.ref 1, .int a1, .int x22_2] [] Ac22 P := by
    intro m22
    induction m22 with
    | zero => intro x22_2 Ac22 hAc22 bx22_2 cx22_2 ba1 ca1 dx22 hm22 iv22;  exact False.elim (by omega)
    | succ m22 ih22 =>
      intro x22_2 Ac22 hAc22 bx22_2 cx22_2 ba1 ca1 dx22 hm22 iv22
      refine hxa_iload_n (by rfl) rfl ?_
      refine hxa_iload_n (by rfl) rfl ?_
      refine hxj_cge (by rfl) rfl rfl (fun q1 => ?_) (fun q1 => ?_)
      ·
        refine hxa_aload_n (by rfl) rfl ?_
        refine hxa_get (v := .ref 27) (by rfl) (by rfl) (by rfl) rfl ?_
        refine hxj_getI (by rfl) (by rfl) (by rfl) (fun z2 ez2 => ?_)
        exact hxa_ireturn (by rfl) rfl (hP _ _ ⟨hAc22, _, rfl, Or.inl ⟨by omega, by omega, ez2.symm, by rw [iv22.2.1]; omega, iv22.1⟩⟩)
      ·
        refine hxa_aload_n (by rfl) rfl ?_
        refine hxa_get (v := .ref 27) (by rfl) (by rfl) (by rfl) rfl ?_
        refine hxa_aload_n (by rfl) rfl ?_
        refine hxj_getT (by rfl) (by rfl) (by rfl) (hAc22.Tw eT0) ?_
        refine hxa_aload_n (by rfl) rfl ?_
        refine hxa_get (v := .ref 324) (by rfl) (by rfl) (by rfl) rfl ?_
        refine hxa_iconst (by rfl) rfl ?_
        refine hxa_aload_n (by rfl) rfl ?_
        refine hxj_getT (by rfl) (by rfl) (by rfl) (hAc22.Tw eT0) ?_
        refine hxj_getI (by rfl) (hsT hT0) (by rfl) (fun z3 ez3 => ?_)
        refine hxa_call0 (by rfl) (by rfl) (by rfl) (by rfl) (by rfl) (by rfl) (uf_m26 hT0 iv22.2.2 (hX26g (d := d + 0) hAc22 hT0 eT0 (Int32.ofNat 1) (by omega) (by omega) z3 iv22.2.2)) ?_
        rintro _ A4 ⟨⟨hA4, rfl, c4⟩, w4, H4⟩
        refine hxj_iinc (by rfl) rfl rfl hk_1 (by omega) (by omega) (fun _ => rfl) (fun z5 ez5 => ?_)
        refine hxa_goto (by rfl) ?_
        exact ih22 z5 A4 hA4 (by omega) (by omega) (by omega) (by omega) (by omega) (by omega) (⟨by rcases iv22.1 with ⟨u1, u2⟩ | ⟨u1, u2⟩; exact Or.inl ⟨u1, u2.trans (hPk.uf w4 (by decide +kernel))⟩; exact Or.inr ⟨u1, u2.k (hPk.uf w4 (by decide +kernel))⟩, by have q := hn_add (x := Ac22.1 26 7) (y := Int32.ofNat 1) (z := A4.1 26 7) c4 (by rw [hk_1]; omega) (by rw [hk_1]; omega); rw [hk_1] at q; omega, H4⟩)
  refine hxa_iload_n (by rfl) rfl ?_
  refine hxa_iconst (by rfl) rfl ?_
  refine hxa_bipush (by rfl) rfl ?_
  refine hxa_call2 (by rfl) (by decide) (by rfl) (by rfl) (by rfl) (hX78 (d := d + 3)  a1 (Int32.ofNat 0) (Int32.ofNat 72)) ?_
  rintro _ _ ⟨rfl, z6, rfl, fz6⟩
  rcases fz6 with fz6 | fz6
  ·
    refine hxj_zne (by rfl) rfl (fun q7 => ?_) (fun q7 => False.elim (by omega))
    refine hxa_iload_n (by rfl) rfl ?_
    refine hxj_zle (by rfl) rfl (fun q8 => ?_) (fun q8 => ?_)
    ·
      refine hxa_iconst (by rfl) rfl ?_
      refine hxa_s1 (by rfl) (Or.inl ⟨_, rfl, rfl⟩) rfl ?_
      exact L22 (Int.toNat (72 - 0) + 1) (Int32.ofNat 0) A hA (by omega) (by omega) (by omega) (by omega) (by omega) (by omega) (⟨Or.inl ⟨by omega, ⟨fun q hq => ⟨fun _ _ _ => rfl, fun _ _ _ _ _ => rfl⟩, rfl, rfl⟩⟩, by rw [hk_0]; omega, uH⟩)
    ·
      refine hxa_aload_n (by rfl) rfl ?_
      refine hxa_call0 (by rfl) (by rfl) (by rfl) (by rfl) (by rfl) (by rfl) (uf_i82 uH (hX82g (d := d + 1) hA)) ?_
      rintro _ A9 ⟨⟨hA9, rfl, c9⟩, w9, H9⟩
      refine hxa_iconst (by rfl) rfl ?_
      refine hxa_s1 (by rfl) (Or.inl ⟨_, rfl, rfl⟩) rfl ?_
      exact L22 (Int.toNat (72 - 0) + 1) (Int32.ofNat 0) A9 hA9 (by omega) (by omega) (by omega) (by omega) (by omega) (by omega) (⟨Or.inr ⟨by omega, c9⟩, by rw [hk_0, w9.1 26 _ _ 7 rfl rfl (by decide +kernel)]; omega, H9⟩)
  ·
    refine hxj_zne (by rfl) rfl (fun q10 => False.elim (by omega)) (fun q10 => ?_)
    refine hxa_iconst (by rfl) rfl ?_
    exact hxa_ireturn (by rfl) rfl (hP _ _ ⟨hA, _, rfl, Or.inr ⟨by omega, hk_4294967295, rfl⟩⟩)
theorem hX87g {d : Nat} {Bn Br : Int} {A0 A : hs_A} (hA : hJ 0 Bn Br A0 A)  (a1 : Int32) (uH : uf_H A) (hb : 0 ≤ (A.1 26 7).toInt ∧ (A.1 26 7).toInt ≤ 1000000) : hxC (d + 5) 87 hm_m87 [.ref 1, .int a1] A (fun r A' => hJ 0 Bn Br A0 A' ∧ ∃ z : Int32, r = some (.int z) ∧ ((0 ≤ a1.toInt ∧ a1.toInt ≤ 72 ∧ z = A'.1 26 7 ∧ (A'.1 26 7).toInt = (A.1 26 7).toInt + a1.toInt ∧ (a1.toInt = 0 ∧ hPk A A' ∨ 0 < a1.toInt ∧ hKq A A')) ∨ ((a1.toInt < 0 ∨ 72 < a1.toInt) ∧ z.toInt = -1 ∧ A' = A))) := hxC.of (by rfl) (hY87g hA a1 uH hb (fun r A' h => h))
theorem hY85g {d : Nat} {Bn Br : Int} {A0 A : hs_A} (hA : hJ 0 Bn Br A0 A)  (a1 : Int32) (a2 : Int32) {H : Int} (hH : ∀ T, hTT T → A.2.2.2 0 3 = T + 1 → (A.1 T 4).toInt = H) (uH : uf_H A) {P : Option Value → hs_A → Prop} (hP : ∀ (r : Option Value) (A' : hs_A), (hJ 0 Bn Br A0 A' ∧ ∃ z : Int32, r = some (.int z) ∧ ((0 ≤ a1.toInt ∧ a1.toInt < H ∧ 0 ≤ a2.toInt ∧ a2.toInt < H ∧ ¬ a1.toInt = a2.toInt ∧ hKq A A' ∧ z = A.2.1 31 a1.toNatClampNeg ∧ A'.2.1 31 a2.toNatClampNeg = A.2.1 31 a1.toNatClampNeg ∧ A'.2.1 29 a2.toNatClampNeg = A.2.1 29 a2.toNatClampNeg ||| (A.2.1 31 a1.toNatClampNeg &&& A.2.1 27 a2.toNatClampNeg) ∧ ∀ i x, (i = 29 ∨ i = 31) → x < 10 → ¬ x = a2.toNatClampNeg → A'.2.1 i x = A.2.1 i x) ∨ ((a1.toInt < 0 ∨ H ≤ a1.toInt ∨ a2.toInt < 0 ∨ H ≤ a2.toInt ∨ a1.toInt = a2.toInt) ∧ z.toInt = -1 ∧ A' = A))) → P r A') : hxa (d + 3) (some (.int)) hm_t85 0 [.ref 1, .int a1, .int a2] [] A P := by
  have k4294967295 := hk_4294967295
  refine hxa_aload_n (by rfl) rfl ?_
  refine hxa_iload_n (by rfl) rfl ?_
  refine hxa_call0 (by rfl) (by rfl) (by rfl) (by rfl) (by rfl) (by rfl) (hX76f (d := d + 2) hA a1 hH) ?_
  rintro _ _ ⟨rfl, z1, rfl, fz1⟩
  rcases fz1 with fz1 | fz1
  ·
    refine hxj_zeq (by rfl) rfl (fun q2 => False.elim (by omega)) (fun q2 => ?_)
    refine hxa_aload_n (by rfl) rfl ?_
    refine hxa_iload_n (by rfl) rfl ?_
    refine hxa_call0 (by rfl) (by rfl) (by rfl) (by rfl) (by rfl) (by rfl) (hX76f (d := d + 2) hA a2 hH) ?_
    rintro _ _ ⟨rfl, z3, rfl, fz3⟩
    rcases fz3 with fz3 | fz3
    ·
      refine hxj_zeq (by rfl) rfl (fun q4 => False.elim (by omega)) (fun q4 => ?_)
      refine hxa_iload_n (by rfl) rfl ?_
      refine hxa_iload_n (by rfl) rfl ?_
      refine hxj_cne (by rfl) rfl rfl (fun q5 => ?_) (fun q5 => ?_)
      ·
        refine hxa_aload_n (by rfl) rfl ?_
        refine hxa_call0 (by rfl) (by rfl) (by rfl) (by rfl) (by rfl) (by rfl) (uf_i82 uH (hX82g (d := d + 0) hA)) ?_
        rintro _ A6 ⟨⟨hA6, rfl, c6⟩, w6, H6⟩
        refine hxa_aload_n (by rfl) rfl ?_
        refine hxa_get (v := .ref 27) (by rfl) (by rfl) (by rfl) rfl ?_
        refine hxa_iload_n (by rfl) rfl ?_
        refine hxa_aload_n (by rfl) rfl ?_
        refine hxa_get (v := .ref 27) (by rfl) (by rfl) (by rfl) rfl ?_
        refine hxa_get (v := .ref 32) (by rfl) (by rfl) (by rfl) rfl ?_
        refine hxa_iload_n (by rfl) rfl ?_
        refine hxj_ialdB (by rfl) (by rfl) rfl (by omega) (by omega) hA6 (by rfl) (fun z7 ez7 fz7 gz7 => ?_)
        refine hxa_call0 (by rfl) (by rfl) (by rfl) (by rfl) (by rfl) (by rfl) (uf_m23 H6 (hX23g (d := d + 2) hA6 hL26 a2 (by omega) (by omega) z7 (by omega) (by omega))) ?_
        rintro _ A8 ⟨⟨hA8, rfl, x1, x2, x3, x4⟩, w8, -⟩
        have hc1 := hn_cn (j := a1) (by omega)
        have hc2 := hn_cn (j := a2) (by omega)
        have e7 : z7 = A.2.1 31 a1.toNatClampNeg := ez7.symm.trans (w6.2.1 31 _ _ _ rfl (by omega) (by decide +kernel))
        have g29 : ∀ x : Nat, x < 10 → A6.2.1 29 x = A.2.1 29 x := fun x hx => w6.2.1 29 _ _ x rfl hx (by decide +kernel)
        have g31 : ∀ x : Nat, x < 10 → A6.2.1 31 x = A.2.1 31 x := fun x hx => w6.2.1 31 _ _ x rfl hx (by decide +kernel)
        have g27 : ∀ x : Nat, x < 10 → A6.2.1 27 x = A.2.1 27 x := fun x hx => w6.2.1 27 _ _ x rfl hx (by decide +kernel)
        refine hxa_aload_n (by rfl) rfl ?_
        refine hxa_get (v := .ref 27) (by rfl) (by rfl) (by rfl) rfl ?_
        refine hxa_get (v := .ref 32) (by rfl) (by rfl) (by rfl) rfl ?_
        refine hxa_iload_n (by rfl) rfl ?_
        refine hxj_ialdB (by rfl) (by rfl) rfl (by omega) (by omega) hA8 (by rfl) (fun z9 ez9 fz9 gz9 => ?_)
        exact hxa_ireturn (by rfl) rfl (hP _ _ ⟨hA8, _, rfl, Or.inl ⟨by omega, by omega, by omega, by omega, by omega, c6.k (hPk.uf w8 (by decide +kernel)), by rw [← ez9, ← e7]; exact x2, by rw [← e7]; exact x2, by rw [← e7, ← g29 _ (by omega), ← g27 _ (by omega)]; exact x3, fun i x hi hx hne => by rcases hi with rfl | rfl; (rw [x4 29 x (by omega) (by omega)]; exact g29 x hx); (rw [x4 31 x (by omega) (by omega)]; exact g31 x hx)⟩⟩)
      ·
        refine hxa_iconst (by rfl) rfl ?_
        exact hxa_ireturn (by rfl) rfl (hP _ _ ⟨hA, _, rfl, Or.inr ⟨by omega, hk_4294967295, rfl⟩⟩)
    ·
      refine hxj_zeq (by rfl) rfl (fun q10 => ?_) (fun q10 => False.elim (by omega))
      refine hxa_iconst (by rfl) rfl ?_
      exact hxa_ireturn (by rfl) rfl (hP _ _ ⟨hA, _, rfl, Or.inr ⟨by omega, hk_4294967295, rfl⟩⟩)
  ·
    refine hxj_zeq (by rfl) rfl (fun q11 => ?_) (fun q11 => False.elim (by omega))
    refine hxa_iconst (by rfl) rfl ?_
    exact hxa_ireturn (by rfl) rfl (hP _ _ ⟨hA, _, rfl, Or.inr ⟨by omega, hk_4294967295, rfl⟩⟩)
theorem hX85g {d : Nat} {Bn Br : Int} {A0 A : hs_A} (hA : hJ 0 Bn Br A0 A)  (a1 : Int32) (a2 : Int32) {H : Int} (hH : ∀ T, hTT T → A.2.2.2 0 3 = T + 1 → (A.1 T 4).toInt = H) (uH : uf_H A) : hxC (d + 4) 85 hm_m85 [.ref 1, .int a1, .int a2] A (fun r A' => hJ 0 Bn Br A0 A' ∧ ∃ z : Int32, r = some (.int z) ∧ ((0 ≤ a1.toInt ∧ a1.toInt < H ∧ 0 ≤ a2.toInt ∧ a2.toInt < H ∧ ¬ a1.toInt = a2.toInt ∧ hKq A A' ∧ z = A.2.1 31 a1.toNatClampNeg ∧ A'.2.1 31 a2.toNatClampNeg = A.2.1 31 a1.toNatClampNeg ∧ A'.2.1 29 a2.toNatClampNeg = A.2.1 29 a2.toNatClampNeg ||| (A.2.1 31 a1.toNatClampNeg &&& A.2.1 27 a2.toNatClampNeg) ∧ ∀ i x, (i = 29 ∨ i = 31) → x < 10 → ¬ x = a2.toNatClampNeg → A'.2.1 i x = A.2.1 i x) ∨ ((a1.toInt < 0 ∨ H ≤ a1.toInt ∨ a2.toInt < 0 ∨ H ≤ a2.toInt ∨ a1.toInt = a2.toInt) ∧ z.toInt = -1 ∧ A' = A))) := hxC.of (by rfl) (hY85g hA a1 a2 hH uH (fun r A' h => h))
theorem hY193g {d : Nat} {N : Int} {A0 A : hs_A} (hA : hJ 0 N (N + 72) A0 A) (hN : N ≤ 900000) (a1 : Int32) (a2 : Int32) {H : Int} (hH : (A.2.1 376 (A.1 367 18).toNatClampNeg).toInt = H) (uH : uf_H A) {P : Option Value → hs_A → Prop} (hP : ∀ (r : Option Value) (A' : hs_A), (hJ 0 (N + 72) (N + 144) A0 A' ∧ ∃ z : Int32, r = some (.int z) ∧ ((0 ≤ a1.toInt ∧ a1.toInt < H ∧ 0 ≤ a2.toInt ∧ a2.toInt < H ∧ ¬ a1.toInt = a2.toInt ∧ z = A'.2.1 395 (30 + a2.toNatClampNeg) ∧ hDone A A' (fun k => if k = 30 + a2.toNatClampNeg then A.2.1 395 (30 + a1.toNatClampNeg) else if k = 40 + a2.toNatClampNeg then A.2.1 395 (40 + a2.toNatClampNeg) ||| (A.2.1 395 (30 + a1.toNatClampNeg) &&& A.2.1 395 a2.toNatClampNeg) else A.2.1 395 k)) ∨ ((a1.toInt < 0 ∨ H ≤ a1.toInt ∨ a2.toInt < 0 ∨ H ≤ a2.toInt ∨ a1.toInt = a2.toInt) ∧ z.toInt = -1 ∧ A' = A))) → P r A') : hxa (d + 2) (some (.int)) hm_t193 0 [.ref 368, .int a1, .int a2] [] A P := by
  have k4294967295 := hk_4294967295
  refine hxa_aload_n (by rfl) rfl ?_
  refine hxa_iload_n (by rfl) rfl ?_
  refine hxa_call0 (by rfl) (by rfl) (by rfl) (by rfl) (by rfl) (by rfl) (hX167f (d := d + 0) hA a1 hH) ?_
  rintro _ _ ⟨rfl, z1, rfl, fz1⟩
  rcases fz1 with fz1 | fz1
  ·
    refine hxj_zeq (by rfl) rfl (fun q2 => False.elim (by omega)) (fun q2 => ?_)
    refine hxa_aload_n (by rfl) rfl ?_
    refine hxa_iload_n (by rfl) rfl ?_
    refine hxa_call0 (by rfl) (by rfl) (by rfl) (by rfl) (by rfl) (by rfl) (hX167f (d := d + 0) hA a2 hH) ?_
    rintro _ _ ⟨rfl, z3, rfl, fz3⟩
    rcases fz3 with fz3 | fz3
    ·
      refine hxj_zeq (by rfl) rfl (fun q4 => False.elim (by omega)) (fun q4 => ?_)
      refine hxa_iload_n (by rfl) rfl ?_
      refine hxa_iload_n (by rfl) rfl ?_
      refine hxj_cne (by rfl) rfl rfl (fun q5 => ?_) (fun q5 => ?_)
      ·
        refine hxa_aload_n (by rfl) rfl ?_
        refine hxa_call0 (by rfl) (by rfl) (by rfl) (by rfl) (by rfl) (by rfl) (uf_i171 uH (hX171g (d := d + 1) hA)) ?_
        rintro _ A6 ⟨⟨hA6, rfl, c6⟩, w6, H6⟩
        refine hxa_aload_n (by rfl) rfl ?_
        refine hxa_get (v := .ref 397) (by rfl) (by rfl) (by rfl) rfl ?_
        refine hxa_bipush (by rfl) rfl ?_
        refine hxa_iload_n (by rfl) rfl ?_
        refine hxj_iadd (by rfl) hk_30 rfl (by omega) (by omega) (fun z7 ez7 => ?_)
        refine hxa_aload_n (by rfl) rfl ?_
        refine hxa_get (v := .ref 397) (by rfl) (by rfl) (by rfl) rfl ?_
        refine hxa_bipush (by rfl) rfl ?_
        refine hxa_iload_n (by rfl) rfl ?_
        refine hxj_iadd (by rfl) hk_30 rfl (by omega) (by omega) (fun z8 ez8 => ?_)
        refine hxj_iald396 (by rfl) rfl (by omega) (by omega) hA6 (fun z9 ez9 fz9 => ?_)
        refine hxj_iast396 (by rfl) rfl (by omega) (by omega) rfl hA6 (by omega) (fun A10 hA10 eA10 fA10 gA10 => ?_)
        refine hxa_aload_n (by rfl) rfl ?_
        refine hxa_get (v := .ref 397) (by rfl) (by rfl) (by rfl) rfl ?_
        refine hxa_bipush (by rfl) rfl ?_
        refine hxa_iload_n (by rfl) rfl ?_
        refine hxj_iadd (by rfl) hk_40 rfl (by omega) (by omega) (fun z11 ez11 => ?_)
        refine hxa_dup2IR (by rfl) ?_
        refine hxj_iald396 (by rfl) rfl (by omega) (by omega) hA10 (fun z12 ez12 fz12 => ?_)
        refine hxa_aload_n (by rfl) rfl ?_
        refine hxa_get (v := .ref 397) (by rfl) (by rfl) (by rfl) rfl ?_
        refine hxa_bipush (by rfl) rfl ?_
        refine hxa_iload_n (by rfl) rfl ?_
        refine hxj_iadd (by rfl) hk_30 rfl (by omega) (by omega) (fun z13 ez13 => ?_)
        refine hxj_iald396 (by rfl) rfl (by omega) (by omega) hA10 (fun z14 ez14 fz14 => ?_)
        refine hxa_aload_n (by rfl) rfl ?_
        refine hxa_get (v := .ref 397) (by rfl) (by rfl) (by rfl) rfl ?_
        refine hxa_iload_n (by rfl) rfl ?_
        refine hxj_iald396 (by rfl) rfl (by omega) (by omega) hA10 (fun z15 ez15 fz15 => ?_)
        refine hxj_iandE (by rfl) (fun z16 ez16 => ?_)
        refine hxj_iorE (by rfl) (fun z17 ez17 => ?_)
        refine hxj_iast396 (by rfl) rfl (by omega) (by omega) rfl hA10 (by omega) (fun A18 hA18 eA18 fA18 gA18 => ?_)
        refine hxa_aload_n (by rfl) rfl ?_
        refine hxa_call0 (by rfl) (by rfl) (by rfl) (by rfl) (by rfl) (by rfl) (hX190g (d := d + 0) hA18 (by omega) ((H6.e (congrArg (fun q => q.2) gA10)).e (congrArg (fun q => q.2) gA18))) ?_
        rintro _ A19 ⟨hA19, rfl, D19⟩
        have hc1 := hn_cn (j := a1) (by omega)
        have hc2 := hn_cn (j := a2) (by omega)
        have hc7 := hn_cn (j := z7) (by omega)
        have hc11 := hn_cn (j := z11) (by omega)
        have hc8 := hn_cn (j := z8) (by omega)
        have hc13 := hn_cn (j := z13) (by omega)
        refine hxa_aload_n (by rfl) rfl ?_
        refine hxa_get (v := .ref 396) (by rfl) (by rfl) (by rfl) rfl ?_
        refine hxa_bipush (by rfl) rfl ?_
        refine hxa_iload_n (by rfl) rfl ?_
        refine hxj_iadd (by rfl) hk_30 rfl (by omega) (by omega) (fun z20 ez20 => ?_)
        refine hxj_iald395 (by rfl) rfl (by omega) (by omega) hA19 (fun z21 ez21 fz21 => ?_)
        exact hxa_ireturn (by rfl) rfl (hP _ _ ⟨(hJ.mono hA19 (by omega) (by omega)), _, rfl, Or.inl ⟨by omega, by omega, by omega, by omega, by omega, by rw [← ez21, show z20.toNatClampNeg = 30 + a2.toNatClampNeg by have := hn_cn (j := z20) (by omega); omega], hDone.cg (D19.row w6 (by rw [eA18, eA10]) (fun i hi x => by rw [fA18, hup2 (fun w => hi w.1), fA10, hup2 (fun w => hi w.1)]) (fun k hk => rfl)) (fun k hk => by show _ = A18.2.1 396 k; rw [show z7.toNatClampNeg = 30 + a2.toNatClampNeg by omega] at fA10; rw [show z11.toNatClampNeg = 40 + a2.toNatClampNeg by omega] at fA18 ez12; rw [show z8.toNatClampNeg = 30 + a1.toNatClampNeg by omega, c6 _ (by omega)] at ez9; rw [fA10, hup2 (by omega), c6 _ (by omega)] at ez12; rw [show z13.toNatClampNeg = 30 + a1.toNatClampNeg by omega, fA10, hup2 (by omega), c6 _ (by omega)] at ez14; rw [fA10, hup2 (by omega), c6 _ (by omega)] at ez15; rw [fA18, fA10]; by_cases q1 : k = 30 + a2.toNatClampNeg; (rw [if_pos q1, hup2 (by omega), q1, hup1, ez9]); rw [if_neg q1]; by_cases q2 : k = 40 + a2.toNatClampNeg; (rw [if_pos q2, q2, hup1, ez17, ez16, ez12, ez14, ez15]); rw [if_neg q2, hup2 (by omega), hup2 (by omega)]; exact (c6 k hk).symm)⟩⟩)
      ·
        refine hxa_iconst (by rfl) rfl ?_
        exact hxa_ireturn (by rfl) rfl (hP _ _ ⟨(hJ.mono hA (by omega) (by omega)), _, rfl, Or.inr ⟨by omega, hk_4294967295, rfl⟩⟩)
    ·
      refine hxj_zeq (by rfl) rfl (fun q22 => ?_) (fun q22 => False.elim (by omega))
      refine hxa_iconst (by rfl) rfl ?_
      exact hxa_ireturn (by rfl) rfl (hP _ _ ⟨(hJ.mono hA (by omega) (by omega)), _, rfl, Or.inr ⟨by omega, hk_4294967295, rfl⟩⟩)
  ·
    refine hxj_zeq (by rfl) rfl (fun q23 => ?_) (fun q23 => False.elim (by omega))
    refine hxa_iconst (by rfl) rfl ?_
    exact hxa_ireturn (by rfl) rfl (hP _ _ ⟨(hJ.mono hA (by omega) (by omega)), _, rfl, Or.inr ⟨by omega, hk_4294967295, rfl⟩⟩)
theorem hX193g {d : Nat} {N : Int} {A0 A : hs_A} (hA : hJ 0 N (N + 72) A0 A) (hN : N ≤ 900000) (a1 : Int32) (a2 : Int32) {H : Int} (hH : (A.2.1 376 (A.1 367 18).toNatClampNeg).toInt = H) (uH : uf_H A) : hxC (d + 3) 193 hm_m193 [.ref 368, .int a1, .int a2] A (fun r A' => hJ 0 (N + 72) (N + 144) A0 A' ∧ ∃ z : Int32, r = some (.int z) ∧ ((0 ≤ a1.toInt ∧ a1.toInt < H ∧ 0 ≤ a2.toInt ∧ a2.toInt < H ∧ ¬ a1.toInt = a2.toInt ∧ z = A'.2.1 395 (30 + a2.toNatClampNeg) ∧ hDone A A' (fun k => if k = 30 + a2.toNatClampNeg then A.2.1 395 (30 + a1.toNatClampNeg) else if k = 40 + a2.toNatClampNeg then A.2.1 395 (40 + a2.toNatClampNeg) ||| (A.2.1 395 (30 + a1.toNatClampNeg) &&& A.2.1 395 a2.toNatClampNeg) else A.2.1 395 k)) ∨ ((a1.toInt < 0 ∨ H ≤ a1.toInt ∨ a2.toInt < 0 ∨ H ≤ a2.toInt ∨ a1.toInt = a2.toInt) ∧ z.toInt = -1 ∧ A' = A))) := hxC.of (by rfl) (hY193g hA hN a1 a2 hH uH (fun r A' h => h))
theorem hY86g {d : Nat} {Bn Br : Int} {A0 A : hs_A} (hA : hJ 0 Bn Br A0 A)  (a1 : Int32) (a2 : Int32) {H : Int} (hH : ∀ T, hTT T → A.2.2.2 0 3 = T + 1 → (A.1 T 4).toInt = H) (uH : uf_H A) {P : Option Value → hs_A → Prop} (hP : ∀ (r : Option Value) (A' : hs_A), (hJ 0 Bn Br A0 A' ∧ ∃ z : Int32, r = some (.int z) ∧ (((z.toInt = 1 ∧ 0 ≤ a1.toInt ∧ a1.toInt < H ∧ 0 ≤ a2.toInt ∧ a2.toInt < H ∧ ¬ a1.toInt = a2.toInt) ∨ (z.toInt = 0 ∧ (a1.toInt < 0 ∨ H ≤ a1.toInt ∨ a2.toInt < 0 ∨ H ≤ a2.toInt ∨ a1.toInt = a2.toInt))) ∧ (z.toInt = 1 → hKq A A' ∧ ∀ j, 1 ≤ j → j ≤ 4 → ∀ x : Nat, x < 10 → A'.2.1 (26 + j) x = if x = a1.toNatClampNeg then A.2.1 (26 + j) a2.toNatClampNeg else if x = a2.toNatClampNeg then A.2.1 (26 + j) a1.toNatClampNeg else A.2.1 (26 + j) x) ∧ (¬ z.toInt = 1 → A' = A))) → P r A') : hxa (d + 3) (some (.boolean)) hm_t86 0 [.ref 1, .int a1, .int a2] [] A P := by
  have k0 := hk_0
  have k1 := hk_1
  refine hxa_aload_n (by rfl) rfl ?_
  refine hxa_iload_n (by rfl) rfl ?_
  refine hxa_call0 (by rfl) (by rfl) (by rfl) (by rfl) (by rfl) (by rfl) (hX76f (d := d + 2) hA a1 hH) ?_
  rintro _ _ ⟨rfl, z1, rfl, fz1⟩
  rcases fz1 with fz1 | fz1
  ·
    refine hxj_zeq (by rfl) rfl (fun q2 => False.elim (by omega)) (fun q2 => ?_)
    refine hxa_aload_n (by rfl) rfl ?_
    refine hxa_iload_n (by rfl) rfl ?_
    refine hxa_call0 (by rfl) (by rfl) (by rfl) (by rfl) (by rfl) (by rfl) (hX76f (d := d + 2) hA a2 hH) ?_
    rintro _ _ ⟨rfl, z3, rfl, fz3⟩
    rcases fz3 with fz3 | fz3
    ·
      refine hxj_zeq (by rfl) rfl (fun q4 => False.elim (by omega)) (fun q4 => ?_)
      refine hxa_iload_n (by rfl) rfl ?_
      refine hxa_iload_n (by rfl) rfl ?_
      refine hxj_cne (by rfl) rfl rfl (fun q5 => ?_) (fun q5 => ?_)
      ·
        refine hxa_aload_n (by rfl) rfl ?_
        refine hxa_call0 (by rfl) (by rfl) (by rfl) (by rfl) (by rfl) (by rfl) (uf_i82 uH (hX82g (d := d + 0) hA)) ?_
        rintro _ A6 ⟨⟨hA6, rfl, c6⟩, w6, H6⟩
        refine hxa_aload_n (by rfl) rfl ?_
        refine hxa_get (v := .ref 27) (by rfl) (by rfl) (by rfl) rfl ?_
        refine hxa_iload_n (by rfl) rfl ?_
        refine hxa_iload_n (by rfl) rfl ?_
        refine hxa_call0 (by rfl) (by rfl) (by rfl) (by rfl) (by rfl) (by rfl) (uf_m24 H6 (hX24g (d := d + 1) hA6 hL26 a1 (by omega) (by omega) a2 (by omega) (by omega) (by omega))) ?_
        rintro _ A7 ⟨⟨hA7, rfl, ⟨s71, s72, s73, s74⟩, o7, e7⟩, w7, -⟩
        refine hxa_iconst (by rfl) rfl ?_
        exact hxa_ireturn (by rfl) (by rfl) (hP _ _ ⟨hA7, _, rfl, ⟨by omega, fun _ => ⟨c6.k (hPk.uf w7 (by decide +kernel)), fun j j1 j4 x hx => by have hc1 := hn_cn (j := a1) (by omega); have hc2 := hn_cn (j := a2) (by omega); have hj : j = 1 ∨ j = 2 ∨ j = 3 ∨ j = 4 := (by omega); rcases hj with rfl | rfl | rfl | rfl; (rw [s71 x, w6.2.1 27 _ _ _ rfl (by omega) (by decide +kernel), w6.2.1 27 _ _ _ rfl (by omega) (by decide +kernel), w6.2.1 27 _ _ _ rfl hx (by decide +kernel)]); (rw [s72 x, w6.2.1 28 _ _ _ rfl (by omega) (by decide +kernel), w6.2.1 28 _ _ _ rfl (by omega) (by decide +kernel), w6.2.1 28 _ _ _ rfl hx (by decide +kernel)]); (rw [s73 x, w6.2.1 29 _ _ _ rfl (by omega) (by decide +kernel), w6.2.1 29 _ _ _ rfl (by omega) (by decide +kernel), w6.2.1 29 _ _ _ rfl hx (by decide +kernel)]); (rw [s74 x, w6.2.1 30 _ _ _ rfl (by omega) (by decide +kernel), w6.2.1 30 _ _ _ rfl (by omega) (by decide +kernel), w6.2.1 30 _ _ _ rfl hx (by decide +kernel)])⟩, fun q => absurd hk_1 q⟩⟩)
      ·
        refine hxa_iconst (by rfl) rfl ?_
        exact hxa_ireturn (by rfl) (by rfl) (hP _ _ ⟨hA, _, rfl, ⟨by omega, fun q => False.elim (by omega), fun _ => rfl⟩⟩)
    ·
      refine hxj_zeq (by rfl) rfl (fun q8 => ?_) (fun q8 => False.elim (by omega))
      refine hxa_iconst (by rfl) rfl ?_
      exact hxa_ireturn (by rfl) (by rfl) (hP _ _ ⟨hA, _, rfl, ⟨by omega, fun q => False.elim (by omega), fun _ => rfl⟩⟩)
  ·
    refine hxj_zeq (by rfl) rfl (fun q9 => ?_) (fun q9 => False.elim (by omega))
    refine hxa_iconst (by rfl) rfl ?_
    exact hxa_ireturn (by rfl) (by rfl) (hP _ _ ⟨hA, _, rfl, ⟨by omega, fun q => False.elim (by omega), fun _ => rfl⟩⟩)
theorem hX86g {d : Nat} {Bn Br : Int} {A0 A : hs_A} (hA : hJ 0 Bn Br A0 A)  (a1 : Int32) (a2 : Int32) {H : Int} (hH : ∀ T, hTT T → A.2.2.2 0 3 = T + 1 → (A.1 T 4).toInt = H) (uH : uf_H A) : hxC (d + 4) 86 hm_m86 [.ref 1, .int a1, .int a2] A (fun r A' => hJ 0 Bn Br A0 A' ∧ ∃ z : Int32, r = some (.int z) ∧ (((z.toInt = 1 ∧ 0 ≤ a1.toInt ∧ a1.toInt < H ∧ 0 ≤ a2.toInt ∧ a2.toInt < H ∧ ¬ a1.toInt = a2.toInt) ∨ (z.toInt = 0 ∧ (a1.toInt < 0 ∨ H ≤ a1.toInt ∨ a2.toInt < 0 ∨ H ≤ a2.toInt ∨ a1.toInt = a2.toInt))) ∧ (z.toInt = 1 → hKq A A' ∧ ∀ j, 1 ≤ j → j ≤ 4 → ∀ x : Nat, x < 10 → A'.2.1 (26 + j) x = if x = a1.toNatClampNeg then A.2.1 (26 + j) a2.toNatClampNeg else if x = a2.toNatClampNeg then A.2.1 (26 + j) a1.toNatClampNeg else A.2.1 (26 + j) x) ∧ (¬ z.toInt = 1 → A' = A))) := hxC.of (by rfl) (hY86g hA a1 a2 hH uH (fun r A' h => h))
def hswr (a b : Nat) (f : Nat → Int32) (k : Nat) : Int32 := if k / 10 = 3 ∨ 5 ≤ k / 10 then f k else if k % 10 = a then f (k / 10 * 10 + b) else if k % 10 = b then f (k / 10 * 10 + a) else f k
theorem hswr_s {f F F' : Nat → Int32} {a b m : Nat} (ha : a < 10) (hb : b < 10) (hab : ¬ a = b) (hm : m < 5) (hm3 : ¬ m = 3) (h : ∀ k, F k = if k < 10 * m then hswr a b f k else f k) (h' : ∀ k, F' k = if k = 10 * m + a then F (10 * m + b) else if k = 10 * m + b then F (10 * m + a) else F k) : ∀ k, F' k = if k < 10 * (m + 1) then hswr a b f k else f k := by
  intro k
  rw [h' k]
  by_cases q : k = 10 * m + a
  · rw [if_pos q, h, if_neg (by omega), if_pos (by omega)]
    unfold hswr
    rw [if_neg (by omega), if_pos (by omega), show k / 10 * 10 + b = 10 * m + b by omega]
  · rw [if_neg q]
    by_cases p : k = 10 * m + b
    · rw [if_pos p, h, if_neg (by omega), if_pos (by omega)]
      unfold hswr
      rw [if_neg (by omega), if_neg (by omega), if_pos (by omega), show k / 10 * 10 + a = 10 * m + a by omega]
    · rw [if_neg p, h]
      by_cases w : k < 10 * m
      · rw [if_pos w, if_pos (by omega)]
      · rw [if_neg w]
        by_cases v : k < 10 * (m + 1)
        · rw [if_pos v]
          unfold hswr
          rw [if_neg (by omega), if_neg (by omega), if_neg (by omega)]
        · rw [if_neg v]
theorem hswr_3 {f F : Nat → Int32} {a b : Nat} (h : ∀ k, F k = if k < 10 * 3 then hswr a b f k else f k) : ∀ k, F k = if k < 10 * (3 + 1) then hswr a b f k else f k := by
  intro k
  rw [h]
  by_cases w : k < 10 * 3
  · rw [if_pos w, if_pos (by omega)]
  · rw [if_neg w]
    by_cases v : k < 10 * (3 + 1)
    · rw [if_pos v]
      unfold hswr
      rw [if_pos (by omega)]
    · rw [if_neg v]
theorem hch_s {A Ac A8 A10 : hs_A} {x a1 a2 z3 z4 z5 z6 z7 z9 z11 : Int32} (iv : ∃ m : Nat, x.toInt = 10 * (m : Int) ∧ m ≤ 5 ∧ ∀ k, Ac.2.1 396 k = if k < 10 * m then hswr a1.toNatClampNeg a2.toNatClampNeg (A.2.1 396) k else A.2.1 396 k) (p1 : 0 ≤ a1.toInt) (q1 : a1.toInt ≤ 9) (p2 : 0 ≤ a2.toInt) (q2 : a2.toInt ≤ 9) (hab : ¬ a1.toInt = a2.toInt) (hx : x.toInt < 50 ∧ ¬ x.toInt = 30) (e3 : z3.toInt = x.toInt + a1.toInt) (e4 : Ac.2.1 396 z3.toNatClampNeg = z4) (e5 : z5.toInt = x.toInt + a1.toInt) (e6 : z6.toInt = x.toInt + a2.toInt) (e7 : Ac.2.1 396 z6.toNatClampNeg = z7) (f8 : A8.2.1 = hs_up Ac.2.1 396 z5.toNatClampNeg z7) (e9 : z9.toInt = x.toInt + a2.toInt) (f10 : A10.2.1 = hs_up A8.2.1 396 z9.toNatClampNeg z4) (e11 : z11.toInt = x.toInt + 10) : ∃ m : Nat, z11.toInt = 10 * (m : Int) ∧ m ≤ 5 ∧ ∀ k, A10.2.1 396 k = if k < 10 * m then hswr a1.toNatClampNeg a2.toNatClampNeg (A.2.1 396) k else A.2.1 396 k := by
  obtain ⟨m, h1, h2, h3⟩ := iv
  have c1 := hn_cn (j := a1) p1
  have c2 := hn_cn (j := a2) p2
  have c3 := hn_cn (j := z3) (by omega)
  have c5 := hn_cn (j := z5) (by omega)
  have c6 := hn_cn (j := z6) (by omega)
  have c9 := hn_cn (j := z9) (by omega)
  refine ⟨m + 1, by omega, by omega, hswr_s (F := Ac.2.1 396) (by omega) (by omega) (by omega) (by omega) (by omega) h3 (fun k => ?_)⟩
  rw [show z3.toNatClampNeg = 10 * m + a1.toNatClampNeg by omega] at e4
  rw [show z6.toNatClampNeg = 10 * m + a2.toNatClampNeg by omega] at e7
  rw [show z5.toNatClampNeg = 10 * m + a1.toNatClampNeg by omega] at f8
  rw [show z9.toNatClampNeg = 10 * m + a2.toNatClampNeg by omega] at f10
  rw [f10, f8]
  exact hsw e4 e7 (by omega) k
theorem hch_3 {A Ac : hs_A} {x a1 a2 z12 : Int32} (iv : ∃ m : Nat, x.toInt = 10 * (m : Int) ∧ m ≤ 5 ∧ ∀ k, Ac.2.1 396 k = if k < 10 * m then hswr a1.toNatClampNeg a2.toNatClampNeg (A.2.1 396) k else A.2.1 396 k) (hx : x.toInt = 30) (e12 : z12.toInt = x.toInt + 10) : ∃ m : Nat, z12.toInt = 10 * (m : Int) ∧ m ≤ 5 ∧ ∀ k, Ac.2.1 396 k = if k < 10 * m then hswr a1.toNatClampNeg a2.toNatClampNeg (A.2.1 396) k else A.2.1 396 k := by
  obtain ⟨m, h1, h2, h3⟩ := iv
  obtain rfl : m = 3 := by omega
  exact ⟨4, by omega, by omega, hswr_3 h3⟩
theorem hY194g {d : Nat} {Bn Br : Int} {A0 A : hs_A} (hA : hJ 0 Bn Br A0 A)  (a1 : Int32) (p1 : 0 ≤ a1.toInt) (q1 : a1.toInt ≤ 9) (a2 : Int32) (p2 : 0 ≤ a2.toInt) (q2 : a2.toInt ≤ 9) (hab : ¬ a1.toInt = a2.toInt) {P : Option Value → hs_A → Prop} (hP : ∀ (r : Option Value) (A' : hs_A), (hJ 0 Bn Br A0 A' ∧ r = none ∧ ((∀ k : Nat, k < 73 → A'.2.1 396 k = hswr a1.toNatClampNeg a2.toNatClampNeg (A.2.1 396) k) ∧ (∀ i, ¬ i = 396 → ∀ x, A'.2.1 i x = A.2.1 i x) ∧ A'.1 = A.1 ∧ A'.2.2 = A.2.2)) → P r A') : hxa (d + 0) none hm_t194 0 [.ref 368, .int a1, .int a2, .retAddr 0, .retAddr 0] [] A P := by
  have k0 := hk_0
  have bq1 := q1
  have bq2 := q2
  have L2 : ∀ (m2 : Nat) (x2_3 : Int32) (x2_4 : Value) (Ac2 : hs_A) (hAc2 : hJ 0 Bn Br A0 Ac2) (bx2_3 : 0 ≤ x2_3.toInt) (cx2_3 : x2_3.toInt ≤ 255) (hm2 : 255 - x2_3.toInt < (m2 : Int)) (iv2 : (∃ m : Nat, x2_3.toInt = 10 * (m : Int) ∧ m ≤ 5 ∧ ∀ k, Ac2.2.1 396 k = if k < 10 * m then hswr a1.toNatClampNeg a2.toNatClampNeg (A.2.1 396) k else A.2.1 396 k) ∧ (∀ i, ¬ i = 396 → ∀ x, Ac2.2.1 i x = A.2.1 i x) ∧ Ac2.1 = A.1 ∧ Ac2.2.2 = A.2.2), hxa (d + 0) none hm_t194 2 [.ref 368, .int a1, .int a2, .int x2_3, x2_4] [] Ac2 P := by
    intro m2
    induction m2 with
    | zero => intro x2_3 x2_4 Ac2 hAc2 bx2_3 cx2_3 hm2 iv2;  exact False.elim (by omega)
    | succ m2 ih2 =>
      intro x2_3 x2_4 Ac2 hAc2 bx2_3 cx2_3 hm2 iv2
      refine hxa_iload_n (by rfl) rfl ?_
      refine hxa_bipush (by rfl) rfl ?_
      refine hxj_cge (by rfl) rfl hk_50 (fun q1 => ?_) (fun q1 => ?_)
      ·
        exact hxa_return (by rfl) rfl (hP _ _ ⟨hAc2, rfl, by obtain ⟨⟨m, u1, u2, u3⟩, u4⟩ := iv2; exact ⟨fun k hk => by rw [u3 k]; by_cases w : k < 10 * m; (rw [if_pos w]); (rw [if_neg w]; unfold hswr; rw [if_pos (by omega)]), u4⟩⟩)
      ·
        refine hxa_iload_n (by rfl) rfl ?_
        refine hxa_bipush (by rfl) rfl ?_
        refine hxj_cne (by rfl) rfl hk_30 (fun q2 => ?_) (fun q2 => ?_)
        ·
          refine hxa_aload_n (by rfl) rfl ?_
          refine hxa_get (v := .ref 397) (by rfl) (by rfl) (by rfl) rfl ?_
          refine hxa_iload_n (by rfl) rfl ?_
          refine hxa_iload_n (by rfl) rfl ?_
          refine hxj_iadd (by rfl) rfl rfl (by omega) (by omega) (fun z3 ez3 => ?_)
          refine hxj_iald396 (by rfl) rfl (by omega) (by omega) hAc2 (fun z4 ez4 fz4 => ?_)
          refine hxa_s1 (by rfl) (Or.inr ⟨_, rfl, rfl⟩) rfl ?_
          refine hxa_aload_n (by rfl) rfl ?_
          refine hxa_get (v := .ref 397) (by rfl) (by rfl) (by rfl) rfl ?_
          refine hxa_iload_n (by rfl) rfl ?_
          refine hxa_iload_n (by rfl) rfl ?_
          refine hxj_iadd (by rfl) rfl rfl (by omega) (by omega) (fun z5 ez5 => ?_)
          refine hxa_aload_n (by rfl) rfl ?_
          refine hxa_get (v := .ref 397) (by rfl) (by rfl) (by rfl) rfl ?_
          refine hxa_iload_n (by rfl) rfl ?_
          refine hxa_iload_n (by rfl) rfl ?_
          refine hxj_iadd (by rfl) rfl rfl (by omega) (by omega) (fun z6 ez6 => ?_)
          refine hxj_iald396 (by rfl) rfl (by omega) (by omega) hAc2 (fun z7 ez7 fz7 => ?_)
          refine hxj_iast396 (by rfl) rfl (by omega) (by omega) rfl hAc2 (by omega) (fun A8 hA8 eA8 fA8 gA8 => ?_)
          refine hxa_aload_n (by rfl) rfl ?_
          refine hxa_get (v := .ref 397) (by rfl) (by rfl) (by rfl) rfl ?_
          refine hxa_iload_n (by rfl) rfl ?_
          refine hxa_iload_n (by rfl) rfl ?_
          refine hxj_iadd (by rfl) rfl rfl (by omega) (by omega) (fun z9 ez9 => ?_)
          refine hxa_iload (by rfl) rfl ?_
          refine hxj_iast396 (by rfl) rfl (by omega) (by omega) rfl hA8 (by omega) (fun A10 hA10 eA10 fA10 gA10 => ?_)
          refine hxj_iinc (by rfl) rfl rfl hk_10 (by omega) (by omega) (fun _ => rfl) (fun z11 ez11 => ?_)
          refine hxa_goto (by rfl) ?_
          exact ih2 z11 (.int z4) A10 hA10 (by omega) (by omega) (by omega) ⟨hch_s iv2.1 p1 bq1 p2 bq2 hab (by omega) ez3 ez4 ez5 ez6 ez7 fA8 ez9 fA10 ez11, fun i hi x => by rw [fA10, hup2 (fun w => hi w.1), fA8, hup2 (fun w => hi w.1)]; exact iv2.2.1 i hi x, by rw [eA10, eA8]; exact iv2.2.2.1, by rw [gA10, gA8]; exact iv2.2.2.2⟩
        ·
          refine hxa_goto (by rfl) ?_
          refine hxj_iinc (by rfl) rfl rfl hk_10 (by omega) (by omega) (fun _ => rfl) (fun z12 ez12 => ?_)
          refine hxa_goto (by rfl) ?_
          exact ih2 z12 (x2_4) Ac2 hAc2 (by omega) (by omega) (by omega) ⟨hch_3 iv2.1 (by omega) ez12, iv2.2⟩
  refine hxa_iconst (by rfl) rfl ?_
  refine hxa_s1 (by rfl) (Or.inl ⟨_, rfl, rfl⟩) rfl ?_
  exact L2 (Int.toNat (255 - 0) + 1) (Int32.ofNat 0) (.retAddr 0) A hA (by omega) (by omega) (by omega) (⟨⟨0, by rw [hk_0]; omega, by omega, fun k => by rw [if_neg (by omega)]⟩, fun _ _ _ => rfl, rfl, rfl⟩)
theorem hX194g {d : Nat} {Bn Br : Int} {A0 A : hs_A} (hA : hJ 0 Bn Br A0 A)  (a1 : Int32) (p1 : 0 ≤ a1.toInt) (q1 : a1.toInt ≤ 9) (a2 : Int32) (p2 : 0 ≤ a2.toInt) (q2 : a2.toInt ≤ 9) (hab : ¬ a1.toInt = a2.toInt) : hxC (d + 1) 194 hm_m194 [.ref 368, .int a1, .int a2] A (fun r A' => hJ 0 Bn Br A0 A' ∧ r = none ∧ ((∀ k : Nat, k < 73 → A'.2.1 396 k = hswr a1.toNatClampNeg a2.toNatClampNeg (A.2.1 396) k) ∧ (∀ i, ¬ i = 396 → ∀ x, A'.2.1 i x = A.2.1 i x) ∧ A'.1 = A.1 ∧ A'.2.2 = A.2.2)) := hxC.of (by rfl) (hY194g hA a1 p1 q1 a2 p2 q2 hab (fun r A' h => h))
theorem uf_j194 {d : Nat} {A : hs_A} {P : Option Value → hs_A → Prop} {a1 a2 : Int32} (hH : uf_H A) (w : hxC d 194 hm_m194 [.ref 368, .int a1, .int a2] A P) : hxC d 194 hm_m194 [.ref 368, .int a1, .int a2] A (fun r A' => P r A' ∧ uf_W ug_x204.2.2.2.1 A A' ∧ uf_H A') := uf_X (X := ug_x204) (j := 204) rfl rfl (ug_L.cons uf_r1 (uf_int (uf_int uf_nil))) hH w
theorem hswr_x {f g : Nat → Int32} {a b k : Nat} (h : ∀ j : Nat, j < 73 → f j = g j) (ha : a < 10) (hb : b < 10) (hk : k < 73) : hswr a b f k = hswr a b g k := by
  unfold hswr
  rw [h k hk]
  by_cases q : k / 10 = 3 ∨ 5 ≤ k / 10
  · rw [if_pos q, if_pos q]
  · rw [if_neg q, if_neg q, h (k / 10 * 10 + b) (by omega), h (k / 10 * 10 + a) (by omega)]
theorem hY195g {d : Nat} {N : Int} {A0 A : hs_A} (hA : hJ 0 N (N + 72) A0 A) (hN : N ≤ 900000) (a1 : Int32) (a2 : Int32) {H : Int} (hH : (A.2.1 376 (A.1 367 18).toNatClampNeg).toInt = H) (uH : uf_H A) {P : Option Value → hs_A → Prop} (hP : ∀ (r : Option Value) (A' : hs_A), (hJ 0 (N + 72) (N + 144) A0 A' ∧ ∃ z : Int32, r = some (.int z) ∧ (((z.toInt = 1 ∧ 0 ≤ a1.toInt ∧ a1.toInt < H ∧ 0 ≤ a2.toInt ∧ a2.toInt < H ∧ ¬ a1.toInt = a2.toInt) ∨ (z.toInt = 0 ∧ (a1.toInt < 0 ∨ H ≤ a1.toInt ∨ a2.toInt < 0 ∨ H ≤ a2.toInt ∨ a1.toInt = a2.toInt))) ∧ (z.toInt = 1 → hDone A A' (hswr a1.toNatClampNeg a2.toNatClampNeg (A.2.1 395))) ∧ (¬ z.toInt = 1 → A' = A))) → P r A') : hxa (d + 2) (some (.boolean)) hm_t195 0 [.ref 368, .int a1, .int a2] [] A P := by
  have k0 := hk_0
  have k1 := hk_1
  refine hxa_aload_n (by rfl) rfl ?_
  refine hxa_iload_n (by rfl) rfl ?_
  refine hxa_call0 (by rfl) (by rfl) (by rfl) (by rfl) (by rfl) (by rfl) (hX167f (d := d + 0) hA a1 hH) ?_
  rintro _ _ ⟨rfl, z1, rfl, fz1⟩
  rcases fz1 with fz1 | fz1
  ·
    refine hxj_zeq (by rfl) rfl (fun q2 => False.elim (by omega)) (fun q2 => ?_)
    refine hxa_aload_n (by rfl) rfl ?_
    refine hxa_iload_n (by rfl) rfl ?_
    refine hxa_call0 (by rfl) (by rfl) (by rfl) (by rfl) (by rfl) (by rfl) (hX167f (d := d + 0) hA a2 hH) ?_
    rintro _ _ ⟨rfl, z3, rfl, fz3⟩
    rcases fz3 with fz3 | fz3
    ·
      refine hxj_zeq (by rfl) rfl (fun q4 => False.elim (by omega)) (fun q4 => ?_)
      refine hxa_iload_n (by rfl) rfl ?_
      refine hxa_iload_n (by rfl) rfl ?_
      refine hxj_cne (by rfl) rfl rfl (fun q5 => ?_) (fun q5 => ?_)
      ·
        refine hxa_aload_n (by rfl) rfl ?_
        refine hxa_call0 (by rfl) (by rfl) (by rfl) (by rfl) (by rfl) (by rfl) (uf_i171 uH (hX171g (d := d + 1) hA)) ?_
        rintro _ A6 ⟨⟨hA6, rfl, c6⟩, w6, H6⟩
        refine hxa_aload_n (by rfl) rfl ?_
        refine hxa_iload_n (by rfl) rfl ?_
        refine hxa_iload_n (by rfl) rfl ?_
        refine hxa_call0 (by rfl) (by rfl) (by rfl) (by rfl) (by rfl) (by rfl) (uf_j194 H6 (hX194g (d := d + 1) hA6 a1 (by omega) (by omega) a2 (by omega) (by omega) (by omega))) ?_
        rintro _ A7 ⟨⟨hA7, rfl, c7, o7, e7, g7⟩, w7, H7⟩
        refine hxa_aload_n (by rfl) rfl ?_
        refine hxa_call0 (by rfl) (by rfl) (by rfl) (by rfl) (by rfl) (by rfl) (hX190g (d := d + 0) hA7 (by omega) H7) ?_
        rintro _ A8 ⟨hA8, rfl, D8⟩
        refine hxa_iconst (by rfl) rfl ?_
        exact hxa_ireturn (by rfl) (by rfl) (hP _ _ ⟨(hJ.mono hA8 (by omega) (by omega)), _, rfl, ⟨by omega, fun _ => D8.row w6 e7 o7 (fun k hk => by rw [c7 k hk]; exact hswr_x (fun j hj => c6 j hj) (by have := hn_cn (j := a1) (by omega); omega) (by have := hn_cn (j := a2) (by omega); omega) hk), fun q => absurd hk_1 q⟩⟩)
      ·
        refine hxa_iconst (by rfl) rfl ?_
        exact hxa_ireturn (by rfl) (by rfl) (hP _ _ ⟨(hJ.mono hA (by omega) (by omega)), _, rfl, ⟨by omega, fun q => False.elim (by omega), fun _ => rfl⟩⟩)
    ·
      refine hxj_zeq (by rfl) rfl (fun q9 => ?_) (fun q9 => False.elim (by omega))
      refine hxa_iconst (by rfl) rfl ?_
      exact hxa_ireturn (by rfl) (by rfl) (hP _ _ ⟨(hJ.mono hA (by omega) (by omega)), _, rfl, ⟨by omega, fun q => False.elim (by omega), fun _ => rfl⟩⟩)
  ·
    refine hxj_zeq (by rfl) rfl (fun q10 => ?_) (fun q10 => False.elim (by omega))
    refine hxa_iconst (by rfl) rfl ?_
    exact hxa_ireturn (by rfl) (by rfl) (hP _ _ ⟨(hJ.mono hA (by omega) (by omega)), _, rfl, ⟨by omega, fun q => False.elim (by omega), fun _ => rfl⟩⟩)
theorem hX195g {d : Nat} {N : Int} {A0 A : hs_A} (hA : hJ 0 N (N + 72) A0 A) (hN : N ≤ 900000) (a1 : Int32) (a2 : Int32) {H : Int} (hH : (A.2.1 376 (A.1 367 18).toNatClampNeg).toInt = H) (uH : uf_H A) : hxC (d + 3) 195 hm_m195 [.ref 368, .int a1, .int a2] A (fun r A' => hJ 0 (N + 72) (N + 144) A0 A' ∧ ∃ z : Int32, r = some (.int z) ∧ (((z.toInt = 1 ∧ 0 ≤ a1.toInt ∧ a1.toInt < H ∧ 0 ≤ a2.toInt ∧ a2.toInt < H ∧ ¬ a1.toInt = a2.toInt) ∨ (z.toInt = 0 ∧ (a1.toInt < 0 ∨ H ≤ a1.toInt ∨ a2.toInt < 0 ∨ H ≤ a2.toInt ∨ a1.toInt = a2.toInt))) ∧ (z.toInt = 1 → hDone A A' (hswr a1.toNatClampNeg a2.toNatClampNeg (A.2.1 395))) ∧ (¬ z.toInt = 1 → A' = A))) := hxC.of (by rfl) (hY195g hA hN a1 a2 hH uH (fun r A' h => h))
