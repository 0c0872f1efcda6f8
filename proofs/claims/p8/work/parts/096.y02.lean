theorem hY35 {d : Nat} {Bn Br : Int} {A0 A : hs_A} (hA : hJ 0 Bn Br A0 A)  {L : Nat} (hL : hLL L) {P : Option Value → hs_A → Prop} (hP : ∀ (r : Option Value) (A' : hs_A), (hJ 0 Bn Br A0 A' ∧ ∃ z : Int32, r = some (.int z) ∧ ((0 ≤ z.toInt ∧ z.toInt ≤ 1))) → P r A') : hxa (d + 1) (some (.boolean)) hm_t35 0 [.ref 41, .ref (L + 1)] [] A P := by
  have k0 := hk_0
  have k1 := hk_1
  refine hxa_aload_n (by rfl) rfl ?_
  refine hxj_getB (by rfl) (by rfl) (by rfl) hA (by rfl) (fun z1 ez1 fz1 gz1 => ?_)
  refine hxj_zne (by rfl) rfl (fun q2 => ?_) (fun q2 => ?_)
  ·
    refine hxa_aload_n (by rfl) rfl ?_
    refine hxa_dupR (by rfl) ?_
    refine hxj_getK (by rfl) (by rfl) (by rfl) ez1 ?_
    refine hxa_iconst (by rfl) rfl ?_
    refine hxj_isub (by rfl) rfl hk_1 (by omega) (by omega) (fun z3 ez3 => ?_)
    refine hxj_putI (by rfl) (by rfl) (by rfl) (by rfl) hA (hbok (by rfl) rfl (by omega) (by omega)) (by rfl) (by rfl) (fun A4 hA4 eA4 fA4 => ?_)
    refine hxa_aload_n (by rfl) rfl ?_
    refine hxa_aload_n (by rfl) rfl ?_
    refine hxa_get (v := .ref 42) (by rfl) (by rfl) (by rfl) rfl ?_
    refine hxa_aload_n (by rfl) rfl ?_
    refine hxj_getB (by rfl) (by rfl) (by rfl) hA4 (by rfl) (fun z5 ez5 fz5 gz5 => ?_)
    refine hxa_aload_n (by rfl) rfl ?_
    refine hxj_getK (by rfl) (by rfl) (by rfl) (hkS eA4) ?_
    refine hxj_iadd (by rfl) rfl rfl (by omega) (by omega) (fun z6 ez6 => ?_)
    refine hxa_bipush (by rfl) rfl ?_
    refine hxj_iremP (by rfl) rfl hk_40 (by omega) (by omega) (fun z7 ez7 => ?_)
    obtain ⟨L8, hL8, eL8⟩ := haa_lives (j := z7) rfl (by omega) (by omega)
    refine hxa_aald (by rfl) (Or.inl rfl) (by rfl) (hn_ix0 rfl (by omega)) eL8 ?_
    refine hxa_call0 (by rfl) (by rfl) (by rfl) (hsL hL) (by rfl) (by rfl) (hX17 (d := d + 0) hA4 hL hL8) ?_
    rintro _ A9 ⟨hA9, rfl⟩
    refine hxa_iconst (by rfl) rfl ?_
    exact hxa_ireturn (by rfl) (by rfl) (hP _ _ ⟨hA9, _, rfl, by omega⟩)
  ·
    refine hxa_iconst (by rfl) rfl ?_
    exact hxa_ireturn (by rfl) (by rfl) (hP _ _ ⟨hA, _, rfl, by omega⟩)
theorem hX35 {d : Nat} {Bn Br : Int} {A0 A : hs_A} (hA : hJ 0 Bn Br A0 A)  {L : Nat} (hL : hLL L) : hxC (d + 2) 35 hm_m35 [.ref 41, .ref (L + 1)] A (fun r A' => hJ 0 Bn Br A0 A' ∧ ∃ z : Int32, r = some (.int z) ∧ ((0 ≤ z.toInt ∧ z.toInt ≤ 1))) := hxC.of (by rfl) (hY35 hA hL (fun r A' h => h))
theorem hY78 {d : Nat} {A : hs_A} (a1 : Int32) (a2 : Int32) (a3 : Int32) {P : Option Value → hs_A → Prop} (hP : ∀ (r : Option Value) (A' : hs_A), (A = A' ∧ ∃ z : Int32, r = some (.int z) ∧ ((z.toInt = 1 ∧ a2.toInt ≤ a1.toInt ∧ a1.toInt ≤ a3.toInt) ∨ (z.toInt = 0 ∧ (a1.toInt < a2.toInt ∨ a3.toInt < a1.toInt)))) → P r A') : hxa (d + 0) (some (.boolean)) hm_t78 0 [.int a1, .int a2, .int a3] [] A P := by
  have k0 := hk_0
  have k1 := hk_1
  refine hxa_iload_n (by rfl) rfl ?_
  refine hxa_iload_n (by rfl) rfl ?_
  have rga1 := hn_rng a1
  have rga2 := hn_rng a2
  refine hxj_clt (by rfl) rfl rfl (fun q1 => ?_) (fun q1 => ?_)
  ·
    refine hxa_iconst (by rfl) rfl ?_
    exact hxa_ireturn (by rfl) (by rfl) (hP _ _ ⟨rfl, _, rfl, by omega⟩)
  ·
    refine hxa_iload_n (by rfl) rfl ?_
    refine hxa_iload_n (by rfl) rfl ?_
    have rga3 := hn_rng a3
    refine hxj_cgt (by rfl) rfl rfl (fun q2 => ?_) (fun q2 => ?_)
    ·
      refine hxa_iconst (by rfl) rfl ?_
      exact hxa_ireturn (by rfl) (by rfl) (hP _ _ ⟨rfl, _, rfl, by omega⟩)
    ·
      refine hxa_iconst (by rfl) rfl ?_
      refine hxa_goto (by rfl) ?_
      exact hxa_ireturn (by rfl) (by rfl) (hP _ _ ⟨rfl, _, rfl, by omega⟩)
theorem hX78 {d : Nat} {A : hs_A} (a1 : Int32) (a2 : Int32) (a3 : Int32) : hxC (d + 1) 78 hm_m78 [.int a1, .int a2, .int a3] A (fun r A' => A = A' ∧ ∃ z : Int32, r = some (.int z) ∧ ((z.toInt = 1 ∧ a2.toInt ≤ a1.toInt ∧ a1.toInt ≤ a3.toInt) ∨ (z.toInt = 0 ∧ (a1.toInt < a2.toInt ∨ a3.toInt < a1.toInt)))) := hxC.of (by rfl) (hY78 a1 a2 a3 (fun r A' h => h))
theorem hY65 {d : Nat} {Bn Br : Int} {A0 A : hs_A} (hA : hJ 0 Bn Br A0 A)  (a1 : Int32) (p1 : 0 ≤ a1.toInt) (q1 : a1.toInt ≤ 9) (a2 : Int32) {P : Option Value → hs_A → Prop} (hP : ∀ (r : Option Value) (A' : hs_A), (hJ 0 Bn Br A0 A' ∧ ∃ z : Int32, r = some (.int z)) → P r A') : hxa (d + 0) (some (.int)) hm_t65 0 [.ref 341, .int a1, .int a2] [] A P := by
  have k4294967295 := hk_4294967295
  refine hxa_aload_n (by rfl) rfl ?_
  refine hxj_getB (by rfl) (by rfl) (by rfl) hA (by rfl) (fun z1 ez1 fz1 gz1 => ?_)
  refine hxa_bipush (by rfl) rfl ?_
  refine hxj_clt (by rfl) rfl hk_20 (fun q2 => ?_) (fun q2 => ?_)
  ·
    refine hxa_aload_n (by rfl) rfl ?_
    refine hxa_get (v := .ref 342) (by rfl) (by rfl) (by rfl) rfl ?_
    refine hxa_aload_n (by rfl) rfl ?_
    refine hxj_getK (by rfl) (by rfl) (by rfl) ez1 ?_
    refine hxa_iload_n (by rfl) rfl ?_
    refine hxj_iast (by rfl) (by rfl) rfl (by omega) (by omega) hA (hbok (by rfl) rfl (by omega) (by omega)) (by rfl) (by rfl) (fun A3 hA3 eA3 fA3 gA3 => ?_)
    refine hxa_aload_n (by rfl) rfl ?_
    refine hxa_get (v := .ref 343) (by rfl) (by rfl) (by rfl) rfl ?_
    refine hxa_aload_n (by rfl) rfl ?_
    refine hxj_getK (by rfl) (by rfl) (by rfl) (hkA eA3 ez1) ?_
    refine hxa_iload_n (by rfl) rfl ?_
    refine hxj_iast (by rfl) (by rfl) rfl (by omega) (by omega) hA3 (hbokN (by rfl)) (by rfl) (by rfl) (fun A4 hA4 eA4 fA4 gA4 => ?_)
    refine hxa_aload_n (by rfl) rfl ?_
    refine hxa_dupR (by rfl) ?_
    refine hxj_getK (by rfl) (by rfl) (by rfl) (hkA eA4 (hkA eA3 ez1)) ?_
    refine hxa_iconst (by rfl) rfl ?_
    refine hxj_iadd (by rfl) rfl hk_1 (by omega) (by omega) (fun z5 ez5 => ?_)
    refine hxj_putI (by rfl) (by rfl) (by rfl) (by rfl) hA4 (hbok (by rfl) rfl (by omega) (by omega)) (by rfl) (by rfl) (fun A6 hA6 eA6 fA6 => ?_)
    refine hxa_aload_n (by rfl) rfl ?_
    refine hxj_getK (by rfl) (by rfl) (by rfl) (hkS eA6) ?_
    refine hxa_iconst (by rfl) rfl ?_
    refine hxj_isub (by rfl) rfl hk_1 (by omega) (by omega) (fun z7 ez7 => ?_)
    exact hxa_ireturn (by rfl) rfl (hP _ _ ⟨hA6, _, rfl⟩)
  ·
    refine hxa_iconst (by rfl) rfl ?_
    exact hxa_ireturn (by rfl) rfl (hP _ _ ⟨hA, _, rfl⟩)
theorem hX65 {d : Nat} {Bn Br : Int} {A0 A : hs_A} (hA : hJ 0 Bn Br A0 A)  (a1 : Int32) (p1 : 0 ≤ a1.toInt) (q1 : a1.toInt ≤ 9) (a2 : Int32) : hxC (d + 1) 65 hm_m65 [.ref 341, .int a1, .int a2] A (fun r A' => hJ 0 Bn Br A0 A' ∧ ∃ z : Int32, r = some (.int z)) := hxC.of (by rfl) (hY65 hA a1 p1 q1 a2 (fun r A' h => h))
theorem hY68 {d : Nat} {Bn Br : Int} {A0 A : hs_A} (hA : hJ 0 Bn Br A0 A)  (a1 : Int32) (p1 : 0 ≤ a1.toInt) (q1 : a1.toInt ≤ 9) {T : Nat} (hT : hTT T) (eT : A0.2.2.2 0 3 = T + 1) {L : Nat} (hL : hLL L) {P : Option Value → hs_A → Prop} (hP : ∀ (r : Option Value) (A' : hs_A), (hJ 0 Bn Br A0 A' ∧ r = none) → P r A') : hxa (d + 3) none hm_t68 0 [.ref 329, .int a1, .ref (T + 1), .ref (L + 1), .ref 324, .retAddr 0, .retAddr 0] [] A P := by
  have k0 := hk_0
  have L46 : ∀ (m46 : Nat) (x46_5 : Nat) (x46_6 : Int32) (Ac46 : hs_A) (hx46_5 : hRR x46_5) (hAc46 : hJ 0 Bn Br A0 Ac46) (bx46_6 : 0 ≤ x46_6.toInt) (cx46_6 : x46_6.toInt ≤ 256) (hm46 : 256 - x46_6.toInt < (m46 : Int)), hxa (d + 3) none hm_t68 46 [.ref 329, .int a1, .ref (T + 1), .ref (L + 1), .ref 324, .ref (x46_5 + 1), .int x46_6] [] Ac46 P := by
    intro m46
    induction m46 with
    | zero => intro x46_5 x46_6 Ac46 hx46_5 hAc46 bx46_6 cx46_6 hm46;  exact False.elim (by omega)
    | succ m46 ih46 =>
      intro x46_5 x46_6 Ac46 hx46_5 hAc46 bx46_6 cx46_6 hm46
      refine hxa_iload (by rfl) rfl ?_
      refine hxa_sipush (by rfl) rfl ?_
      refine hxj_cge (by rfl) rfl hk_256 (fun q1 => ?_) (fun q1 => ?_)
      ·
        exact hxa_return (by rfl) rfl (hP _ _ ⟨hAc46, rfl⟩)
      ·
        refine hxa_aload (by rfl) rfl ?_
        refine hxa_iload (by rfl) rfl ?_
        refine hxa_iload_n (by rfl) rfl ?_
        refine hxj_zne (by rfl) rfl (fun q2 => ?_) (fun q2 => ?_)
        ·
          refine hxa_aload (by rfl) rfl ?_
          refine hxa_aload_n (by rfl) rfl ?_
          refine hxa_get (v := .ref 330) (by rfl) (by rfl) (by rfl) rfl ?_
          refine hxa_iload_n (by rfl) rfl ?_
          refine hxa_iconst (by rfl) rfl ?_
          refine hxj_isub (by rfl) rfl hk_1 (by omega) (by omega) (fun z3 ez3 => ?_)
          obtain ⟨R4, hR4, eR4⟩ := haa_rows (j := z3) rfl (by omega) (by omega)
          refine hxa_aald (by rfl) (Or.inr rfl) (by rfl) (hn_ix0 rfl (by omega)) eR4 ?_
          refine hxa_iload (by rfl) rfl ?_
          refine hxj_iald (by rfl) (hsR hR4) rfl (by omega) (by omega) (fun z5 ez5 => ?_)
          refine hxa_call0 (by rfl) (by rfl) (by rfl) (by rfl) (by rfl) (by rfl) (hX5 (d := d + 0) hAc46 z5) ?_
          rintro _ A6 ⟨hA6, z7, rfl, fz7⟩
          refine hxj_iast (by rfl) (hsR hx46_5) rfl (by omega) (by omega) hA6 (hbokN (haR hx46_5)) (hrR hx46_5) (hqR hx46_5) (fun A8 hA8 eA8 fA8 gA8 => ?_)
          refine hxj_iinc (by rfl) rfl rfl hk_1 (by omega) (by omega) (fun _ => rfl) (fun z9 ez9 => ?_)
          refine hxa_goto (by rfl) ?_
          exact ih46 x46_5 z9 A8 hx46_5 hA8 (by omega) (by omega) (by omega)
        ·
          refine hxa_iload (by rfl) rfl ?_
          refine hxa_goto (by rfl) ?_
          refine hxj_iast (by rfl) (hsR hx46_5) rfl (by omega) (by omega) hAc46 (hbokN (haR hx46_5)) (hrR hx46_5) (hqR hx46_5) (fun A10 hA10 eA10 fA10 gA10 => ?_)
          refine hxj_iinc (by rfl) rfl rfl hk_1 (by omega) (by omega) (fun _ => rfl) (fun z11 ez11 => ?_)
          refine hxa_goto (by rfl) ?_
          exact ih46 x46_5 z11 A10 hx46_5 hA10 (by omega) (by omega) (by omega)
  refine hxa_aload_n (by rfl) rfl ?_
  refine hxa_get (v := .ref 330) (by rfl) (by rfl) (by rfl) rfl ?_
  refine hxa_iload_n (by rfl) rfl ?_
  obtain ⟨R12, hR12, eR12⟩ := haa_rows (j := a1) rfl (by omega) (by omega)
  refine hxa_aald (by rfl) (Or.inr rfl) (by rfl) (hn_ix0 rfl (by omega)) eR12 ?_
  refine hxa_astore (by rfl) rfl ?_
  refine hxa_aload_n (by rfl) rfl ?_
  refine hxa_iload_n (by rfl) rfl ?_
  refine hxa_call0 (by rfl) (by rfl) (by rfl) (hsL hL) (by rfl) (by rfl) (hX20 (d := d + 0) hA hL a1) ?_
  rintro _ _ ⟨rfl, z13, rfl⟩
  refine hxa_bipush (by rfl) rfl ?_
  refine hxj_ceq (by rfl) rfl hk_4294967294 (fun q14 => ?_) (fun q14 => ?_)
  ·
    refine hxa_iload_n (by rfl) rfl ?_
    refine hxj_zle (by rfl) rfl (fun q15 => ?_) (fun q15 => ?_)
    ·
      refine hxa_iconst (by rfl) rfl ?_
      refine hxa_s1 (by rfl) (Or.inr ⟨_, rfl, rfl⟩) rfl ?_
      exact L46 (Int.toNat (256 - 0) + 1) R12 (Int32.ofNat 0) A hR12 hA (by omega) (by omega) (by omega)
    ·
      refine hxa_aload (by rfl) rfl ?_
      refine hxa_aload_n (by rfl) rfl ?_
      refine hxa_aload_n (by rfl) rfl ?_
      refine hxa_iload_n (by rfl) rfl ?_
      refine hxa_aload_n (by rfl) rfl ?_
      refine hxj_getI (by rfl) (hsL hL) (by rfl) (fun z16 ez16 => ?_)
      refine hxa_iload_n (by rfl) rfl ?_
      refine hxj_iaddU (by rfl) (fun z17 => ?_)
      refine hxa_call0 (by rfl) (by rfl) (by rfl) (by rfl) (by rfl) (by rfl) (hX1 (d := d + 1) hA hT eT hL a1 (by omega) (by omega) z17) ?_
      rintro _ A18 ⟨hA18, rfl⟩
      refine hxa_iconst (by rfl) rfl ?_
      refine hxa_s1 (by rfl) (Or.inr ⟨_, rfl, rfl⟩) rfl ?_
      exact L46 (Int.toNat (256 - 0) + 1) R12 (Int32.ofNat 0) A18 hR12 hA18 (by omega) (by omega) (by omega)
  ·
    refine hxa_aload (by rfl) rfl ?_
    refine hxa_iconst (by rfl) rfl ?_
    refine hxa_call2 (by rfl) (by decide) (by rfl) (by rfl) (by rfl) (hX246 (d := d + 2) hA (C := R12) (hsR hR12) (by omega) (hbokN (haR hR12)) (hrR hR12) (hqR hR12)) ?_
    rintro _ A19 ⟨hA19, rfl⟩
    exact hxa_return (by rfl) rfl (hP _ _ ⟨hA19, rfl⟩)
theorem hX68 {d : Nat} {Bn Br : Int} {A0 A : hs_A} (hA : hJ 0 Bn Br A0 A)  (a1 : Int32) (p1 : 0 ≤ a1.toInt) (q1 : a1.toInt ≤ 9) {T : Nat} (hT : hTT T) (eT : A0.2.2.2 0 3 = T + 1) {L : Nat} (hL : hLL L) : hxC (d + 4) 68 hm_m68 [.ref 329, .int a1, .ref (T + 1), .ref (L + 1), .ref 324] A (fun r A' => hJ 0 Bn Br A0 A' ∧ r = none) := hxC.of (by rfl) (hY68 hA a1 p1 q1 hT eT hL (fun r A' h => h))
theorem hY67 {d : Nat} {Bn Br : Int} {A0 A : hs_A} (hA : hJ 0 Bn Br A0 A)  (a1 : Int32) (p1 : 0 ≤ a1.toInt) (q1 : a1.toInt ≤ 9) {T : Nat} (hT : hTT T) (eT : A0.2.2.2 0 3 = T + 1) {L : Nat} (hL : hLL L) {P : Option Value → hs_A → Prop} (hP : ∀ (r : Option Value) (A' : hs_A), (hJ 0 Bn Br A0 A' ∧ ∃ R : Nat, r = some (.ref (R + 1)) ∧ hRR R) → P r A') : hxa (d + 4) (some ((.array .int))) hm_t67 0 [.ref 329, .int a1, .ref (T + 1), .ref (L + 1), .ref 324, .retAddr 0] [] A P := by
  have L6 : ∀ (m6 : Nat) (x6_5 : Int32) (Ac6 : hs_A) (hAc6 : hJ 0 Bn Br A0 Ac6) (bx6_5 : 0 ≤ x6_5.toInt) (cx6_5 : x6_5.toInt ≤ 10) (hm6 : 10 - x6_5.toInt < (m6 : Int)), hxa (d + 4) (some ((.array .int))) hm_t67 6 [.ref 329, .int a1, .ref (T + 1), .ref (L + 1), .ref 324, .int x6_5] [] Ac6 P := by
    intro m6
    induction m6 with
    | zero => intro x6_5 Ac6 hAc6 bx6_5 cx6_5 hm6;  exact False.elim (by omega)
    | succ m6 ih6 =>
      intro x6_5 Ac6 hAc6 bx6_5 cx6_5 hm6
      refine hxa_iload (by rfl) rfl ?_
      refine hxa_iload_n (by rfl) rfl ?_
      refine hxj_cgt (by rfl) rfl rfl (fun q1 => ?_) (fun q1 => ?_)
      ·
        refine hxa_aload_n (by rfl) rfl ?_
        refine hxa_aload_n (by rfl) rfl ?_
        refine hxj_getB (by rfl) (by rfl) (by rfl) hAc6 (by rfl) (fun z2 ez2 fz2 gz2 => ?_)
        refine hxa_iload_n (by rfl) rfl ?_
        refine hxa_iconst (by rfl) rfl ?_
        refine hxj_iadd (by rfl) rfl hk_1 (by omega) (by omega) (fun z3 ez3 => ?_)
        refine hxa_call2 (by rfl) (by decide) (by rfl) (by rfl) (by rfl) (hX244 (d := d + 3)  z2 z3) ?_
        rintro _ _ ⟨rfl, z4, rfl, fz4⟩
        refine hxj_putI (by rfl) (by rfl) (by rfl) (by rfl) hAc6 (hbok (by rfl) rfl (by omega) (by omega)) (by rfl) (by rfl) (fun A5 hA5 eA5 fA5 => ?_)
        refine hxa_aload_n (by rfl) rfl ?_
        refine hxa_get (v := .ref 330) (by rfl) (by rfl) (by rfl) rfl ?_
        refine hxa_iload_n (by rfl) rfl ?_
        obtain ⟨R6, hR6, eR6⟩ := haa_rows (j := a1) rfl (by omega) (by omega)
        refine hxa_aald (by rfl) (Or.inr rfl) (by rfl) (hn_ix0 rfl (by omega)) eR6 ?_
        exact hxa_areturn (by rfl) rfl (hP _ _ ⟨hA5, _, rfl, hR6⟩)
      ·
        refine hxa_aload_n (by rfl) rfl ?_
        refine hxa_iload (by rfl) rfl ?_
        refine hxa_aload_n (by rfl) rfl ?_
        refine hxa_aload_n (by rfl) rfl ?_
        refine hxa_aload (by rfl) rfl ?_
        refine hxa_call0 (by rfl) (by rfl) (by rfl) (by rfl) (by rfl) (by rfl) (hX68 (d := d + 0) hAc6 x6_5 (by omega) (by omega) hT eT hL) ?_
        rintro _ A7 ⟨hA7, rfl⟩
        refine hxj_iinc (by rfl) rfl rfl hk_1 (by omega) (by omega) (fun _ => rfl) (fun z8 ez8 => ?_)
        refine hxa_goto (by rfl) ?_
        exact ih6 z8 A7 hA7 (by omega) (by omega) (by omega)
  refine hxa_aload_n (by rfl) rfl ?_
  refine hxj_getB (by rfl) (by rfl) (by rfl) hA (by rfl) (fun z9 ez9 fz9 gz9 => ?_)
  refine hxa_s1 (by rfl) (Or.inr ⟨_, rfl, rfl⟩) rfl ?_
  exact L6 (Int.toNat (10 - z9.toInt) + 1) z9 A hA (by omega) (by omega) (by omega)
theorem hX67 {d : Nat} {Bn Br : Int} {A0 A : hs_A} (hA : hJ 0 Bn Br A0 A)  (a1 : Int32) (p1 : 0 ≤ a1.toInt) (q1 : a1.toInt ≤ 9) {T : Nat} (hT : hTT T) (eT : A0.2.2.2 0 3 = T + 1) {L : Nat} (hL : hLL L) : hxC (d + 5) 67 hm_m67 [.ref 329, .int a1, .ref (T + 1), .ref (L + 1), .ref 324] A (fun r A' => hJ 0 Bn Br A0 A' ∧ ∃ R : Nat, r = some (.ref (R + 1)) ∧ hRR R) := hxC.of (by rfl) (hY67 hA a1 p1 q1 hT eT hL (fun r A' h => h))
theorem hY75 {d : Nat} {Bn Br : Int} {A0 A : hs_A} (hA : hJ 0 Bn Br A0 A)   {P : Option Value → hs_A → Prop} (hP : ∀ (r : Option Value) (A' : hs_A), (A = A' ∧ ∃ z : Int32, r = some (.int z)) → P r A') : hxa (d + 0) (some (.int)) hm_t75 0 [.ref 1] [] A P := by
  refine hxa_aload_n (by rfl) rfl ?_
  refine hxj_getI (by rfl) (by rfl) (by rfl) (fun z1 ez1 => ?_)
  exact hxa_ireturn (by rfl) rfl (hP _ _ ⟨rfl, _, rfl⟩)
theorem hX75 {d : Nat} {Bn Br : Int} {A0 A : hs_A} (hA : hJ 0 Bn Br A0 A)   : hxC (d + 1) 75 hm_m75 [.ref 1] A (fun r A' => A = A' ∧ ∃ z : Int32, r = some (.int z)) := hxC.of (by rfl) (hY75 hA  (fun r A' h => h))
theorem hY76 {d : Nat} {Bn Br : Int} {A0 A : hs_A} (hA : hJ 0 Bn Br A0 A)  (a1 : Int32) {P : Option Value → hs_A → Prop} (hP : ∀ (r : Option Value) (A' : hs_A), (A = A' ∧ ∃ z : Int32, r = some (.int z) ∧ ((z.toInt = 1 ∧ 0 ≤ a1.toInt ∧ a1.toInt ≤ 9) ∨ (z.toInt = 0))) → P r A') : hxa (d + 0) (some (.boolean)) hm_t76 0 [.ref 1, .int a1] [] A P := by
  have k0 := hk_0
  have k1 := hk_1
  obtain ⟨T0, hT0, -, eT0⟩ := hA.T
  refine hxa_iload_n (by rfl) rfl ?_
  refine hxj_zlt (by rfl) rfl (fun q1 => ?_) (fun q1 => ?_)
  ·
    refine hxa_iconst (by rfl) rfl ?_
    exact hxa_ireturn (by rfl) (by rfl) (hP _ _ ⟨rfl, _, rfl, by omega⟩)
  ·
    refine hxa_iload_n (by rfl) rfl ?_
    refine hxa_aload_n (by rfl) rfl ?_
    refine hxj_getT (by rfl) (by rfl) (by rfl) (hA.Tw eT0) ?_
    refine hxj_getB (by rfl) (hsT hT0) (by rfl) hA (hbT_4 hT0) (fun z2 ez2 fz2 gz2 => ?_)
    have rga1 := hn_rng a1
    refine hxj_cge (by rfl) rfl rfl (fun q3 => ?_) (fun q3 => ?_)
    ·
      refine hxa_iconst (by rfl) rfl ?_
      exact hxa_ireturn (by rfl) (by rfl) (hP _ _ ⟨rfl, _, rfl, by omega⟩)
    ·
      refine hxa_iload_n (by rfl) rfl ?_
      refine hxa_bipush (by rfl) rfl ?_
      refine hxj_cge (by rfl) rfl hk_10 (fun q4 => False.elim (by omega)) (fun q4 => ?_)
      refine hxa_iconst (by rfl) rfl ?_
      refine hxa_goto (by rfl) ?_
      exact hxa_ireturn (by rfl) (by rfl) (hP _ _ ⟨rfl, _, rfl, by omega⟩)
theorem hX76 {d : Nat} {Bn Br : Int} {A0 A : hs_A} (hA : hJ 0 Bn Br A0 A)  (a1 : Int32) : hxC (d + 1) 76 hm_m76 [.ref 1, .int a1] A (fun r A' => A = A' ∧ ∃ z : Int32, r = some (.int z) ∧ ((z.toInt = 1 ∧ 0 ≤ a1.toInt ∧ a1.toInt ≤ 9) ∨ (z.toInt = 0))) := hxC.of (by rfl) (hY76 hA a1 (fun r A' h => h))
theorem hY77 {d : Nat} {A : hs_A} (a1 : Int32) {P : Option Value → hs_A → Prop} (hP : ∀ (r : Option Value) (A' : hs_A), (A = A' ∧ ∃ z : Int32, r = some (.int z) ∧ ((z.toInt = 1 ∧ 0 ≤ a1.toInt ∧ a1.toInt ≤ 255) ∨ (z.toInt = 0))) → P r A') : hxa (d + 0) (some (.boolean)) hm_t77 0 [.int a1] [] A P := by
  have k0 := hk_0
  have k1 := hk_1
  refine hxa_iload_n (by rfl) rfl ?_
  refine hxj_zlt (by rfl) rfl (fun q1 => ?_) (fun q1 => ?_)
  ·
    refine hxa_iconst (by rfl) rfl ?_
    exact hxa_ireturn (by rfl) (by rfl) (hP _ _ ⟨rfl, _, rfl, by omega⟩)
  ·
    refine hxa_iload_n (by rfl) rfl ?_
    refine hxa_sipush (by rfl) rfl ?_
    refine hxj_cge (by rfl) rfl hk_256 (fun q2 => ?_) (fun q2 => ?_)
    ·
      refine hxa_iconst (by rfl) rfl ?_
      exact hxa_ireturn (by rfl) (by rfl) (hP _ _ ⟨rfl, _, rfl, by omega⟩)
    ·
      refine hxa_iconst (by rfl) rfl ?_
      refine hxa_goto (by rfl) ?_
      exact hxa_ireturn (by rfl) (by rfl) (hP _ _ ⟨rfl, _, rfl, by omega⟩)
theorem hX77 {d : Nat} {A : hs_A} (a1 : Int32) : hxC (d + 1) 77 hm_m77 [.int a1] A (fun r A' => A = A' ∧ ∃ z : Int32, r = some (.int z) ∧ ((z.toInt = 1 ∧ 0 ≤ a1.toInt ∧ a1.toInt ≤ 255) ∨ (z.toInt = 0))) := hxC.of (by rfl) (hY77 a1 (fun r A' h => h))
theorem hY80 {d : Nat} {Bn Br : Int} {A0 A : hs_A} (hA : hJ 0 Bn Br A0 A)  (a1 : Int32) (p1 : 0 ≤ a1.toInt) (q1 : a1.toInt ≤ 9) (a2 : Int32) {P : Option Value → hs_A → Prop} (hP : ∀ (r : Option Value) (A' : hs_A), (hJ 0 Bn Br A0 A' ∧ ∃ z : Int32, r = some (.int z)) → P r A') : hxa (d + 2) (some (.int)) hm_t80 0 [.ref 1, .int a1, .int a2] [] A P := by
  have k0 := hk_0
  have k4294967295 := hk_4294967295
  obtain ⟨T0, hT0, -, eT0⟩ := hA.T
  refine hxa_aload_n (by rfl) rfl ?_
  refine hxa_get (v := .ref 324) (by rfl) (by rfl) (by rfl) rfl ?_
  refine hxa_aload_n (by rfl) rfl ?_
  refine hxj_getT (by rfl) (by rfl) (by rfl) (hA.Tw eT0) ?_
  refine hxa_aload_n (by rfl) rfl ?_
  refine hxa_get (v := .ref 27) (by rfl) (by rfl) (by rfl) rfl ?_
  refine hxa_iload_n (by rfl) rfl ?_
  refine hxa_aload_n (by rfl) rfl ?_
  refine hxa_get (v := .ref 27) (by rfl) (by rfl) (by rfl) rfl ?_
  refine hxj_getI (by rfl) (by rfl) (by rfl) (fun z1 ez1 => ?_)
  refine hxa_call0 (by rfl) (by rfl) (by rfl) (by rfl) (by rfl) (by rfl) (hX1 (d := d + 0) hA hT0 eT0 hL26 a1 (by omega) (by omega) z1) ?_
  rintro _ A2 ⟨hA2, rfl⟩
  refine hxa_iload_n (by rfl) rfl ?_
  by_cases q3 : a2.toInt = 7
  ·
    refine hxa_tabIn (by rfl) (by omega) (by omega) (by rw [q3]; rfl) (tgt := 52) (by rfl) ?_
    refine hxa_aload_n (by rfl) rfl ?_
    refine hxa_get (v := .ref 324) (by rfl) (by rfl) (by rfl) rfl ?_
    refine hxa_iload_n (by rfl) rfl ?_
    refine hxj_zne (by rfl) rfl (fun q4 => ?_) (fun q4 => ?_)
    ·
      refine hxa_aload_n (by rfl) rfl ?_
      refine hxa_get (v := .ref 27) (by rfl) (by rfl) (by rfl) rfl ?_
      refine hxa_get (v := .ref 32) (by rfl) (by rfl) (by rfl) rfl ?_
      refine hxa_iload_n (by rfl) rfl ?_
      refine hxa_iconst (by rfl) rfl ?_
      refine hxj_isub (by rfl) rfl hk_1 (by omega) (by omega) (fun z5 ez5 => ?_)
      refine hxj_ialdB (by rfl) (by rfl) rfl (by omega) (by omega) hA2 (by rfl) (fun z6 ez6 fz6 gz6 => ?_)
      refine hxa_call2 (by rfl) (by decide) (by rfl) (by rfl) (by rfl) (hX242 (d := d + 1)  z6) ?_
      rintro _ _ ⟨rfl, z7, rfl, fz7⟩
      refine hxa_call0 (by rfl) (by rfl) (by rfl) (by rfl) (by rfl) (by rfl) (hX2 (d := d + 0) hA2 z7 (by omega) (by omega)) ?_
      rintro _ A8 ⟨hA8, z9, rfl⟩
      exact hxa_ireturn (by rfl) rfl (hP _ _ ⟨hA8, _, rfl⟩)
    ·
      refine hxa_iconst (by rfl) rfl ?_
      refine hxa_goto (by rfl) ?_
      refine hxa_call0 (by rfl) (by rfl) (by rfl) (by rfl) (by rfl) (by rfl) (hX2 (d := d + 0) hA2 (Int32.ofNat 0) (by omega) (by omega)) ?_
      rintro _ A10 ⟨hA10, z11, rfl⟩
      exact hxa_ireturn (by rfl) rfl (hP _ _ ⟨hA10, _, rfl⟩)
  ·
    by_cases q12 : a2.toInt = 8
    ·
      refine hxa_tabIn (by rfl) (by omega) (by omega) (by rw [q12]; rfl) (tgt := 82) (by rfl) ?_
      refine hxa_aload_n (by rfl) rfl ?_
      refine hxa_get (v := .ref 324) (by rfl) (by rfl) (by rfl) rfl ?_
      refine hxa_call0 (by rfl) (by rfl) (by rfl) (by rfl) (by rfl) (by rfl) (hX3 (d := d + 0) hA2 ) ?_
      rintro _ A13 ⟨hA13, z14, rfl, fz14⟩
      exact hxa_ireturn (by rfl) rfl (hP _ _ ⟨hA13, _, rfl⟩)
    ·
      by_cases q15 : a2.toInt = 9
      ·
        refine hxa_tabIn (by rfl) (by omega) (by omega) (by rw [q15]; rfl) (tgt := 90) (by rfl) ?_
        refine hxa_aload_n (by rfl) rfl ?_
        refine hxa_get (v := .ref 324) (by rfl) (by rfl) (by rfl) rfl ?_
        refine hxa_call0 (by rfl) (by rfl) (by rfl) (by rfl) (by rfl) (by rfl) (hX4 (d := d + 0) hA2 ) ?_
        rintro _ A16 ⟨hA16, z17, rfl⟩
        exact hxa_ireturn (by rfl) rfl (hP _ _ ⟨hA16, _, rfl⟩)
      ·
        refine hxa_tabOut (by rfl) (by omega) (tgt := 98) (by rfl) ?_
        refine hxa_iconst (by rfl) rfl ?_
        exact hxa_ireturn (by rfl) rfl (hP _ _ ⟨hA2, _, rfl⟩)
theorem hX80 {d : Nat} {Bn Br : Int} {A0 A : hs_A} (hA : hJ 0 Bn Br A0 A)  (a1 : Int32) (p1 : 0 ≤ a1.toInt) (q1 : a1.toInt ≤ 9) (a2 : Int32) : hxC (d + 3) 80 hm_m80 [.ref 1, .int a1, .int a2] A (fun r A' => hJ 0 Bn Br A0 A' ∧ ∃ z : Int32, r = some (.int z)) := hxC.of (by rfl) (hY80 hA a1 p1 q1 a2 (fun r A' h => h))
theorem hY79 {d : Nat} {Bn Br : Int} {A0 A : hs_A} (hA : hJ 0 Bn Br A0 A)  (a1 : Int32) (a2 : Int32) {P : Option Value → hs_A → Prop} (hP : ∀ (r : Option Value) (A' : hs_A), (hJ 0 Bn Br A0 A' ∧ ∃ z : Int32, r = some (.int z)) → P r A') : hxa (d + 3) (some (.int)) hm_t79 0 [.ref 1, .int a1, .int a2] [] A P := by
  have k0 := hk_0
  have k1 := hk_1
  have k4294967295 := hk_4294967295
  refine hxa_aload_n (by rfl) rfl ?_
  refine hxa_iload_n (by rfl) rfl ?_
  refine hxa_call0 (by rfl) (by rfl) (by rfl) (by rfl) (by rfl) (by rfl) (hX76 (d := d + 2) hA a1) ?_
  rintro _ _ ⟨rfl, z1, rfl, fz1⟩
  rcases fz1 with fz1 | fz1
  ·
    refine hxj_zne (by rfl) rfl (fun q2 => ?_) (fun q2 => False.elim (by omega))
    refine hxa_iload_n (by rfl) rfl ?_
    by_cases q3 : a2.toInt = 0
    ·
      refine hxa_tabIn (by rfl) (by omega) (by omega) (by rw [q3]; rfl) (tgt := 52) (by rfl) ?_
      refine hxa_aload_n (by rfl) rfl ?_
      refine hxa_get (v := .ref 27) (by rfl) (by rfl) (by rfl) rfl ?_
      refine hxa_get (v := .ref 28) (by rfl) (by rfl) (by rfl) rfl ?_
      refine hxa_iload_n (by rfl) rfl ?_
      refine hxj_iald (by rfl) (by rfl) rfl (by omega) (by omega) (fun z4 ez4 => ?_)
      exact hxa_ireturn (by rfl) rfl (hP _ _ ⟨hA, _, rfl⟩)
    ·
      by_cases q5 : a2.toInt = 1
      ·
        refine hxa_tabIn (by rfl) (by omega) (by omega) (by rw [q5]; rfl) (tgt := 62) (by rfl) ?_
        refine hxa_aload_n (by rfl) rfl ?_
        refine hxa_get (v := .ref 27) (by rfl) (by rfl) (by rfl) rfl ?_
        refine hxa_get (v := .ref 29) (by rfl) (by rfl) (by rfl) rfl ?_
        refine hxa_iload_n (by rfl) rfl ?_
        refine hxj_iald (by rfl) (by rfl) rfl (by omega) (by omega) (fun z6 ez6 => ?_)
        exact hxa_ireturn (by rfl) rfl (hP _ _ ⟨hA, _, rfl⟩)
      ·
        by_cases q7 : a2.toInt = 2
        ·
          refine hxa_tabIn (by rfl) (by omega) (by omega) (by rw [q7]; rfl) (tgt := 72) (by rfl) ?_
          refine hxa_aload_n (by rfl) rfl ?_
          refine hxa_get (v := .ref 27) (by rfl) (by rfl) (by rfl) rfl ?_
          refine hxa_get (v := .ref 32) (by rfl) (by rfl) (by rfl) rfl ?_
          refine hxa_iload_n (by rfl) rfl ?_
          refine hxj_ialdB (by rfl) (by rfl) rfl (by omega) (by omega) hA (by rfl) (fun z8 ez8 fz8 gz8 => ?_)
          exact hxa_ireturn (by rfl) rfl (hP _ _ ⟨hA, _, rfl⟩)
        ·
          by_cases q9 : a2.toInt = 3
          ·
            refine hxa_tabIn (by rfl) (by omega) (by omega) (by rw [q9]; rfl) (tgt := 82) (by rfl) ?_
            refine hxa_aload_n (by rfl) rfl ?_
            refine hxa_get (v := .ref 27) (by rfl) (by rfl) (by rfl) rfl ?_
            refine hxa_get (v := .ref 30) (by rfl) (by rfl) (by rfl) rfl ?_
            refine hxa_iload_n (by rfl) rfl ?_
            refine hxj_iald (by rfl) (by rfl) rfl (by omega) (by omega) (fun z10 ez10 => ?_)
            exact hxa_ireturn (by rfl) rfl (hP _ _ ⟨hA, _, rfl⟩)
          ·
            by_cases q11 : a2.toInt = 4
            ·
              refine hxa_tabIn (by rfl) (by omega) (by omega) (by rw [q11]; rfl) (tgt := 92) (by rfl) ?_
              refine hxa_aload_n (by rfl) rfl ?_
              refine hxa_get (v := .ref 27) (by rfl) (by rfl) (by rfl) rfl ?_
              refine hxa_iload_n (by rfl) rfl ?_
              refine hxa_call0 (by rfl) (by rfl) (by rfl) (by rfl) (by rfl) (by rfl) (hX18 (d := d + 2) hA hL26 a1) ?_
              rintro _ _ ⟨rfl, z12, rfl, fz12⟩
              refine hxj_zeq (by rfl) rfl (fun q13 => ?_) (fun q13 => ?_)
              ·
                refine hxa_iconst (by rfl) rfl ?_
                exact hxa_ireturn (by rfl) rfl (hP _ _ ⟨hA, _, rfl⟩)
              ·
                refine hxa_iconst (by rfl) rfl ?_
                refine hxa_goto (by rfl) ?_
                exact hxa_ireturn (by rfl) rfl (hP _ _ ⟨hA, _, rfl⟩)
            ·
              by_cases q14 : a2.toInt = 5
              ·
                refine hxa_tabIn (by rfl) (by omega) (by omega) (by rw [q14]; rfl) (tgt := 109) (by rfl) ?_
                refine hxa_aload_n (by rfl) rfl ?_
                refine hxa_get (v := .ref 27) (by rfl) (by rfl) (by rfl) rfl ?_
                refine hxa_get (v := .ref 33) (by rfl) (by rfl) (by rfl) rfl ?_
                refine hxa_iload_n (by rfl) rfl ?_
                refine hxj_iald (by rfl) (by rfl) rfl (by omega) (by omega) (fun z15 ez15 => ?_)
                exact hxa_ireturn (by rfl) rfl (hP _ _ ⟨hA, _, rfl⟩)
              ·
                by_cases q16 : a2.toInt = 6
                ·
                  refine hxa_tabIn (by rfl) (by omega) (by omega) (by rw [q16]; rfl) (tgt := 119) (by rfl) ?_
                  refine hxa_aload_n (by rfl) rfl ?_
                  refine hxa_get (v := .ref 27) (by rfl) (by rfl) (by rfl) rfl ?_
                  refine hxa_get (v := .ref 31) (by rfl) (by rfl) (by rfl) rfl ?_
                  refine hxa_iload_n (by rfl) rfl ?_
                  refine hxj_iald (by rfl) (by rfl) rfl (by omega) (by omega) (fun z17 ez17 => ?_)
                  exact hxa_ireturn (by rfl) rfl (hP _ _ ⟨hA, _, rfl⟩)
                ·
                  refine hxa_tabOut (by rfl) (by omega) (tgt := 129) (by rfl) ?_
                  refine hxa_aload_n (by rfl) rfl ?_
                  refine hxa_iload_n (by rfl) rfl ?_
                  refine hxa_iload_n (by rfl) rfl ?_
                  refine hxa_call0 (by rfl) (by rfl) (by rfl) (by rfl) (by rfl) (by rfl) (hX80 (d := d + 0) hA a1 (by omega) (by omega) a2) ?_
                  rintro _ A18 ⟨hA18, z19, rfl⟩
                  exact hxa_ireturn (by rfl) rfl (hP _ _ ⟨hA18, _, rfl⟩)
  ·
    refine hxj_zne (by rfl) rfl (fun q20 => False.elim (by omega)) (fun q20 => ?_)
    refine hxa_iconst (by rfl) rfl ?_
    exact hxa_ireturn (by rfl) rfl (hP _ _ ⟨hA, _, rfl⟩)
theorem hX79 {d : Nat} {Bn Br : Int} {A0 A : hs_A} (hA : hJ 0 Bn Br A0 A)  (a1 : Int32) (a2 : Int32) : hxC (d + 4) 79 hm_m79 [.ref 1, .int a1, .int a2] A (fun r A' => hJ 0 Bn Br A0 A' ∧ ∃ z : Int32, r = some (.int z)) := hxC.of (by rfl) (hY79 hA a1 a2 (fun r A' h => h))
theorem hY81 {d : Nat} {Bn Br : Int} {A0 A : hs_A} (hA : hJ 0 Bn Br A0 A)  (a1 : Int32) (a2 : Int32) {P : Option Value → hs_A → Prop} (hP : ∀ (r : Option Value) (A' : hs_A), (hJ 0 Bn Br A0 A' ∧ ∃ z : Int32, r = some (.int z)) → P r A') : hxa (d + 3) (some (.int)) hm_t81 0 [.ref 1, .int a1, .int a2] [] A P := by
  have k4294967295 := hk_4294967295
  obtain ⟨T0, hT0, -, eT0⟩ := hA.T
  refine hxa_aload_n (by rfl) rfl ?_
  refine hxa_iload_n (by rfl) rfl ?_
  refine hxa_call0 (by rfl) (by rfl) (by rfl) (by rfl) (by rfl) (by rfl) (hX76 (d := d + 2) hA a1) ?_
  rintro _ _ ⟨rfl, z1, rfl, fz1⟩
  rcases fz1 with fz1 | fz1
  ·
    refine hxj_zeq (by rfl) rfl (fun q2 => False.elim (by omega)) (fun q2 => ?_)
    refine hxa_iload_n (by rfl) rfl ?_
    refine hxa_call2 (by rfl) (by decide) (by rfl) (by rfl) (by rfl) (hX77 (d := d + 2)  a2) ?_
    rintro _ _ ⟨rfl, z3, rfl, fz3⟩
    rcases fz3 with fz3 | fz3
    ·
      refine hxj_zne (by rfl) rfl (fun q4 => ?_) (fun q4 => False.elim (by omega))
      refine hxa_aload_n (by rfl) rfl ?_
      refine hxa_get (v := .ref 324) (by rfl) (by rfl) (by rfl) rfl ?_
      refine hxa_aload_n (by rfl) rfl ?_
      refine hxj_getT (by rfl) (by rfl) (by rfl) (hA.Tw eT0) ?_
      refine hxa_aload_n (by rfl) rfl ?_
      refine hxa_get (v := .ref 27) (by rfl) (by rfl) (by rfl) rfl ?_
      refine hxa_iload_n (by rfl) rfl ?_
      refine hxa_aload_n (by rfl) rfl ?_
      refine hxa_get (v := .ref 27) (by rfl) (by rfl) (by rfl) rfl ?_
      refine hxj_getI (by rfl) (by rfl) (by rfl) (fun z5 ez5 => ?_)
      refine hxa_call0 (by rfl) (by rfl) (by rfl) (by rfl) (by rfl) (by rfl) (hX1 (d := d + 1) hA hT0 eT0 hL26 a1 (by omega) (by omega) z5) ?_
      rintro _ A6 ⟨hA6, rfl⟩
      refine hxa_aload_n (by rfl) rfl ?_
      refine hxa_get (v := .ref 324) (by rfl) (by rfl) (by rfl) rfl ?_
      refine hxa_iload_n (by rfl) rfl ?_
      refine hxa_call0 (by rfl) (by rfl) (by rfl) (by rfl) (by rfl) (by rfl) (hX5 (d := d + 0) hA6 a2) ?_
      rintro _ A7 ⟨hA7, z8, rfl, fz8⟩
      exact hxa_ireturn (by rfl) rfl (hP _ _ ⟨hA7, _, rfl⟩)
    ·
      refine hxj_zne (by rfl) rfl (fun q9 => False.elim (by omega)) (fun q9 => ?_)
      refine hxa_iconst (by rfl) rfl ?_
      exact hxa_ireturn (by rfl) rfl (hP _ _ ⟨hA, _, rfl⟩)
  ·
    refine hxj_zeq (by rfl) rfl (fun q10 => ?_) (fun q10 => False.elim (by omega))
    refine hxa_iconst (by rfl) rfl ?_
    exact hxa_ireturn (by rfl) rfl (hP _ _ ⟨hA, _, rfl⟩)
theorem hX81 {d : Nat} {Bn Br : Int} {A0 A : hs_A} (hA : hJ 0 Bn Br A0 A)  (a1 : Int32) (a2 : Int32) : hxC (d + 4) 81 hm_m81 [.ref 1, .int a1, .int a2] A (fun r A' => hJ 0 Bn Br A0 A' ∧ ∃ z : Int32, r = some (.int z)) := hxC.of (by rfl) (hY81 hA a1 a2 (fun r A' h => h))
theorem hY82 {d : Nat} {Bn Br : Int} {A0 A : hs_A} (hA : hJ 0 Bn Br A0 A)   {P : Option Value → hs_A → Prop} (hP : ∀ (r : Option Value) (A' : hs_A), (hJ 0 Bn Br A0 A' ∧ r = none) → P r A') : hxa (d + 2) none hm_t82 0 [.ref 1] [] A P := by
  refine hxa_aload_n (by rfl) rfl ?_
  refine hxa_get (v := .ref 41) (by rfl) (by rfl) (by rfl) rfl ?_
  refine hxa_aload_n (by rfl) rfl ?_
  refine hxa_get (v := .ref 27) (by rfl) (by rfl) (by rfl) rfl ?_
  refine hxa_call0 (by rfl) (by rfl) (by rfl) (by rfl) (by rfl) (by rfl) (hX34 (d := d + 0) hA hL26) ?_
  rintro _ A1 ⟨hA1, rfl⟩
  refine hxa_aload_n (by rfl) rfl ?_
  refine hxa_get (v := .ref 329) (by rfl) (by rfl) (by rfl) rfl ?_
  refine hxa_iconst (by rfl) rfl ?_
  refine hxj_putI (by rfl) (by rfl) (by rfl) (by rfl) hA1 (hbok (by rfl) hk_0 (by omega) (by omega)) (by rfl) (by rfl) (fun A2 hA2 eA2 fA2 => ?_)
  exact hxa_return (by rfl) rfl (hP _ _ ⟨hA2, rfl⟩)
theorem hX82 {d : Nat} {Bn Br : Int} {A0 A : hs_A} (hA : hJ 0 Bn Br A0 A)   : hxC (d + 3) 82 hm_m82 [.ref 1] A (fun r A' => hJ 0 Bn Br A0 A' ∧ r = none) := hxC.of (by rfl) (hY82 hA  (fun r A' h => h))
theorem hY83 {d : Nat} {Bn Br : Int} {A0 A : hs_A} (hA : hJ 0 Bn Br A0 A)  (a1 : Int32) (a2 : Int32) (p2 : 0 ≤ a2.toInt) (q2 : a2.toInt ≤ 1) {P : Option Value → hs_A → Prop} (hP : ∀ (r : Option Value) (A' : hs_A), (hJ 0 Bn Br A0 A' ∧ ∃ z : Int32, r = some (.int z) ∧ ((0 ≤ z.toInt ∧ z.toInt ≤ 1))) → P r A') : hxa (d + 3) (some (.boolean)) hm_t83 0 [.ref 1, .int a1, .int a2] [] A P := by
  have k0 := hk_0
  have k1 := hk_1
  refine hxa_aload_n (by rfl) rfl ?_
  refine hxa_iload_n (by rfl) rfl ?_
  refine hxa_call0 (by rfl) (by rfl) (by rfl) (by rfl) (by rfl) (by rfl) (hX76 (d := d + 2) hA a1) ?_
  rintro _ _ ⟨rfl, z1, rfl, fz1⟩
  rcases fz1 with fz1 | fz1
  ·
    refine hxj_zeq (by rfl) rfl (fun q2 => False.elim (by omega)) (fun q2 => ?_)
    refine hxa_aload_n (by rfl) rfl ?_
    refine hxa_get (v := .ref 27) (by rfl) (by rfl) (by rfl) rfl ?_
    refine hxa_iload_n (by rfl) rfl ?_
    refine hxa_call0 (by rfl) (by rfl) (by rfl) (by rfl) (by rfl) (by rfl) (hX18 (d := d + 2) hA hL26 a1) ?_
    rintro _ _ ⟨rfl, z3, rfl, fz3⟩
    refine hxa_iload_n (by rfl) rfl ?_
    refine hxj_cne (by rfl) rfl rfl (fun q4 => ?_) (fun q4 => ?_)
    ·
      refine hxa_aload_n (by rfl) rfl ?_
      refine hxa_call0 (by rfl) (by rfl) (by rfl) (by rfl) (by rfl) (by rfl) (hX82 (d := d + 0) hA ) ?_
      rintro _ A5 ⟨hA5, rfl⟩
      refine hxa_aload_n (by rfl) rfl ?_
      refine hxa_get (v := .ref 27) (by rfl) (by rfl) (by rfl) rfl ?_
      refine hxa_dupR (by rfl) ?_
      refine hxj_getI (by rfl) (by rfl) (by rfl) (fun z6 ez6 => ?_)
      refine hxa_iconst (by rfl) rfl ?_
      refine hxa_iload_n (by rfl) rfl ?_
      refine hxj_ishlU (by rfl) (fun z7 => ?_)
      refine hxj_ixorU (by rfl) (fun z8 => ?_)
      refine hxj_putI (by rfl) (by rfl) (by rfl) (by rfl) hA5 (hbokN (by rfl)) (by rfl) (by rfl) (fun A9 hA9 eA9 fA9 => ?_)
      refine hxa_iconst (by rfl) rfl ?_
      exact hxa_ireturn (by rfl) (by rfl) (hP _ _ ⟨hA9, _, rfl, by omega⟩)
    ·
      refine hxa_iconst (by rfl) rfl ?_
      exact hxa_ireturn (by rfl) (by rfl) (hP _ _ ⟨hA, _, rfl, by omega⟩)
  ·
    refine hxj_zeq (by rfl) rfl (fun q10 => ?_) (fun q10 => False.elim (by omega))
    refine hxa_iconst (by rfl) rfl ?_
    exact hxa_ireturn (by rfl) (by rfl) (hP _ _ ⟨hA, _, rfl, by omega⟩)
theorem hX83 {d : Nat} {Bn Br : Int} {A0 A : hs_A} (hA : hJ 0 Bn Br A0 A)  (a1 : Int32) (a2 : Int32) (p2 : 0 ≤ a2.toInt) (q2 : a2.toInt ≤ 1) : hxC (d + 4) 83 hm_m83 [.ref 1, .int a1, .int a2] A (fun r A' => hJ 0 Bn Br A0 A' ∧ ∃ z : Int32, r = some (.int z) ∧ ((0 ≤ z.toInt ∧ z.toInt ≤ 1))) := hxC.of (by rfl) (hY83 hA a1 a2 p2 q2 (fun r A' h => h))
theorem hY84 {d : Nat} {Bn Br : Int} {A0 A : hs_A} (hA : hJ 0 Bn Br A0 A)  (a1 : Int32) {P : Option Value → hs_A → Prop} (hP : ∀ (r : Option Value) (A' : hs_A), (hJ 0 Bn Br A0 A' ∧ ∃ z : Int32, r = some (.int z) ∧ ((0 ≤ z.toInt ∧ z.toInt ≤ 1))) → P r A') : hxa (d + 3) (some (.boolean)) hm_t84 0 [.ref 1, .int a1] [] A P := by
  have k0 := hk_0
  have k1 := hk_1
  obtain ⟨T0, hT0, -, eT0⟩ := hA.T
  refine hxa_iload_n (by rfl) rfl ?_
  refine hxa_call2 (by rfl) (by decide) (by rfl) (by rfl) (by rfl) (hX77 (d := d + 2)  a1) ?_
  rintro _ _ ⟨rfl, z1, rfl, fz1⟩
  rcases fz1 with fz1 | fz1
  ·
    refine hxj_zeq (by rfl) rfl (fun q2 => False.elim (by omega)) (fun q2 => ?_)
    refine hxa_aload_n (by rfl) rfl ?_
    refine hxj_getT (by rfl) (by rfl) (by rfl) (hA.Tw eT0) ?_
    refine hxj_getB (by rfl) (hsT hT0) (by rfl) hA (hbT_4 hT0) (fun z3 ez3 fz3 gz3 => ?_)
    refine hxj_zne (by rfl) rfl (fun q4 => ?_) (fun q4 => ?_)
    ·
      refine hxa_aload_n (by rfl) rfl ?_
      refine hxa_call0 (by rfl) (by rfl) (by rfl) (by rfl) (by rfl) (by rfl) (hX82 (d := d + 0) hA ) ?_
      rintro _ A5 ⟨hA5, rfl⟩
      refine hxa_aload_n (by rfl) rfl ?_
      refine hxa_get (v := .ref 27) (by rfl) (by rfl) (by rfl) rfl ?_
      refine hxa_iload_n (by rfl) rfl ?_
      refine hxj_putI (by rfl) (by rfl) (by rfl) (by rfl) hA5 (hbok (by rfl) rfl (by omega) (by omega)) (by rfl) (by rfl) (fun A6 hA6 eA6 fA6 => ?_)
      refine hxa_iconst (by rfl) rfl ?_
      exact hxa_ireturn (by rfl) (by rfl) (hP _ _ ⟨hA6, _, rfl, by omega⟩)
    ·
      refine hxa_iconst (by rfl) rfl ?_
      exact hxa_ireturn (by rfl) (by rfl) (hP _ _ ⟨hA, _, rfl, by omega⟩)
  ·
    refine hxj_zeq (by rfl) rfl (fun q7 => ?_) (fun q7 => False.elim (by omega))
    refine hxa_iconst (by rfl) rfl ?_
    exact hxa_ireturn (by rfl) (by rfl) (hP _ _ ⟨hA, _, rfl, by omega⟩)
theorem hX84 {d : Nat} {Bn Br : Int} {A0 A : hs_A} (hA : hJ 0 Bn Br A0 A)  (a1 : Int32) : hxC (d + 4) 84 hm_m84 [.ref 1, .int a1] A (fun r A' => hJ 0 Bn Br A0 A' ∧ ∃ z : Int32, r = some (.int z) ∧ ((0 ≤ z.toInt ∧ z.toInt ≤ 1))) := hxC.of (by rfl) (hY84 hA a1 (fun r A' h => h))
theorem hY85 {d : Nat} {Bn Br : Int} {A0 A : hs_A} (hA : hJ 0 Bn Br A0 A)  (a1 : Int32) (a2 : Int32) {P : Option Value → hs_A → Prop} (hP : ∀ (r : Option Value) (A' : hs_A), (hJ 0 Bn Br A0 A' ∧ ∃ z : Int32, r = some (.int z)) → P r A') : hxa (d + 3) (some (.int)) hm_t85 0 [.ref 1, .int a1, .int a2] [] A P := by
  have k4294967295 := hk_4294967295
  refine hxa_aload_n (by rfl) rfl ?_
  refine hxa_iload_n (by rfl) rfl ?_
  refine hxa_call0 (by rfl) (by rfl) (by rfl) (by rfl) (by rfl) (by rfl) (hX76 (d := d + 2) hA a1) ?_
  rintro _ _ ⟨rfl, z1, rfl, fz1⟩
  rcases fz1 with fz1 | fz1
  ·
    refine hxj_zeq (by rfl) rfl (fun q2 => False.elim (by omega)) (fun q2 => ?_)
    refine hxa_aload_n (by rfl) rfl ?_
    refine hxa_iload_n (by rfl) rfl ?_
    refine hxa_call0 (by rfl) (by rfl) (by rfl) (by rfl) (by rfl) (by rfl) (hX76 (d := d + 2) hA a2) ?_
    rintro _ _ ⟨rfl, z3, rfl, fz3⟩
    rcases fz3 with fz3 | fz3
    ·
      refine hxj_zeq (by rfl) rfl (fun q4 => False.elim (by omega)) (fun q4 => ?_)
      refine hxa_iload_n (by rfl) rfl ?_
      refine hxa_iload_n (by rfl) rfl ?_
      refine hxj_cne (by rfl) rfl rfl (fun q5 => ?_) (fun q5 => ?_)
      ·
        refine hxa_aload_n (by rfl) rfl ?_
        refine hxa_call0 (by rfl) (by rfl) (by rfl) (by rfl) (by rfl) (by rfl) (hX82 (d := d + 0) hA ) ?_
        rintro _ A6 ⟨hA6, rfl⟩
        refine hxa_aload_n (by rfl) rfl ?_
        refine hxa_get (v := .ref 27) (by rfl) (by rfl) (by rfl) rfl ?_
        refine hxa_iload_n (by rfl) rfl ?_
        refine hxa_aload_n (by rfl) rfl ?_
        refine hxa_get (v := .ref 27) (by rfl) (by rfl) (by rfl) rfl ?_
        refine hxa_get (v := .ref 32) (by rfl) (by rfl) (by rfl) rfl ?_
        refine hxa_iload_n (by rfl) rfl ?_
        refine hxj_ialdB (by rfl) (by rfl) rfl (by omega) (by omega) hA6 (by rfl) (fun z7 ez7 fz7 gz7 => ?_)
        refine hxa_call0 (by rfl) (by rfl) (by rfl) (by rfl) (by rfl) (by rfl) (hX23 (d := d + 2) hA6 hL26 a2 (by omega) (by omega) z7 (by omega) (by omega)) ?_
        rintro _ A8 ⟨hA8, rfl⟩
        refine hxa_aload_n (by rfl) rfl ?_
        refine hxa_get (v := .ref 27) (by rfl) (by rfl) (by rfl) rfl ?_
        refine hxa_get (v := .ref 32) (by rfl) (by rfl) (by rfl) rfl ?_
        refine hxa_iload_n (by rfl) rfl ?_
        refine hxj_ialdB (by rfl) (by rfl) rfl (by omega) (by omega) hA8 (by rfl) (fun z9 ez9 fz9 gz9 => ?_)
        exact hxa_ireturn (by rfl) rfl (hP _ _ ⟨hA8, _, rfl⟩)
      ·
        refine hxa_iconst (by rfl) rfl ?_
        exact hxa_ireturn (by rfl) rfl (hP _ _ ⟨hA, _, rfl⟩)
    ·
      refine hxj_zeq (by rfl) rfl (fun q10 => ?_) (fun q10 => False.elim (by omega))
      refine hxa_iconst (by rfl) rfl ?_
      exact hxa_ireturn (by rfl) rfl (hP _ _ ⟨hA, _, rfl⟩)
  ·
    refine hxj_zeq (by rfl) rfl (fun q11 => ?_) (fun q11 => False.elim (by omega))
    refine hxa_iconst (by rfl) rfl ?_
    exact hxa_ireturn (by rfl) rfl (hP _ _ ⟨hA, _, rfl⟩)
theorem hX85 {d : Nat} {Bn Br : Int} {A0 A : hs_A} (hA : hJ 0 Bn Br A0 A)  (a1 : Int32) (a2 : Int32) : hxC (d + 4) 85 hm_m85 [.ref 1, .int a1, .int a2] A (fun r A' => hJ 0 Bn Br A0 A' ∧ ∃ z : Int32, r = some (.int z)) := hxC.of (by rfl) (hY85 hA a1 a2 (fun r A' h => h))
theorem hY86 {d : Nat} {Bn Br : Int} {A0 A : hs_A} (hA : hJ 0 Bn Br A0 A)  (a1 : Int32) (a2 : Int32) {P : Option Value → hs_A → Prop} (hP : ∀ (r : Option Value) (A' : hs_A), (hJ 0 Bn Br A0 A' ∧ ∃ z : Int32, r = some (.int z) ∧ ((0 ≤ z.toInt ∧ z.toInt ≤ 1))) → P r A') : hxa (d + 3) (some (.boolean)) hm_t86 0 [.ref 1, .int a1, .int a2] [] A P := by
  have k0 := hk_0
  have k1 := hk_1
  refine hxa_aload_n (by rfl) rfl ?_
  refine hxa_iload_n (by rfl) rfl ?_
  refine hxa_call0 (by rfl) (by rfl) (by rfl) (by rfl) (by rfl) (by rfl) (hX76 (d := d + 2) hA a1) ?_
  rintro _ _ ⟨rfl, z1, rfl, fz1⟩
  rcases fz1 with fz1 | fz1
  ·
    refine hxj_zeq (by rfl) rfl (fun q2 => False.elim (by omega)) (fun q2 => ?_)
    refine hxa_aload_n (by rfl) rfl ?_
    refine hxa_iload_n (by rfl) rfl ?_
    refine hxa_call0 (by rfl) (by rfl) (by rfl) (by rfl) (by rfl) (by rfl) (hX76 (d := d + 2) hA a2) ?_
    rintro _ _ ⟨rfl, z3, rfl, fz3⟩
    rcases fz3 with fz3 | fz3
    ·
      refine hxj_zeq (by rfl) rfl (fun q4 => False.elim (by omega)) (fun q4 => ?_)
      refine hxa_iload_n (by rfl) rfl ?_
      refine hxa_iload_n (by rfl) rfl ?_
      refine hxj_cne (by rfl) rfl rfl (fun q5 => ?_) (fun q5 => ?_)
      ·
        refine hxa_aload_n (by rfl) rfl ?_
        refine hxa_call0 (by rfl) (by rfl) (by rfl) (by rfl) (by rfl) (by rfl) (hX82 (d := d + 0) hA ) ?_
        rintro _ A6 ⟨hA6, rfl⟩
        refine hxa_aload_n (by rfl) rfl ?_
        refine hxa_get (v := .ref 27) (by rfl) (by rfl) (by rfl) rfl ?_
        refine hxa_iload_n (by rfl) rfl ?_
        refine hxa_iload_n (by rfl) rfl ?_
        refine hxa_call0 (by rfl) (by rfl) (by rfl) (by rfl) (by rfl) (by rfl) (hX24 (d := d + 1) hA6 hL26 a1 (by omega) (by omega) a2 (by omega) (by omega)) ?_
        rintro _ A7 ⟨hA7, rfl⟩
        refine hxa_iconst (by rfl) rfl ?_
        exact hxa_ireturn (by rfl) (by rfl) (hP _ _ ⟨hA7, _, rfl, by omega⟩)
      ·
        refine hxa_iconst (by rfl) rfl ?_
        exact hxa_ireturn (by rfl) (by rfl) (hP _ _ ⟨hA, _, rfl, by omega⟩)
    ·
      refine hxj_zeq (by rfl) rfl (fun q8 => ?_) (fun q8 => False.elim (by omega))
      refine hxa_iconst (by rfl) rfl ?_
      exact hxa_ireturn (by rfl) (by rfl) (hP _ _ ⟨hA, _, rfl, by omega⟩)
  ·
    refine hxj_zeq (by rfl) rfl (fun q9 => ?_) (fun q9 => False.elim (by omega))
    refine hxa_iconst (by rfl) rfl ?_
    exact hxa_ireturn (by rfl) (by rfl) (hP _ _ ⟨hA, _, rfl, by omega⟩)
theorem hX86 {d : Nat} {Bn Br : Int} {A0 A : hs_A} (hA : hJ 0 Bn Br A0 A)  (a1 : Int32) (a2 : Int32) : hxC (d + 4) 86 hm_m86 [.ref 1, .int a1, .int a2] A (fun r A' => hJ 0 Bn Br A0 A' ∧ ∃ z : Int32, r = some (.int z) ∧ ((0 ≤ z.toInt ∧ z.toInt ≤ 1))) := hxC.of (by rfl) (hY86 hA a1 a2 (fun r A' h => h))
theorem hY87 {d : Nat} {Bn Br : Int} {A0 A : hs_A} (hA : hJ 0 Bn Br A0 A)  (a1 : Int32) {P : Option Value → hs_A → Prop} (hP : ∀ (r : Option Value) (A' : hs_A), (hJ 0 Bn Br A0 A' ∧ ∃ z : Int32, r = some (.int z)) → P r A') : hxa (d + 4) (some (.int)) hm_t87 0 [.ref 1, .int a1, .retAddr 0] [] A P := by
  have k0 := hk_0
  have k1 := hk_1
  have k4294967295 := hk_4294967295
  have k72 := hk_72
  obtain ⟨T0, hT0, -, eT0⟩ := hA.T
  have L22 : ∀ (m22 : Nat) (x22_2 : Int32) (Ac22 : hs_A) (hAc22 : hJ 0 Bn Br A0 Ac22) (bx22_2 : 0 ≤ x22_2.toInt) (cx22_2 : x22_2.toInt ≤ 72) (ba1 : 0 ≤ a1.toInt) (ca1 : a1.toInt ≤ 72) (hm22 : 72 - x22_2.toInt < (m22 : Int)), hxa (d + 4) (some (.int)) hm_t87 22 [.ref 1, .int a1, .int x22_2] [] Ac22 P := by
    intro m22
    induction m22 with
    | zero => intro x22_2 Ac22 hAc22 bx22_2 cx22_2 ba1 ca1 hm22;  exact False.elim (by omega)
    | succ m22 ih22 =>
      intro x22_2 Ac22 hAc22 bx22_2 cx22_2 ba1 ca1 hm22
      refine hxa_iload_n (by rfl) rfl ?_
      refine hxa_iload_n (by rfl) rfl ?_
      refine hxj_cge (by rfl) rfl rfl (fun q1 => ?_) (fun q1 => ?_)
      ·
        refine hxa_aload_n (by rfl) rfl ?_
        refine hxa_get (v := .ref 27) (by rfl) (by rfl) (by rfl) rfl ?_
        refine hxj_getI (by rfl) (by rfl) (by rfl) (fun z2 ez2 => ?_)
        exact hxa_ireturn (by rfl) rfl (hP _ _ ⟨hAc22, _, rfl⟩)
      ·
        refine hxa_aload_n (by rfl) rfl ?_
        refine hxa_get (v := .ref 27) (by rfl) (by rfl) (by rfl) rfl ?_
        refine hxa_aload_n (by rfl) rfl ?_
        refine hxj_getT (by rfl) (by rfl) (by rfl) (hAc22.Tw eT0) ?_
        refine hxa_aload_n (by rfl) rfl ?_
        refine hxa_get (v := .ref 324) (by rfl) (by rfl) (by rfl) rfl ?_
        refine hxa_iconst (by rfl) rfl ?_
        refine hxa_aload_n (by rfl) rfl ?_
        refine hxj_getT (by rfl) (by rfl) (by rfl) (hAc22.Tw eT0) ?_
        refine hxj_getI (by rfl) (hsT hT0) (by rfl) (fun z3 ez3 => ?_)
        refine hxa_call0 (by rfl) (by rfl) (by rfl) (by rfl) (by rfl) (by rfl) (hX26 (d := d + 0) hAc22 hL26 hT0 eT0 (Int32.ofNat 1) (by omega) (by omega) z3) ?_
        rintro _ A4 ⟨hA4, rfl⟩
        refine hxj_iinc (by rfl) rfl rfl hk_1 (by omega) (by omega) (fun _ => rfl) (fun z5 ez5 => ?_)
        refine hxa_goto (by rfl) ?_
        exact ih22 z5 A4 hA4 (by omega) (by omega) (by omega) (by omega) (by omega)
  refine hxa_iload_n (by rfl) rfl ?_
  refine hxa_iconst (by rfl) rfl ?_
  refine hxa_bipush (by rfl) rfl ?_
  refine hxa_call2 (by rfl) (by decide) (by rfl) (by rfl) (by rfl) (hX78 (d := d + 3)  a1 (Int32.ofNat 0) (Int32.ofNat 72)) ?_
  rintro _ _ ⟨rfl, z6, rfl, fz6⟩
  rcases fz6 with fz6 | fz6
  ·
    refine hxj_zne (by rfl) rfl (fun q7 => ?_) (fun q7 => False.elim (by omega))
    refine hxa_iload_n (by rfl) rfl ?_
    refine hxj_zle (by rfl) rfl (fun q8 => ?_) (fun q8 => ?_)
    ·
      refine hxa_iconst (by rfl) rfl ?_
      refine hxa_s1 (by rfl) (Or.inl ⟨_, rfl, rfl⟩) rfl ?_
      exact L22 (Int.toNat (72 - 0) + 1) (Int32.ofNat 0) A hA (by omega) (by omega) (by omega) (by omega) (by omega)
    ·
      refine hxa_aload_n (by rfl) rfl ?_
      refine hxa_call0 (by rfl) (by rfl) (by rfl) (by rfl) (by rfl) (by rfl) (hX82 (d := d + 1) hA ) ?_
      rintro _ A9 ⟨hA9, rfl⟩
      refine hxa_iconst (by rfl) rfl ?_
      refine hxa_s1 (by rfl) (Or.inl ⟨_, rfl, rfl⟩) rfl ?_
      exact L22 (Int.toNat (72 - 0) + 1) (Int32.ofNat 0) A9 hA9 (by omega) (by omega) (by omega) (by omega) (by omega)
  ·
    refine hxj_zne (by rfl) rfl (fun q10 => False.elim (by omega)) (fun q10 => ?_)
    refine hxa_iconst (by rfl) rfl ?_
    exact hxa_ireturn (by rfl) rfl (hP _ _ ⟨hA, _, rfl⟩)
theorem hX87 {d : Nat} {Bn Br : Int} {A0 A : hs_A} (hA : hJ 0 Bn Br A0 A)  (a1 : Int32) : hxC (d + 5) 87 hm_m87 [.ref 1, .int a1] A (fun r A' => hJ 0 Bn Br A0 A' ∧ ∃ z : Int32, r = some (.int z)) := hxC.of (by rfl) (hY87 hA a1 (fun r A' h => h))
