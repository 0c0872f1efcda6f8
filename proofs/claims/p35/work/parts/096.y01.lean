theorem hY16 {d : Nat} {Bn Br : Int} {A0 A : hs_A} (hA : hJ 0 Bn Br A0 A)  {L : Nat} (hL : hLL L) {T : Nat} (hT : hTT T) (eT : A0.2.2.2 0 3 = T + 1) {P : Option Value → hs_A → Prop} (hP : ∀ (r : Option Value) (A' : hs_A), (hJ 0 Bn Br A0 A' ∧ r = none) → P r A') : hxa (d + 0) none hm_t16 0 [.ref (L + 1), .ref (T + 1), .retAddr 0] [] A P := by
  have k0 := hk_0
  have L37 : ∀ (m37 : Nat) (x37_2 : Int32) (Ac37 : hs_A) (hAc37 : hJ 0 Bn Br A0 Ac37) (bx37_2 : 0 ≤ x37_2.toInt) (cx37_2 : x37_2.toInt ≤ 10) (hm37 : 10 - x37_2.toInt < (m37 : Int)), hxa (d + 0) none hm_t16 37 [.ref (L + 1), .ref (T + 1), .int x37_2] [] Ac37 P := by
    intro m37
    induction m37 with
    | zero => intro x37_2 Ac37 hAc37 bx37_2 cx37_2 hm37;  exact False.elim (by omega)
    | succ m37 ih37 =>
      intro x37_2 Ac37 hAc37 bx37_2 cx37_2 hm37
      refine hxa_iload_n (by rfl) rfl ?_
      refine hxa_bipush (by rfl) rfl ?_
      refine hxj_cge (by rfl) rfl hk_10 (fun q1 => ?_) (fun q1 => ?_)
      ·
        exact hxa_return (by rfl) rfl (hP _ _ ⟨hAc37, rfl⟩)
      ·
        refine hxa_aload_n (by rfl) rfl ?_
        refine hxa_get (v := .ref (L + 2)) (by rfl) (hsL hL) (by rfl) (hvL hL (by omega)) ?_
        refine hxa_iload_n (by rfl) rfl ?_
        refine hxa_aload_n (by rfl) rfl ?_
        refine hxa_get (v := .ref (T + 2)) (by rfl) (hsT hT) (by rfl) (hvT hT (by omega)) ?_
        refine hxa_iload_n (by rfl) rfl ?_
        refine hxj_iald (by rfl) (hsT1 hT) rfl (by omega) (by omega) (fun z2 ez2 => ?_)
        refine hxj_iast (by rfl) (hsLa hL (by omega) (by omega)) rfl (by omega) (by omega) hAc37 (hbokN (haL1 hL)) (hrLa hL (by omega) (by omega)) (hqL hL (by omega)) (fun A3 hA3 eA3 fA3 gA3 => ?_)
        refine hxa_aload_n (by rfl) rfl ?_
        refine hxa_get (v := .ref (L + 3)) (by rfl) (hsL hL) (by rfl) (hvL hL (by omega)) ?_
        refine hxa_iload_n (by rfl) rfl ?_
        refine hxa_aload_n (by rfl) rfl ?_
        refine hxa_get (v := .ref (T + 3)) (by rfl) (hsT hT) (by rfl) (hvT hT (by omega)) ?_
        refine hxa_iload_n (by rfl) rfl ?_
        refine hxj_iald (by rfl) (hsT2 hT) rfl (by omega) (by omega) (fun z4 ez4 => ?_)
        refine hxj_iast (by rfl) (hsLa hL (by omega) (by omega)) rfl (by omega) (by omega) hA3 (hbokN (haL2 hL)) (hrLa hL (by omega) (by omega)) (hqL hL (by omega)) (fun A5 hA5 eA5 fA5 gA5 => ?_)
        refine hxa_aload_n (by rfl) rfl ?_
        refine hxa_get (v := .ref (L + 4)) (by rfl) (hsL hL) (by rfl) (hvL hL (by omega)) ?_
        refine hxa_iload_n (by rfl) rfl ?_
        refine hxa_iconst (by rfl) rfl ?_
        refine hxj_iast (by rfl) (hsLa hL (by omega) (by omega)) rfl (by omega) (by omega) hA5 (hbokN (haL3 hL)) (hrLa hL (by omega) (by omega)) (hqL hL (by omega)) (fun A6 hA6 eA6 fA6 gA6 => ?_)
        refine hxa_aload_n (by rfl) rfl ?_
        refine hxa_get (v := .ref (L + 5)) (by rfl) (hsL hL) (by rfl) (hvL hL (by omega)) ?_
        refine hxa_iload_n (by rfl) rfl ?_
        refine hxa_iload_n (by rfl) rfl ?_
        refine hxj_iast (by rfl) (hsLa hL (by omega) (by omega)) rfl (by omega) (by omega) hA6 (hbokN (haL4 hL)) (hrLa hL (by omega) (by omega)) (hqL hL (by omega)) (fun A7 hA7 eA7 fA7 gA7 => ?_)
        refine hxa_aload_n (by rfl) rfl ?_
        refine hxa_get (v := .ref (L + 6)) (by rfl) (hsL hL) (by rfl) (hvL hL (by omega)) ?_
        refine hxa_iload_n (by rfl) rfl ?_
        refine hxa_iconst (by rfl) rfl ?_
        refine hxj_iast (by rfl) (hsLa hL (by omega) (by omega)) rfl (by omega) (by omega) hA7 (hbok (haL5 hL) hk_0 (by omega) (by omega)) (hrLa hL (by omega) (by omega)) (hqL hL (by omega)) (fun A8 hA8 eA8 fA8 gA8 => ?_)
        refine hxa_aload_n (by rfl) rfl ?_
        refine hxa_get (v := .ref (L + 7)) (by rfl) (hsL hL) (by rfl) (hvL hL (by omega)) ?_
        refine hxa_iload_n (by rfl) rfl ?_
        refine hxa_iconst (by rfl) rfl ?_
        refine hxj_iast (by rfl) (hsLa hL (by omega) (by omega)) rfl (by omega) (by omega) hA8 (hbokN (haL6 hL)) (hrLa hL (by omega) (by omega)) (hqL hL (by omega)) (fun A9 hA9 eA9 fA9 gA9 => ?_)
        refine hxj_iinc (by rfl) rfl rfl hk_1 (by omega) (by omega) (fun _ => rfl) (fun z10 ez10 => ?_)
        refine hxa_goto (by rfl) ?_
        exact ih37 z10 A9 hA9 (by omega) (by omega) (by omega)
  refine hxa_aload_n (by rfl) rfl ?_
  refine hxa_aload_n (by rfl) rfl ?_
  refine hxj_getB (by rfl) (hsT hT) (by rfl) hA (hbT_4 hT) (fun z11 ez11 fz11 gz11 => ?_)
  refine hxj_putI (by rfl) (hsL hL) (by rfl) (by rfl) hA (hbok (hbL_6 hL) rfl (by omega) (by omega)) (hrL_6 hL) (by rfl) (fun A12 hA12 eA12 fA12 => ?_)
  refine hxa_aload_n (by rfl) rfl ?_
  refine hxa_iconst (by rfl) rfl ?_
  refine hxj_putI (by rfl) (hsL hL) (by rfl) (by rfl) hA12 (hbokN (hbL_7 hL)) (hrL_7 hL) (by rfl) (fun A13 hA13 eA13 fA13 => ?_)
  refine hxa_aload_n (by rfl) rfl ?_
  refine hxa_iconst (by rfl) rfl ?_
  refine hxj_putI (by rfl) (hsL hL) (by rfl) (by rfl) hA13 (hbok (hbL_8 hL) hk_4294967295 (by omega) (by omega)) (hrL_8 hL) (by rfl) (fun A14 hA14 eA14 fA14 => ?_)
  refine hxa_aload_n (by rfl) rfl ?_
  refine hxa_iconst (by rfl) rfl ?_
  refine hxa_aload_n (by rfl) rfl ?_
  refine hxj_getK (by rfl) (hsL hL) (by rfl) (hkF eA14 (by omega) (hkF eA13 (by omega) (hkS eA12))) ?_
  refine hxj_ishlU (by rfl) (fun z15 => ?_)
  refine hxa_iconst (by rfl) rfl ?_
  refine hxj_isubU (by rfl) (fun z16 => ?_)
  refine hxj_putI (by rfl) (hsL hL) (by rfl) (by rfl) hA14 (hbokN (hbL_9 hL)) (hrL_9 hL) (by rfl) (fun A17 hA17 eA17 fA17 => ?_)
  refine hxa_aload_n (by rfl) rfl ?_
  refine hxa_iconst (by rfl) rfl ?_
  refine hxj_putI (by rfl) (hsL hL) (by rfl) (by rfl) hA17 (hbokN (hbL_10 hL)) (hrL_10 hL) (by rfl) (fun A18 hA18 eA18 fA18 => ?_)
  refine hxa_iconst (by rfl) rfl ?_
  refine hxa_s1 (by rfl) (Or.inl ⟨_, rfl, rfl⟩) rfl ?_
  exact L37 (Int.toNat (10 - 0) + 1) (Int32.ofNat 0) A18 hA18 (by omega) (by omega) (by omega)
theorem hX16 {d : Nat} {Bn Br : Int} {A0 A : hs_A} (hA : hJ 0 Bn Br A0 A)  {L : Nat} (hL : hLL L) {T : Nat} (hT : hTT T) (eT : A0.2.2.2 0 3 = T + 1) : hxC (d + 1) 16 hm_m16 [.ref (L + 1), .ref (T + 1)] A (fun r A' => hJ 0 Bn Br A0 A' ∧ r = none) := hxC.of (by rfl) (hY16 hA hL hT eT (fun r A' h => h))
theorem hY17 {d : Nat} {Bn Br : Int} {A0 A : hs_A} (hA : hJ 0 Bn Br A0 A)  {L : Nat} (hL : hLL L) {L1 : Nat} (hL1 : hLL L1) {P : Option Value → hs_A → Prop} (hP : ∀ (r : Option Value) (A' : hs_A), (hJ 0 Bn Br A0 A' ∧ r = none) → P r A') : hxa (d + 0) none hm_t17 0 [.ref (L + 1), .ref (L1 + 1)] [] A P := by
  refine hxa_aload_n (by rfl) rfl ?_
  refine hxa_aload_n (by rfl) rfl ?_
  refine hxj_getB (by rfl) (hsL hL1) (by rfl) hA (hbL_6 hL1) (fun z1 ez1 fz1 gz1 => ?_)
  refine hxj_putI (by rfl) (hsL hL) (by rfl) (by rfl) hA (hbok (hbL_6 hL) rfl (by omega) (by omega)) (hrL_6 hL) (by rfl) (fun A2 hA2 eA2 fA2 => ?_)
  refine hxa_aload_n (by rfl) rfl ?_
  refine hxa_aload_n (by rfl) rfl ?_
  refine hxj_getI (by rfl) (hsL hL1) (by rfl) (fun z3 ez3 => ?_)
  refine hxj_putI (by rfl) (hsL hL) (by rfl) (by rfl) hA2 (hbokN (hbL_7 hL)) (hrL_7 hL) (by rfl) (fun A4 hA4 eA4 fA4 => ?_)
  refine hxa_aload_n (by rfl) rfl ?_
  refine hxa_aload_n (by rfl) rfl ?_
  refine hxj_getB (by rfl) (hsL hL1) (by rfl) hA4 (hbL_8 hL1) (fun z5 ez5 fz5 gz5 => ?_)
  refine hxj_putI (by rfl) (hsL hL) (by rfl) (by rfl) hA4 (hbok (hbL_8 hL) rfl (by omega) (by omega)) (hrL_8 hL) (by rfl) (fun A6 hA6 eA6 fA6 => ?_)
  refine hxa_aload_n (by rfl) rfl ?_
  refine hxa_aload_n (by rfl) rfl ?_
  refine hxj_getI (by rfl) (hsL hL1) (by rfl) (fun z7 ez7 => ?_)
  refine hxj_putI (by rfl) (hsL hL) (by rfl) (by rfl) hA6 (hbokN (hbL_9 hL)) (hrL_9 hL) (by rfl) (fun A8 hA8 eA8 fA8 => ?_)
  refine hxa_aload_n (by rfl) rfl ?_
  refine hxa_aload_n (by rfl) rfl ?_
  refine hxj_getI (by rfl) (hsL hL1) (by rfl) (fun z9 ez9 => ?_)
  refine hxj_putI (by rfl) (hsL hL) (by rfl) (by rfl) hA8 (hbokN (hbL_10 hL)) (hrL_10 hL) (by rfl) (fun A10 hA10 eA10 fA10 => ?_)
  refine hxa_aload_n (by rfl) rfl ?_
  refine hxa_get (v := .ref (L1 + 2)) (by rfl) (hsL hL1) (by rfl) (hvL hL1 (by omega)) ?_
  refine hxa_iconst (by rfl) rfl ?_
  refine hxa_aload_n (by rfl) rfl ?_
  refine hxa_get (v := .ref (L + 2)) (by rfl) (hsL hL) (by rfl) (hvL hL (by omega)) ?_
  refine hxa_iconst (by rfl) rfl ?_
  refine hxa_bipush (by rfl) rfl ?_
  refine hxj_copy (by rfl) (hsLa hL1 (by omega) (by omega)) (hsLa hL (by omega) (by omega)) hk_10 (by rfl) hA10 (fun _ _ => hbokN (haL1 hL)) (hrLa hL (by omega) (by omega)) (hqL hL (by omega)) (fun A11 hA11 eA11 => ?_) rfl rfl
  refine hxa_aload_n (by rfl) rfl ?_
  refine hxa_get (v := .ref (L1 + 3)) (by rfl) (hsL hL1) (by rfl) (hvL hL1 (by omega)) ?_
  refine hxa_iconst (by rfl) rfl ?_
  refine hxa_aload_n (by rfl) rfl ?_
  refine hxa_get (v := .ref (L + 3)) (by rfl) (hsL hL) (by rfl) (hvL hL (by omega)) ?_
  refine hxa_iconst (by rfl) rfl ?_
  refine hxa_bipush (by rfl) rfl ?_
  refine hxj_copy (by rfl) (hsLa hL1 (by omega) (by omega)) (hsLa hL (by omega) (by omega)) hk_10 (by rfl) hA11 (fun _ _ => hbokN (haL2 hL)) (hrLa hL (by omega) (by omega)) (hqL hL (by omega)) (fun A12 hA12 eA12 => ?_) rfl rfl
  refine hxa_aload_n (by rfl) rfl ?_
  refine hxa_get (v := .ref (L1 + 4)) (by rfl) (hsL hL1) (by rfl) (hvL hL1 (by omega)) ?_
  refine hxa_iconst (by rfl) rfl ?_
  refine hxa_aload_n (by rfl) rfl ?_
  refine hxa_get (v := .ref (L + 4)) (by rfl) (hsL hL) (by rfl) (hvL hL (by omega)) ?_
  refine hxa_iconst (by rfl) rfl ?_
  refine hxa_bipush (by rfl) rfl ?_
  refine hxj_copy (by rfl) (hsLa hL1 (by omega) (by omega)) (hsLa hL (by omega) (by omega)) hk_10 (by rfl) hA12 (fun _ _ => hbokN (haL3 hL)) (hrLa hL (by omega) (by omega)) (hqL hL (by omega)) (fun A13 hA13 eA13 => ?_) rfl rfl
  refine hxa_aload_n (by rfl) rfl ?_
  refine hxa_get (v := .ref (L1 + 5)) (by rfl) (hsL hL1) (by rfl) (hvL hL1 (by omega)) ?_
  refine hxa_iconst (by rfl) rfl ?_
  refine hxa_aload_n (by rfl) rfl ?_
  refine hxa_get (v := .ref (L + 5)) (by rfl) (hsL hL) (by rfl) (hvL hL (by omega)) ?_
  refine hxa_iconst (by rfl) rfl ?_
  refine hxa_bipush (by rfl) rfl ?_
  refine hxj_copy (by rfl) (hsLa hL1 (by omega) (by omega)) (hsLa hL (by omega) (by omega)) hk_10 (by rfl) hA13 (fun _ _ => hbokN (haL4 hL)) (hrLa hL (by omega) (by omega)) (hqL hL (by omega)) (fun A14 hA14 eA14 => ?_) rfl rfl
  refine hxa_aload_n (by rfl) rfl ?_
  refine hxa_get (v := .ref (L1 + 6)) (by rfl) (hsL hL1) (by rfl) (hvL hL1 (by omega)) ?_
  refine hxa_iconst (by rfl) rfl ?_
  refine hxa_aload_n (by rfl) rfl ?_
  refine hxa_get (v := .ref (L + 6)) (by rfl) (hsL hL) (by rfl) (hvL hL (by omega)) ?_
  refine hxa_iconst (by rfl) rfl ?_
  refine hxa_bipush (by rfl) rfl ?_
  refine hxj_copy (by rfl) (hsLa hL1 (by omega) (by omega)) (hsLa hL (by omega) (by omega)) hk_10 (by rfl) hA14 (fun v q => (haL5 hL).symm ▸ (haL5 hL1) ▸ q) (hrLa hL (by omega) (by omega)) (hqL hL (by omega)) (fun A15 hA15 eA15 => ?_) rfl rfl
  refine hxa_aload_n (by rfl) rfl ?_
  refine hxa_get (v := .ref (L1 + 7)) (by rfl) (hsL hL1) (by rfl) (hvL hL1 (by omega)) ?_
  refine hxa_iconst (by rfl) rfl ?_
  refine hxa_aload_n (by rfl) rfl ?_
  refine hxa_get (v := .ref (L + 7)) (by rfl) (hsL hL) (by rfl) (hvL hL (by omega)) ?_
  refine hxa_iconst (by rfl) rfl ?_
  refine hxa_bipush (by rfl) rfl ?_
  refine hxj_copy (by rfl) (hsLa hL1 (by omega) (by omega)) (hsLa hL (by omega) (by omega)) hk_10 (by rfl) hA15 (fun _ _ => hbokN (haL6 hL)) (hrLa hL (by omega) (by omega)) (hqL hL (by omega)) (fun A16 hA16 eA16 => ?_) rfl rfl
  exact hxa_return (by rfl) rfl (hP _ _ ⟨hA16, rfl⟩)
theorem hX17 {d : Nat} {Bn Br : Int} {A0 A : hs_A} (hA : hJ 0 Bn Br A0 A)  {L : Nat} (hL : hLL L) {L1 : Nat} (hL1 : hLL L1) : hxC (d + 1) 17 hm_m17 [.ref (L + 1), .ref (L1 + 1)] A (fun r A' => hJ 0 Bn Br A0 A' ∧ r = none) := hxC.of (by rfl) (hY17 hA hL hL1 (fun r A' h => h))
theorem hY18 {d : Nat} {Bn Br : Int} {A0 A : hs_A} (hA : hJ 0 Bn Br A0 A)  {L : Nat} (hL : hLL L) (a1 : Int32) {P : Option Value → hs_A → Prop} (hP : ∀ (r : Option Value) (A' : hs_A), (A = A' ∧ ∃ z : Int32, r = some (.int z) ∧ ((0 ≤ z.toInt ∧ z.toInt ≤ 1))) → P r A') : hxa (d + 0) (some (.boolean)) hm_t18 0 [.ref (L + 1), .int a1] [] A P := by
  have k0 := hk_0
  have k1 := hk_1
  refine hxa_aload_n (by rfl) rfl ?_
  refine hxj_getI (by rfl) (hsL hL) (by rfl) (fun z1 ez1 => ?_)
  refine hxa_iload_n (by rfl) rfl ?_
  refine hxj_ishrU (by rfl) (fun z2 => ?_)
  refine hxa_iconst (by rfl) rfl ?_
  refine hxj_iandR (by rfl) hk_1 (by omega) (fun z3 ez3 fz3 => ?_)
  refine hxj_zeq (by rfl) rfl (fun q4 => ?_) (fun q4 => ?_)
  ·
    refine hxa_iconst (by rfl) rfl ?_
    exact hxa_ireturn (by rfl) (by rfl) (hP _ _ ⟨rfl, _, rfl, by omega⟩)
  ·
    refine hxa_iconst (by rfl) rfl ?_
    refine hxa_goto (by rfl) ?_
    exact hxa_ireturn (by rfl) (by rfl) (hP _ _ ⟨rfl, _, rfl, by omega⟩)
theorem hX18 {d : Nat} {Bn Br : Int} {A0 A : hs_A} (hA : hJ 0 Bn Br A0 A)  {L : Nat} (hL : hLL L) (a1 : Int32) : hxC (d + 1) 18 hm_m18 [.ref (L + 1), .int a1] A (fun r A' => A = A' ∧ ∃ z : Int32, r = some (.int z) ∧ ((0 ≤ z.toInt ∧ z.toInt ≤ 1))) := hxC.of (by rfl) (hY18 hA hL a1 (fun r A' h => h))
theorem hY19 {d : Nat} {Bn Br : Int} {A0 A : hs_A} (hA : hJ 0 Bn Br A0 A)  {L : Nat} (hL : hLL L) (a1 : Int32) (p1 : 0 ≤ a1.toInt) (q1 : a1.toInt ≤ 9) {P : Option Value → hs_A → Prop} (hP : ∀ (r : Option Value) (A' : hs_A), (A = A' ∧ ∃ z : Int32, r = some (.int z) ∧ ((0 ≤ z.toInt ∧ z.toInt ≤ 1))) → P r A') : hxa (d + 1) (some (.boolean)) hm_t19 0 [.ref (L + 1), .int a1] [] A P := by
  have k0 := hk_0
  have k1 := hk_1
  refine hxa_aload_n (by rfl) rfl ?_
  refine hxa_iload_n (by rfl) rfl ?_
  refine hxa_call0 (by rfl) (by rfl) (by rfl) (hsL hL) (by rfl) (by rfl) (hX18 (d := d + 0) hA hL a1) ?_
  rintro _ _ ⟨rfl, z1, rfl, fz1⟩
  refine hxj_zeq (by rfl) rfl (fun q2 => ?_) (fun q2 => ?_)
  ·
    refine hxa_iconst (by rfl) rfl ?_
    exact hxa_ireturn (by rfl) (by rfl) (hP _ _ ⟨rfl, _, rfl, by omega⟩)
  ·
    refine hxa_aload_n (by rfl) rfl ?_
    refine hxa_get (v := .ref (L + 7)) (by rfl) (hsL hL) (by rfl) (hvL hL (by omega)) ?_
    refine hxa_iload_n (by rfl) rfl ?_
    refine hxj_iald (by rfl) (hsLa hL (by omega) (by omega)) rfl (by omega) (by omega) (fun z3 ez3 => ?_)
    refine hxj_zne (by rfl) rfl (fun q4 => ?_) (fun q4 => ?_)
    ·
      refine hxa_iconst (by rfl) rfl ?_
      exact hxa_ireturn (by rfl) (by rfl) (hP _ _ ⟨rfl, _, rfl, by omega⟩)
    ·
      refine hxa_iconst (by rfl) rfl ?_
      refine hxa_goto (by rfl) ?_
      exact hxa_ireturn (by rfl) (by rfl) (hP _ _ ⟨rfl, _, rfl, by omega⟩)
theorem hX19 {d : Nat} {Bn Br : Int} {A0 A : hs_A} (hA : hJ 0 Bn Br A0 A)  {L : Nat} (hL : hLL L) (a1 : Int32) (p1 : 0 ≤ a1.toInt) (q1 : a1.toInt ≤ 9) : hxC (d + 2) 19 hm_m19 [.ref (L + 1), .int a1] A (fun r A' => A = A' ∧ ∃ z : Int32, r = some (.int z) ∧ ((0 ≤ z.toInt ∧ z.toInt ≤ 1))) := hxC.of (by rfl) (hY19 hA hL a1 p1 q1 (fun r A' h => h))
theorem hY20 {d : Nat} {Bn Br : Int} {A0 A : hs_A} (hA : hJ 0 Bn Br A0 A)  {L : Nat} (hL : hLL L) (a1 : Int32) {P : Option Value → hs_A → Prop} (hP : ∀ (r : Option Value) (A' : hs_A), (A = A' ∧ ∃ z : Int32, r = some (.int z)) → P r A') : hxa (d + 2) (some (.int)) hm_t20 0 [.ref (L + 1), .int a1, .retAddr 0] [] A P := by
  have k0 := hk_0
  have k4294967294 := hk_4294967294
  have L2 : ∀ (m2 : Nat) (x2_2 : Int32) (bx2_2 : 0 ≤ x2_2.toInt) (cx2_2 : x2_2.toInt ≤ 10) (hm2 : 10 - x2_2.toInt < (m2 : Int)), hxa (d + 2) (some (.int)) hm_t20 2 [.ref (L + 1), .int a1, .int x2_2] [] A P := by
    intro m2
    induction m2 with
    | zero => intro x2_2 bx2_2 cx2_2 hm2;  exact False.elim (by omega)
    | succ m2 ih2 =>
      intro x2_2 bx2_2 cx2_2 hm2
      refine hxa_iload_n (by rfl) rfl ?_
      refine hxa_iload_n (by rfl) rfl ?_
      have rga1 := hn_rng a1
      refine hxj_cgt (by rfl) rfl rfl (fun q1 => ?_) (fun q1 => ?_)
      ·
        refine hxa_bipush (by rfl) rfl ?_
        exact hxa_ireturn (by rfl) rfl (hP _ _ ⟨rfl, _, rfl⟩)
      ·
        refine hxa_iload_n (by rfl) rfl ?_
        refine hxa_bipush (by rfl) rfl ?_
        refine hxj_cge (by rfl) rfl hk_10 (fun q2 => ?_) (fun q2 => ?_)
        ·
          refine hxa_bipush (by rfl) rfl ?_
          exact hxa_ireturn (by rfl) rfl (hP _ _ ⟨rfl, _, rfl⟩)
        ·
          refine hxa_aload_n (by rfl) rfl ?_
          refine hxa_iload_n (by rfl) rfl ?_
          refine hxa_call0 (by rfl) (by rfl) (by rfl) (hsL hL) (by rfl) (by rfl) (hX19 (d := d + 0) hA hL x2_2 (by omega) (by omega)) ?_
          rintro _ _ ⟨rfl, z3, rfl, fz3⟩
          refine hxj_zne (by rfl) rfl (fun q4 => ?_) (fun q4 => ?_)
          ·
            refine hxj_iinc (by rfl) rfl rfl hk_1 (by omega) (by omega) (fun _ => rfl) (fun z5 ez5 => ?_)
            refine hxa_goto (by rfl) ?_
            exact ih2 z5 (by omega) (by omega) (by omega)
          ·
            refine hxa_iload_n (by rfl) rfl ?_
            exact hxa_ireturn (by rfl) rfl (hP _ _ ⟨rfl, _, rfl⟩)
  refine hxa_iconst (by rfl) rfl ?_
  refine hxa_s1 (by rfl) (Or.inl ⟨_, rfl, rfl⟩) rfl ?_
  exact L2 (Int.toNat (10 - 0) + 1) (Int32.ofNat 0) (by omega) (by omega) (by omega)
theorem hX20 {d : Nat} {Bn Br : Int} {A0 A : hs_A} (hA : hJ 0 Bn Br A0 A)  {L : Nat} (hL : hLL L) (a1 : Int32) : hxC (d + 3) 20 hm_m20 [.ref (L + 1), .int a1] A (fun r A' => A = A' ∧ ∃ z : Int32, r = some (.int z)) := hxC.of (by rfl) (hY20 hA hL a1 (fun r A' h => h))
theorem hY21 {d : Nat} {Bn Br : Int} {A0 A : hs_A} (hA : hJ 0 Bn Br A0 A)  {L : Nat} (hL : hLL L) (a1 : Int32) (p1 : 0 ≤ a1.toInt) (q1 : a1.toInt ≤ 9) {P : Option Value → hs_A → Prop} (hP : ∀ (r : Option Value) (A' : hs_A), (A = A' ∧ ∃ z : Int32, r = some (.int z)) → P r A') : hxa (d + 0) (some (.int)) hm_t21 0 [.ref (L + 1), .int a1] [] A P := by
  refine hxa_aload_n (by rfl) rfl ?_
  refine hxa_get (v := .ref (L + 2)) (by rfl) (hsL hL) (by rfl) (hvL hL (by omega)) ?_
  refine hxa_iload_n (by rfl) rfl ?_
  refine hxj_iald (by rfl) (hsLa hL (by omega) (by omega)) rfl (by omega) (by omega) (fun z1 ez1 => ?_)
  refine hxa_aload_n (by rfl) rfl ?_
  refine hxa_get (v := .ref (L + 4)) (by rfl) (hsL hL) (by rfl) (hvL hL (by omega)) ?_
  refine hxa_iload_n (by rfl) rfl ?_
  refine hxj_iald (by rfl) (hsLa hL (by omega) (by omega)) rfl (by omega) (by omega) (fun z2 ez2 => ?_)
  refine hxa_iconst (by rfl) rfl ?_
  refine hxj_ixorU (by rfl) (fun z3 => ?_)
  refine hxj_iandU (by rfl) (fun z4 => ?_)
  exact hxa_ireturn (by rfl) rfl (hP _ _ ⟨rfl, _, rfl⟩)
theorem hX21 {d : Nat} {Bn Br : Int} {A0 A : hs_A} (hA : hJ 0 Bn Br A0 A)  {L : Nat} (hL : hLL L) (a1 : Int32) (p1 : 0 ≤ a1.toInt) (q1 : a1.toInt ≤ 9) : hxC (d + 1) 21 hm_m21 [.ref (L + 1), .int a1] A (fun r A' => A = A' ∧ ∃ z : Int32, r = some (.int z)) := hxC.of (by rfl) (hY21 hA hL a1 p1 q1 (fun r A' h => h))
theorem hY22 {d : Nat} {Bn Br : Int} {A0 A : hs_A} (hA : hJ 0 Bn Br A0 A)  {L : Nat} (hL : hLL L) {T : Nat} (hT : hTT T) (eT : A0.2.2.2 0 3 = T + 1) {P : Option Value → hs_A → Prop} (hP : ∀ (r : Option Value) (A' : hs_A), (A = A' ∧ ∃ z : Int32, r = some (.int z) ∧ ((0 ≤ z.toInt ∧ z.toInt ≤ 255))) → P r A') : hxa (d + 1) (some (.int)) hm_t22 0 [.ref (L + 1), .ref (T + 1)] [] A P := by
  have k24 := hk_24
  refine hxa_aload_n (by rfl) rfl ?_
  refine hxj_getB (by rfl) (hsL hL) (by rfl) hA (hbL_8 hL) (fun z1 ez1 fz1 gz1 => ?_)
  refine hxa_iconst (by rfl) rfl ?_
  refine hxj_cne (by rfl) rfl hk_4294967295 (fun q2 => ?_) (fun q2 => ?_)
  ·
    refine hxa_aload_n (by rfl) rfl ?_
    refine hxj_getK (by rfl) (hsL hL) (by rfl) ez1 ?_
    exact hxa_ireturn (by rfl) rfl (hP _ _ ⟨rfl, _, rfl, by omega⟩)
  ·
    refine hxa_aload_n (by rfl) rfl ?_
    refine hxa_get (v := .ref (T + 4)) (by rfl) (hsT hT) (by rfl) (hvT hT (by omega)) ?_
    refine hxa_aload_n (by rfl) rfl ?_
    refine hxj_getI (by rfl) (hsL hL) (by rfl) (fun z3 ez3 => ?_)
    refine hxa_bipush (by rfl) rfl ?_
    refine hxa_call2 (by rfl) (by decide) (by rfl) (by rfl) (by rfl) (hX243 (d := d + 0)  z3 (Int32.ofNat 24) (by omega)) ?_
    rintro _ _ ⟨rfl, z4, rfl, fz4⟩
    refine hxj_iald (by rfl) (hsT3 hT) rfl (by omega) (by omega) (fun z5 ez5 => ?_)
    obtain ⟨fz5, gz5⟩ := hA.prog hT eT z4.toNatClampNeg (hn_lt24 rfl (by omega) (by omega))
    rw [ez5] at fz5 gz5
    refine hxa_goto (by rfl) ?_
    exact hxa_ireturn (by rfl) rfl (hP _ _ ⟨rfl, _, rfl, by omega⟩)
theorem hX22 {d : Nat} {Bn Br : Int} {A0 A : hs_A} (hA : hJ 0 Bn Br A0 A)  {L : Nat} (hL : hLL L) {T : Nat} (hT : hTT T) (eT : A0.2.2.2 0 3 = T + 1) : hxC (d + 2) 22 hm_m22 [.ref (L + 1), .ref (T + 1)] A (fun r A' => A = A' ∧ ∃ z : Int32, r = some (.int z) ∧ ((0 ≤ z.toInt ∧ z.toInt ≤ 255))) := hxC.of (by rfl) (hY22 hA hL hT eT (fun r A' h => h))
theorem hY23 {d : Nat} {Bn Br : Int} {A0 A : hs_A} (hA : hJ 0 Bn Br A0 A)  {L : Nat} (hL : hLL L) (a1 : Int32) (p1 : 0 ≤ a1.toInt) (q1 : a1.toInt ≤ 9) (a2 : Int32) (p2 : 0 ≤ a2.toInt) (q2 : a2.toInt ≤ 255) {P : Option Value → hs_A → Prop} (hP : ∀ (r : Option Value) (A' : hs_A), (hJ 0 Bn Br A0 A' ∧ r = none) → P r A') : hxa (d + 0) none hm_t23 0 [.ref (L + 1), .int a1, .int a2] [] A P := by
  refine hxa_aload_n (by rfl) rfl ?_
  refine hxa_get (v := .ref (L + 6)) (by rfl) (hsL hL) (by rfl) (hvL hL (by omega)) ?_
  refine hxa_iload_n (by rfl) rfl ?_
  refine hxa_iload_n (by rfl) rfl ?_
  refine hxj_iast (by rfl) (hsLa hL (by omega) (by omega)) rfl (by omega) (by omega) hA (hbok (haL5 hL) rfl (by omega) (by omega)) (hrLa hL (by omega) (by omega)) (hqL hL (by omega)) (fun A1 hA1 eA1 fA1 gA1 => ?_)
  refine hxa_aload_n (by rfl) rfl ?_
  refine hxa_get (v := .ref (L + 4)) (by rfl) (hsL hL) (by rfl) (hvL hL (by omega)) ?_
  refine hxa_iload_n (by rfl) rfl ?_
  refine hxa_dup2IR (by rfl) ?_
  refine hxj_iald (by rfl) (hsLa hL (by omega) (by omega)) rfl (by omega) (by omega) (fun z2 ez2 => ?_)
  refine hxa_iload_n (by rfl) rfl ?_
  refine hxa_aload_n (by rfl) rfl ?_
  refine hxa_get (v := .ref (L + 2)) (by rfl) (hsL hL) (by rfl) (hvL hL (by omega)) ?_
  refine hxa_iload_n (by rfl) rfl ?_
  refine hxj_iald (by rfl) (hsLa hL (by omega) (by omega)) rfl (by omega) (by omega) (fun z3 ez3 => ?_)
  refine hxj_iandL (by rfl) rfl (by omega) (fun z4 ez4 fz4 => ?_)
  refine hxj_iorU (by rfl) (fun z5 => ?_)
  refine hxj_iast (by rfl) (hsLa hL (by omega) (by omega)) rfl (by omega) (by omega) hA1 (hbokN (haL3 hL)) (hrLa hL (by omega) (by omega)) (hqL hL (by omega)) (fun A6 hA6 eA6 fA6 gA6 => ?_)
  exact hxa_return (by rfl) rfl (hP _ _ ⟨hA6, rfl⟩)
theorem hX23 {d : Nat} {Bn Br : Int} {A0 A : hs_A} (hA : hJ 0 Bn Br A0 A)  {L : Nat} (hL : hLL L) (a1 : Int32) (p1 : 0 ≤ a1.toInt) (q1 : a1.toInt ≤ 9) (a2 : Int32) (p2 : 0 ≤ a2.toInt) (q2 : a2.toInt ≤ 255) : hxC (d + 1) 23 hm_m23 [.ref (L + 1), .int a1, .int a2] A (fun r A' => hJ 0 Bn Br A0 A' ∧ r = none) := hxC.of (by rfl) (hY23 hA hL a1 p1 q1 a2 p2 q2 (fun r A' h => h))
theorem hY25 {d : Nat} {Bn Br : Int} {A0 A : hs_A} (hA : hJ 0 Bn Br A0 A)  {C1 : Nat} (hC1 : hc_get hs_sh C1 = some (0, 1, [10])) (nC1 : hb_a C1 = none) (rC1 : hr_a 0 C1 = true) (gC1 : hq 0 C1 = true) (a2 : Int32) (p2 : 0 ≤ a2.toInt) (q2 : a2.toInt ≤ 9) (a3 : Int32) (p3 : 0 ≤ a3.toInt) (q3 : a3.toInt ≤ 9) {P : Option Value → hs_A → Prop} (hP : ∀ (r : Option Value) (A' : hs_A), (hJ 0 Bn Br A0 A' ∧ r = none) → P r A') : hxa (d + 0) none hm_t25 0 [.ref (C1 + 1), .int a2, .int a3, .retAddr 0] [] A P := by
  refine hxa_aload_n (by rfl) rfl ?_
  refine hxa_iload_n (by rfl) rfl ?_
  refine hxj_iald (by rfl) hC1 rfl (by omega) (by omega) (fun z1 ez1 => ?_)
  refine hxa_s1 (by rfl) (Or.inl ⟨_, rfl, rfl⟩) rfl ?_
  refine hxa_aload_n (by rfl) rfl ?_
  refine hxa_iload_n (by rfl) rfl ?_
  refine hxa_aload_n (by rfl) rfl ?_
  refine hxa_iload_n (by rfl) rfl ?_
  refine hxj_iald (by rfl) hC1 rfl (by omega) (by omega) (fun z2 ez2 => ?_)
  refine hxj_iast (by rfl) hC1 rfl (by omega) (by omega) hA (hbokN nC1) rC1 gC1 (fun A3 hA3 eA3 fA3 gA3 => ?_)
  refine hxa_aload_n (by rfl) rfl ?_
  refine hxa_iload_n (by rfl) rfl ?_
  refine hxa_iload_n (by rfl) rfl ?_
  refine hxj_iast (by rfl) hC1 rfl (by omega) (by omega) hA3 (hbokN nC1) rC1 gC1 (fun A4 hA4 eA4 fA4 gA4 => ?_)
  exact hxa_return (by rfl) rfl (hP _ _ ⟨hA4, rfl⟩)
theorem hX25 {d : Nat} {Bn Br : Int} {A0 A : hs_A} (hA : hJ 0 Bn Br A0 A)  {C1 : Nat} (hC1 : hc_get hs_sh C1 = some (0, 1, [10])) (nC1 : hb_a C1 = none) (rC1 : hr_a 0 C1 = true) (gC1 : hq 0 C1 = true) (a2 : Int32) (p2 : 0 ≤ a2.toInt) (q2 : a2.toInt ≤ 9) (a3 : Int32) (p3 : 0 ≤ a3.toInt) (q3 : a3.toInt ≤ 9) : hxC (d + 1) 25 hm_m25 [.ref (C1 + 1), .int a2, .int a3] A (fun r A' => hJ 0 Bn Br A0 A' ∧ r = none) := hxC.of (by rfl) (hY25 hA hC1 nC1 rC1 gC1 a2 p2 q2 a3 p3 q3 (fun r A' h => h))
theorem hY24 {d : Nat} {Bn Br : Int} {A0 A : hs_A} (hA : hJ 0 Bn Br A0 A)  {L : Nat} (hL : hLL L) (a1 : Int32) (p1 : 0 ≤ a1.toInt) (q1 : a1.toInt ≤ 9) (a2 : Int32) (p2 : 0 ≤ a2.toInt) (q2 : a2.toInt ≤ 9) {P : Option Value → hs_A → Prop} (hP : ∀ (r : Option Value) (A' : hs_A), (hJ 0 Bn Br A0 A' ∧ r = none) → P r A') : hxa (d + 1) none hm_t24 0 [.ref (L + 1), .int a1, .int a2] [] A P := by
  refine hxa_aload_n (by rfl) rfl ?_
  refine hxa_get (v := .ref (L + 2)) (by rfl) (hsL hL) (by rfl) (hvL hL (by omega)) ?_
  refine hxa_iload_n (by rfl) rfl ?_
  refine hxa_iload_n (by rfl) rfl ?_
  refine hxa_call2 (by rfl) (by decide) (by rfl) (by rfl) (by rfl) (hX25 (d := d + 0) hA (C1 := (L + 1)) (hsLa hL (by omega) (by omega)) (haL1 hL) (hrLa hL (by omega) (by omega)) (hqL hL (by omega)) a1 (by omega) (by omega) a2 (by omega) (by omega)) ?_
  rintro _ A1 ⟨hA1, rfl⟩
  refine hxa_aload_n (by rfl) rfl ?_
  refine hxa_get (v := .ref (L + 3)) (by rfl) (hsL hL) (by rfl) (hvL hL (by omega)) ?_
  refine hxa_iload_n (by rfl) rfl ?_
  refine hxa_iload_n (by rfl) rfl ?_
  refine hxa_call2 (by rfl) (by decide) (by rfl) (by rfl) (by rfl) (hX25 (d := d + 0) hA1 (C1 := (L + 2)) (hsLa hL (by omega) (by omega)) (haL2 hL) (hrLa hL (by omega) (by omega)) (hqL hL (by omega)) a1 (by omega) (by omega) a2 (by omega) (by omega)) ?_
  rintro _ A2 ⟨hA2, rfl⟩
  refine hxa_aload_n (by rfl) rfl ?_
  refine hxa_get (v := .ref (L + 4)) (by rfl) (hsL hL) (by rfl) (hvL hL (by omega)) ?_
  refine hxa_iload_n (by rfl) rfl ?_
  refine hxa_iload_n (by rfl) rfl ?_
  refine hxa_call2 (by rfl) (by decide) (by rfl) (by rfl) (by rfl) (hX25 (d := d + 0) hA2 (C1 := (L + 3)) (hsLa hL (by omega) (by omega)) (haL3 hL) (hrLa hL (by omega) (by omega)) (hqL hL (by omega)) a1 (by omega) (by omega) a2 (by omega) (by omega)) ?_
  rintro _ A3 ⟨hA3, rfl⟩
  refine hxa_aload_n (by rfl) rfl ?_
  refine hxa_get (v := .ref (L + 5)) (by rfl) (hsL hL) (by rfl) (hvL hL (by omega)) ?_
  refine hxa_iload_n (by rfl) rfl ?_
  refine hxa_iload_n (by rfl) rfl ?_
  refine hxa_call2 (by rfl) (by decide) (by rfl) (by rfl) (by rfl) (hX25 (d := d + 0) hA3 (C1 := (L + 4)) (hsLa hL (by omega) (by omega)) (haL4 hL) (hrLa hL (by omega) (by omega)) (hqL hL (by omega)) a1 (by omega) (by omega) a2 (by omega) (by omega)) ?_
  rintro _ A4 ⟨hA4, rfl⟩
  exact hxa_return (by rfl) rfl (hP _ _ ⟨hA4, rfl⟩)
theorem hX24 {d : Nat} {Bn Br : Int} {A0 A : hs_A} (hA : hJ 0 Bn Br A0 A)  {L : Nat} (hL : hLL L) (a1 : Int32) (p1 : 0 ≤ a1.toInt) (q1 : a1.toInt ≤ 9) (a2 : Int32) (p2 : 0 ≤ a2.toInt) (q2 : a2.toInt ≤ 9) : hxC (d + 2) 24 hm_m24 [.ref (L + 1), .int a1, .int a2] A (fun r A' => hJ 0 Bn Br A0 A' ∧ r = none) := hxC.of (by rfl) (hY24 hA hL a1 p1 q1 a2 p2 q2 (fun r A' h => h))
theorem hY28 {d : Nat} {A : hs_A} (a1 : Int32) (a2 : Int32) {P : Option Value → hs_A → Prop} (hP : ∀ (r : Option Value) (A' : hs_A), (A = A' ∧ ∃ z : Int32, r = some (.int z)) → P r A') : hxa (d + 0) (some (.int)) hm_t28 0 [.int a1, .int a2, .retAddr 0] [] A P := by
  refine hxa_iload_n (by rfl) rfl ?_
  refine hxa_iload_n (by rfl) rfl ?_
  refine hxj_ixorU (by rfl) (fun z1 => ?_)
  refine hxa_ldc (by rfl) rfl ?_
  refine hxj_imulU (by rfl) (fun z2 => ?_)
  refine hxa_sipush (by rfl) rfl ?_
  refine hxj_iaddU (by rfl) (fun z3 => ?_)
  refine hxa_s1 (by rfl) (Or.inl ⟨_, rfl, rfl⟩) rfl ?_
  refine hxa_iload_n (by rfl) rfl ?_
  refine hxa_iload_n (by rfl) rfl ?_
  refine hxa_bipush (by rfl) rfl ?_
  refine hxj_iushrU (by rfl) (fun z4 => ?_)
  refine hxj_ixorU (by rfl) (fun z5 => ?_)
  exact hxa_ireturn (by rfl) rfl (hP _ _ ⟨rfl, _, rfl⟩)
theorem hX28 {d : Nat} {A : hs_A} (a1 : Int32) (a2 : Int32) : hxC (d + 1) 28 hm_m28 [.int a1, .int a2] A (fun r A' => A = A' ∧ ∃ z : Int32, r = some (.int z)) := hxC.of (by rfl) (hY28 a1 a2 (fun r A' h => h))
theorem hY27 {d : Nat} {A : hs_A} (a1 : Int32) (a2 : Int32) {P : Option Value → hs_A → Prop} (hP : ∀ (r : Option Value) (A' : hs_A), (A = A' ∧ ∃ z : Int32, r = some (.int z)) → P r A') : hxa (d + 1) (some (.int)) hm_t27 0 [.int a1, .int a2, .retAddr 0] [] A P := by
  have k137 := hk_137
  refine hxa_iload_n (by rfl) rfl ?_
  refine hxa_sipush (by rfl) rfl ?_
  refine hxa_call2 (by rfl) (by decide) (by rfl) (by rfl) (by rfl) (hX28 (d := d + 0)  a1 (Int32.ofNat 137)) ?_
  rintro _ _ ⟨rfl, z1, rfl⟩
  refine hxa_iload_n (by rfl) rfl ?_
  refine hxa_call2 (by rfl) (by decide) (by rfl) (by rfl) (by rfl) (hX28 (d := d + 0)  z1 a2) ?_
  rintro _ _ ⟨rfl, z2, rfl⟩
  refine hxa_s1 (by rfl) (Or.inl ⟨_, rfl, rfl⟩) rfl ?_
  refine hxa_iload_n (by rfl) rfl ?_
  refine hxa_iconst (by rfl) rfl ?_
  refine hxj_iushrU (by rfl) (fun z3 => ?_)
  refine hxa_bipush (by rfl) rfl ?_
  refine hxj_iremU (by rfl) hk_100 (by omega) (fun z4 => ?_)
  exact hxa_ireturn (by rfl) rfl (hP _ _ ⟨rfl, _, rfl⟩)
theorem hX27 {d : Nat} {A : hs_A} (a1 : Int32) (a2 : Int32) : hxC (d + 2) 27 hm_m27 [.int a1, .int a2] A (fun r A' => A = A' ∧ ∃ z : Int32, r = some (.int z)) := hxC.of (by rfl) (hY27 a1 a2 (fun r A' h => h))
theorem hY26 {d : Nat} {Bn Br : Int} {A0 A : hs_A} (hA : hJ 0 Bn Br A0 A)  {L : Nat} (hL : hLL L) {T : Nat} (hT : hTT T) (eT : A0.2.2.2 0 3 = T + 1) (a3 : Int32) (p3 : 0 ≤ a3.toInt) (q3 : a3.toInt ≤ 1) (a4 : Int32) {P : Option Value → hs_A → Prop} (hP : ∀ (r : Option Value) (A' : hs_A), (hJ 0 Bn Br A0 A' ∧ r = none) → P r A') : hxa (d + 3) none hm_t26 0 [.ref (L + 1), .ref (T + 1), .ref 324, .int a3, .int a4, .retAddr 0, .retAddr 0, .retAddr 0] [] A P := by
  have k0 := hk_0
  have L15 : ∀ (m15 : Nat) (x15_5 : Int32) (x15_6 : Int32) (x15_7 : Value) (Ac15 : hs_A) (hAc15 : hJ 0 Bn Br A0 Ac15) (bx15_5 : 0 ≤ x15_5.toInt) (cx15_5 : x15_5.toInt ≤ 255) (bx15_6 : -1 ≤ x15_6.toInt) (cx15_6 : x15_6.toInt ≤ 9) (hm15 : x15_6.toInt - (-1) < (m15 : Int)), hxa (d + 3) none hm_t26 15 [.ref (L + 1), .ref (T + 1), .ref 324, .int a3, .int a4, .int x15_5, .int x15_6, x15_7] [] Ac15 P := by
    intro m15
    induction m15 with
    | zero => intro x15_5 x15_6 x15_7 Ac15 hAc15 bx15_5 cx15_5 bx15_6 cx15_6 hm15;  exact False.elim (by omega)
    | succ m15 ih15 =>
      intro x15_5 x15_6 x15_7 Ac15 hAc15 bx15_5 cx15_5 bx15_6 cx15_6 hm15
      have L69 : ∀ (x69_7 : Int32) (Ac69 : hs_A) (hAc69 : hJ 0 Bn Br A0 Ac69) (bx69_7 : 0 ≤ x69_7.toInt) (cx69_7 : x69_7.toInt ≤ 255) (bx15_6 : 0 ≤ x15_6.toInt), hxa (d + 3) none hm_t26 69 [.ref (L + 1), .ref (T + 1), .ref 324, .int a3, .int a4, .int x15_5, .int x15_6, .int x69_7] [] Ac69 P := by
        intro x69_7 Ac69 hAc69 bx69_7 cx69_7 bx15_6
        refine hxa_aload_n (by rfl) rfl ?_
        refine hxa_get (v := .ref (L + 7)) (by rfl) (hsL hL) (by rfl) (hvL hL (by omega)) ?_
        refine hxa_iload (by rfl) rfl ?_
        refine hxj_iald (by rfl) (hsLa hL (by omega) (by omega)) rfl (by omega) (by omega) (fun z1 ez1 => ?_)
        refine hxj_zle (by rfl) rfl (fun q2 => ?_) (fun q2 => ?_)
        ·
          refine hxa_iload_n (by rfl) rfl ?_
          refine hxj_zeq (by rfl) rfl (fun q3 => ?_) (fun q3 => ?_)
          ·
            refine hxa_aload_n (by rfl) rfl ?_
            refine hxa_iload (by rfl) rfl ?_
            refine hxa_iload (by rfl) rfl ?_
            refine hxa_call0 (by rfl) (by rfl) (by rfl) (hsL hL) (by rfl) (by rfl) (hX23 (d := d + 2) hAc69 hL x15_6 (by omega) (by omega) x69_7 (by omega) (by omega)) ?_
            rintro _ A4 ⟨hA4, rfl⟩
            refine hxj_iinc (by rfl) rfl rfl hk_4294967295 (by omega) (by omega) (fun _ => rfl) (fun z5 ez5 => ?_)
            refine hxa_goto (by rfl) ?_
            exact ih15 x15_5 z5 (.int x69_7) A4 hA4 (by omega) (by omega) (by omega) (by omega) (by omega)
          ·
            refine hxa_iload (by rfl) rfl ?_
            refine hxa_bipush (by rfl) rfl ?_
            refine hxa_aload_n (by rfl) rfl ?_
            refine hxj_getI (by rfl) (hsL hL) (by rfl) (fun z6 ez6 => ?_)
            refine hxj_imulU (by rfl) (fun z7 => ?_)
            refine hxa_iload (by rfl) rfl ?_
            refine hxj_iaddU (by rfl) (fun z8 => ?_)
            refine hxa_call2 (by rfl) (by decide) (by rfl) (by rfl) (by rfl) (hX27 (d := d + 1)  a4 z8) ?_
            rintro _ _ ⟨rfl, z9, rfl⟩
            refine hxa_aload_n (by rfl) rfl ?_
            refine hxa_call0 (by rfl) (by rfl) (by rfl) (by rfl) (by rfl) (by rfl) (hX4 (d := d + 1) hAc69 ) ?_
            rintro _ A10 ⟨hA10, z11, rfl⟩
            have rgz9 := hn_rng z9
            have rgz11 := hn_rng z11
            refine hxj_cge (by rfl) rfl rfl (fun q12 => ?_) (fun q12 => ?_)
            ·
              refine hxa_aload_n (by rfl) rfl ?_
              refine hxa_iload (by rfl) rfl ?_
              refine hxa_iload (by rfl) rfl ?_
              refine hxa_call0 (by rfl) (by rfl) (by rfl) (hsL hL) (by rfl) (by rfl) (hX23 (d := d + 2) hA10 hL x15_6 (by omega) (by omega) x69_7 (by omega) (by omega)) ?_
              rintro _ A13 ⟨hA13, rfl⟩
              refine hxj_iinc (by rfl) rfl rfl hk_4294967295 (by omega) (by omega) (fun _ => rfl) (fun z14 ez14 => ?_)
              refine hxa_goto (by rfl) ?_
              exact ih15 x15_5 z14 (.int x69_7) A13 hA13 (by omega) (by omega) (by omega) (by omega) (by omega)
            ·
              refine hxa_aload_n (by rfl) rfl ?_
              refine hxa_get (v := .ref (L + 7)) (by rfl) (hsL hL) (by rfl) (hvL hL (by omega)) ?_
              refine hxa_iload (by rfl) rfl ?_
              refine hxa_aload_n (by rfl) rfl ?_
              refine hxj_getI (by rfl) (hsT hT) (by rfl) (fun z15 ez15 => ?_)
              refine hxj_iast (by rfl) (hsLa hL (by omega) (by omega)) rfl (by omega) (by omega) hA10 (hbokN (haL6 hL)) (hrLa hL (by omega) (by omega)) (hqL hL (by omega)) (fun A16 hA16 eA16 fA16 gA16 => ?_)
              refine hxa_aload_n (by rfl) rfl ?_
              refine hxa_dupR (by rfl) ?_
              refine hxj_getI (by rfl) (hsL hL) (by rfl) (fun z17 ez17 => ?_)
              refine hxa_iconst (by rfl) rfl ?_
              refine hxj_iaddU (by rfl) (fun z18 => ?_)
              refine hxj_putI (by rfl) (hsL hL) (by rfl) (by rfl) hA16 (hbokN (hbL_10 hL)) (hrL_10 hL) (by rfl) (fun A19 hA19 eA19 fA19 => ?_)
              refine hxa_aload_n (by rfl) rfl ?_
              refine hxa_iload (by rfl) rfl ?_
              refine hxa_iload (by rfl) rfl ?_
              refine hxa_call0 (by rfl) (by rfl) (by rfl) (hsL hL) (by rfl) (by rfl) (hX23 (d := d + 2) hA19 hL x15_6 (by omega) (by omega) x69_7 (by omega) (by omega)) ?_
              rintro _ A20 ⟨hA20, rfl⟩
              refine hxj_iinc (by rfl) rfl rfl hk_4294967295 (by omega) (by omega) (fun _ => rfl) (fun z21 ez21 => ?_)
              refine hxa_goto (by rfl) ?_
              exact ih15 x15_5 z21 (.int x69_7) A20 hA20 (by omega) (by omega) (by omega) (by omega) (by omega)
        ·
          refine hxa_aload_n (by rfl) rfl ?_
          refine hxa_get (v := .ref (L + 7)) (by rfl) (hsL hL) (by rfl) (hvL hL (by omega)) ?_
          refine hxa_iload (by rfl) rfl ?_
          refine hxa_dup2IR (by rfl) ?_
          refine hxj_iald (by rfl) (hsLa hL (by omega) (by omega)) rfl (by omega) (by omega) (fun z22 ez22 => ?_)
          refine hxa_iconst (by rfl) rfl ?_
          refine hxj_isubU (by rfl) (fun z23 => ?_)
          refine hxj_iast (by rfl) (hsLa hL (by omega) (by omega)) rfl (by omega) (by omega) hAc69 (hbokN (haL6 hL)) (hrLa hL (by omega) (by omega)) (hqL hL (by omega)) (fun A24 hA24 eA24 fA24 gA24 => ?_)
          refine hxa_goto (by rfl) ?_
          refine hxa_aload_n (by rfl) rfl ?_
          refine hxa_iload (by rfl) rfl ?_
          refine hxa_iload (by rfl) rfl ?_
          refine hxa_call0 (by rfl) (by rfl) (by rfl) (hsL hL) (by rfl) (by rfl) (hX23 (d := d + 2) hA24 hL x15_6 (by omega) (by omega) x69_7 (by omega) (by omega)) ?_
          rintro _ A25 ⟨hA25, rfl⟩
          refine hxj_iinc (by rfl) rfl rfl hk_4294967295 (by omega) (by omega) (fun _ => rfl) (fun z26 ez26 => ?_)
          refine hxa_goto (by rfl) ?_
          exact ih15 x15_5 z26 (.int x69_7) A25 hA25 (by omega) (by omega) (by omega) (by omega) (by omega)
      refine hxa_iload (by rfl) rfl ?_
      refine hxj_zlt (by rfl) rfl (fun q27 => ?_) (fun q27 => ?_)
      ·
        refine hxa_aload_n (by rfl) rfl ?_
        refine hxa_iconst (by rfl) rfl ?_
        refine hxj_putI (by rfl) (hsL hL) (by rfl) (by rfl) hAc15 (hbok (hbL_8 hL) hk_4294967295 (by omega) (by omega)) (hrL_8 hL) (by rfl) (fun A28 hA28 eA28 fA28 => ?_)
        refine hxa_aload_n (by rfl) rfl ?_
        refine hxa_dupR (by rfl) ?_
        refine hxj_getI (by rfl) (hsL hL) (by rfl) (fun z29 ez29 => ?_)
        refine hxa_iconst (by rfl) rfl ?_
        refine hxj_iaddU (by rfl) (fun z30 => ?_)
        refine hxj_putI (by rfl) (hsL hL) (by rfl) (by rfl) hA28 (hbokN (hbL_7 hL)) (hrL_7 hL) (by rfl) (fun A31 hA31 eA31 fA31 => ?_)
        exact hxa_return (by rfl) rfl (hP _ _ ⟨hA31, rfl⟩)
      ·
        refine hxa_aload_n (by rfl) rfl ?_
        refine hxa_aload_n (by rfl) rfl ?_
        refine hxa_aload_n (by rfl) rfl ?_
        refine hxa_iload (by rfl) rfl ?_
        refine hxa_aload_n (by rfl) rfl ?_
        refine hxj_getI (by rfl) (hsL hL) (by rfl) (fun z32 ez32 => ?_)
        refine hxa_call0 (by rfl) (by rfl) (by rfl) (by rfl) (by rfl) (by rfl) (hX1 (d := d + 1) hAc15 hT eT hL x15_6 (by omega) (by omega) z32) ?_
        rintro _ A33 ⟨hA33, rfl⟩
        refine hxa_iconst (by rfl) rfl ?_
        refine hxa_s1 (by rfl) (Or.inr ⟨_, rfl, rfl⟩) rfl ?_
        refine hxa_aload_n (by rfl) rfl ?_
        refine hxa_iload (by rfl) rfl ?_
        refine hxa_call0 (by rfl) (by rfl) (by rfl) (hsL hL) (by rfl) (by rfl) (hX19 (d := d + 1) hA33 hL x15_6 (by omega) (by omega)) ?_
        rintro _ _ ⟨rfl, z34, rfl, fz34⟩
        refine hxj_zeq (by rfl) rfl (fun q35 => ?_) (fun q35 => ?_)
        ·
          exact L69 (Int32.ofNat 0) A33 hA33 (by omega) (by omega) (by omega)
        ·
          refine hxa_iload (by rfl) rfl ?_
          refine hxj_zne (by rfl) rfl (fun q36 => ?_) (fun q36 => ?_)
          ·
            refine hxa_aload_n (by rfl) rfl ?_
            refine hxa_aload_n (by rfl) rfl ?_
            refine hxa_get (v := .ref (L + 6)) (by rfl) (hsL hL) (by rfl) (hvL hL (by omega)) ?_
            refine hxa_iload (by rfl) rfl ?_
            refine hxa_iconst (by rfl) rfl ?_
            refine hxj_isub (by rfl) rfl hk_1 (by omega) (by omega) (fun z37 ez37 => ?_)
            refine hxj_ialdB (by rfl) (hsLa hL (by omega) (by omega)) rfl (by omega) (by omega) hA33 (haL5 hL) (fun z38 ez38 fz38 gz38 => ?_)
            refine hxa_call0 (by rfl) (by rfl) (by rfl) (by rfl) (by rfl) (by rfl) (hX5 (d := d + 0) hA33 z38) ?_
            rintro _ A39 ⟨hA39, z40, rfl, fz40⟩
            refine hxa_s1 (by rfl) (Or.inr ⟨_, rfl, rfl⟩) rfl ?_
            exact L69 z40 A39 hA39 (by omega) (by omega) (by omega)
          ·
            refine hxa_iload (by rfl) rfl ?_
            refine hxa_goto (by rfl) ?_
            refine hxa_s1 (by rfl) (Or.inr ⟨_, rfl, rfl⟩) rfl ?_
            exact L69 x15_5 A33 hA33 (by omega) (by omega) (by omega)
  refine hxa_aload_n (by rfl) rfl ?_
  refine hxa_aload_n (by rfl) rfl ?_
  refine hxa_call0 (by rfl) (by rfl) (by rfl) (hsL hL) (by rfl) (by rfl) (hX22 (d := d + 1) hA hL hT eT) ?_
  rintro _ _ ⟨rfl, z41, rfl, fz41⟩
  refine hxa_s1 (by rfl) (Or.inr ⟨_, rfl, rfl⟩) rfl ?_
  refine hxa_aload_n (by rfl) rfl ?_
  refine hxj_getB (by rfl) (hsL hL) (by rfl) hA (hbL_6 hL) (fun z42 ez42 fz42 gz42 => ?_)
  refine hxa_iconst (by rfl) rfl ?_
  refine hxj_isub (by rfl) rfl hk_1 (by omega) (by omega) (fun z43 ez43 => ?_)
  refine hxa_s1 (by rfl) (Or.inr ⟨_, rfl, rfl⟩) rfl ?_
  exact L15 (Int.toNat (z43.toInt - (-1)) + 1) z41 z43 (.retAddr 0) A hA (by omega) (by omega) (by omega) (by omega) (by omega)
theorem hX26 {d : Nat} {Bn Br : Int} {A0 A : hs_A} (hA : hJ 0 Bn Br A0 A)  {L : Nat} (hL : hLL L) {T : Nat} (hT : hTT T) (eT : A0.2.2.2 0 3 = T + 1) (a3 : Int32) (p3 : 0 ≤ a3.toInt) (q3 : a3.toInt ≤ 1) (a4 : Int32) : hxC (d + 4) 26 hm_m26 [.ref (L + 1), .ref (T + 1), .ref 324, .int a3, .int a4] A (fun r A' => hJ 0 Bn Br A0 A' ∧ r = none) := hxC.of (by rfl) (hY26 hA hL hT eT a3 p3 q3 a4 (fun r A' h => h))
theorem hY29 {d : Nat} {Bn Br : Int} {A0 A : hs_A} (hA : hJ 0 Bn Br A0 A)  {L : Nat} (hL : hLL L) {P : Option Value → hs_A → Prop} (hP : ∀ (r : Option Value) (A' : hs_A), (A = A' ∧ ∃ z : Int32, r = some (.int z)) → P r A') : hxa (d + 0) (some (.int)) hm_t29 0 [.ref (L + 1), .retAddr 0, .retAddr 0] [] A P := by
  have k0 := hk_0
  have L4 : ∀ (m4 : Nat) (x4_1 : Int32) (x4_2 : Int32) (bx4_2 : 0 ≤ x4_2.toInt) (cx4_2 : x4_2.toInt ≤ 10) (hm4 : 10 - x4_2.toInt < (m4 : Int)), hxa (d + 0) (some (.int)) hm_t29 4 [.ref (L + 1), .int x4_1, .int x4_2] [] A P := by
    intro m4
    induction m4 with
    | zero => intro x4_1 x4_2 bx4_2 cx4_2 hm4; have := hn_rng x4_1; exact False.elim (by omega)
    | succ m4 ih4 =>
      intro x4_1 x4_2 bx4_2 cx4_2 hm4
      refine hxa_iload_n (by rfl) rfl ?_
      refine hxa_aload_n (by rfl) rfl ?_
      refine hxj_getB (by rfl) (hsL hL) (by rfl) hA (hbL_6 hL) (fun z1 ez1 fz1 gz1 => ?_)
      refine hxj_cge (by rfl) rfl rfl (fun q2 => ?_) (fun q2 => ?_)
      ·
        refine hxa_iload_n (by rfl) rfl ?_
        exact hxa_ireturn (by rfl) rfl (hP _ _ ⟨rfl, _, rfl⟩)
      ·
        refine hxa_aload_n (by rfl) rfl ?_
        refine hxa_get (v := .ref (L + 7)) (by rfl) (hsL hL) (by rfl) (hvL hL (by omega)) ?_
        refine hxa_iload_n (by rfl) rfl ?_
        refine hxj_iald (by rfl) (hsLa hL (by omega) (by omega)) rfl (by omega) (by omega) (fun z3 ez3 => ?_)
        refine hxj_zle (by rfl) rfl (fun q4 => ?_) (fun q4 => ?_)
        ·
          refine hxj_iinc (by rfl) rfl rfl hk_1 (by omega) (by omega) (fun _ => rfl) (fun z5 ez5 => ?_)
          refine hxa_goto (by rfl) ?_
          exact ih4 x4_1 z5 (by omega) (by omega) (by omega)
        ·
          refine hxa_iload_n (by rfl) rfl ?_
          refine hxa_iconst (by rfl) rfl ?_
          refine hxa_iload_n (by rfl) rfl ?_
          refine hxj_ishlU (by rfl) (fun z6 => ?_)
          refine hxj_iorU (by rfl) (fun z7 => ?_)
          refine hxa_s1 (by rfl) (Or.inl ⟨_, rfl, rfl⟩) rfl ?_
          refine hxj_iinc (by rfl) rfl rfl hk_1 (by omega) (by omega) (fun _ => rfl) (fun z8 ez8 => ?_)
          refine hxa_goto (by rfl) ?_
          exact ih4 z7 z8 (by omega) (by omega) (by omega)
  refine hxa_iconst (by rfl) rfl ?_
  refine hxa_s1 (by rfl) (Or.inl ⟨_, rfl, rfl⟩) rfl ?_
  refine hxa_iconst (by rfl) rfl ?_
  refine hxa_s1 (by rfl) (Or.inl ⟨_, rfl, rfl⟩) rfl ?_
  exact L4 (Int.toNat (10 - 0) + 1) (Int32.ofNat 0) (Int32.ofNat 0) (by omega) (by omega) (by omega)
theorem hX29 {d : Nat} {Bn Br : Int} {A0 A : hs_A} (hA : hJ 0 Bn Br A0 A)  {L : Nat} (hL : hLL L) : hxC (d + 1) 29 hm_m29 [.ref (L + 1)] A (fun r A' => A = A' ∧ ∃ z : Int32, r = some (.int z)) := hxC.of (by rfl) (hY29 hA hL (fun r A' h => h))
theorem hY30 {d : Nat} {Bn Br : Int} {A0 A : hs_A} (hA : hJ 0 Bn Br A0 A)  {L : Nat} (hL : hLL L) {P : Option Value → hs_A → Prop} (hP : ∀ (r : Option Value) (A' : hs_A), (A = A' ∧ ∃ z : Int32, r = some (.int z)) → P r A') : hxa (d + 1) (some (.int)) hm_t30 0 [.ref (L + 1), .retAddr 0, .retAddr 0] [] A P := by
  have k0 := hk_0
  have L4 : ∀ (m4 : Nat) (x4_1 : Int32) (x4_2 : Int32) (bx4_2 : 0 ≤ x4_2.toInt) (cx4_2 : x4_2.toInt ≤ 10) (hm4 : 10 - x4_2.toInt < (m4 : Int)), hxa (d + 1) (some (.int)) hm_t30 4 [.ref (L + 1), .int x4_1, .int x4_2] [] A P := by
    intro m4
    induction m4 with
    | zero => intro x4_1 x4_2 bx4_2 cx4_2 hm4; have := hn_rng x4_1; exact False.elim (by omega)
    | succ m4 ih4 =>
      intro x4_1 x4_2 bx4_2 cx4_2 hm4
      refine hxa_iload_n (by rfl) rfl ?_
      refine hxa_aload_n (by rfl) rfl ?_
      refine hxj_getB (by rfl) (hsL hL) (by rfl) hA (hbL_6 hL) (fun z1 ez1 fz1 gz1 => ?_)
      refine hxj_cge (by rfl) rfl rfl (fun q2 => ?_) (fun q2 => ?_)
      ·
        refine hxa_iload_n (by rfl) rfl ?_
        exact hxa_ireturn (by rfl) rfl (hP _ _ ⟨rfl, _, rfl⟩)
      ·
        refine hxa_aload_n (by rfl) rfl ?_
        refine hxa_iload_n (by rfl) rfl ?_
        refine hxa_call0 (by rfl) (by rfl) (by rfl) (hsL hL) (by rfl) (by rfl) (hX21 (d := d + 0) hA hL x4_2 (by omega) (by omega)) ?_
        rintro _ _ ⟨rfl, z3, rfl⟩
        refine hxj_zne (by rfl) rfl (fun q4 => ?_) (fun q4 => ?_)
        ·
          refine hxj_iinc (by rfl) rfl rfl hk_1 (by omega) (by omega) (fun _ => rfl) (fun z5 ez5 => ?_)
          refine hxa_goto (by rfl) ?_
          exact ih4 x4_1 z5 (by omega) (by omega) (by omega)
        ·
          refine hxa_iload_n (by rfl) rfl ?_
          refine hxa_iconst (by rfl) rfl ?_
          refine hxa_iload_n (by rfl) rfl ?_
          refine hxj_ishlU (by rfl) (fun z6 => ?_)
          refine hxj_iorU (by rfl) (fun z7 => ?_)
          refine hxa_s1 (by rfl) (Or.inl ⟨_, rfl, rfl⟩) rfl ?_
          refine hxj_iinc (by rfl) rfl rfl hk_1 (by omega) (by omega) (fun _ => rfl) (fun z8 ez8 => ?_)
          refine hxa_goto (by rfl) ?_
          exact ih4 z7 z8 (by omega) (by omega) (by omega)
  refine hxa_iconst (by rfl) rfl ?_
  refine hxa_s1 (by rfl) (Or.inl ⟨_, rfl, rfl⟩) rfl ?_
  refine hxa_iconst (by rfl) rfl ?_
  refine hxa_s1 (by rfl) (Or.inl ⟨_, rfl, rfl⟩) rfl ?_
  exact L4 (Int.toNat (10 - 0) + 1) (Int32.ofNat 0) (Int32.ofNat 0) (by omega) (by omega) (by omega)
theorem hX30 {d : Nat} {Bn Br : Int} {A0 A : hs_A} (hA : hJ 0 Bn Br A0 A)  {L : Nat} (hL : hLL L) : hxC (d + 2) 30 hm_m30 [.ref (L + 1)] A (fun r A' => A = A' ∧ ∃ z : Int32, r = some (.int z)) := hxC.of (by rfl) (hY30 hA hL (fun r A' h => h))
theorem hY31 {d : Nat} {Bn Br : Int} {A0 A : hs_A} (hA : hJ 0 Bn Br A0 A)  {L : Nat} (hL : hLL L) {P : Option Value → hs_A → Prop} (hP : ∀ (r : Option Value) (A' : hs_A), (A = A' ∧ ∃ z : Int32, r = some (.int z)) → P r A') : hxa (d + 0) (some (.int)) hm_t31 0 [.ref (L + 1), .retAddr 0, .retAddr 0] [] A P := by
  have k0 := hk_0
  have L4 : ∀ (m4 : Nat) (x4_1 : Int32) (x4_2 : Int32) (bx4_2 : 0 ≤ x4_2.toInt) (cx4_2 : x4_2.toInt ≤ 10) (hm4 : 10 - x4_2.toInt < (m4 : Int)), hxa (d + 0) (some (.int)) hm_t31 4 [.ref (L + 1), .int x4_1, .int x4_2] [] A P := by
    intro m4
    induction m4 with
    | zero => intro x4_1 x4_2 bx4_2 cx4_2 hm4; have := hn_rng x4_1; exact False.elim (by omega)
    | succ m4 ih4 =>
      intro x4_1 x4_2 bx4_2 cx4_2 hm4
      refine hxa_iload_n (by rfl) rfl ?_
      refine hxa_aload_n (by rfl) rfl ?_
      refine hxj_getB (by rfl) (hsL hL) (by rfl) hA (hbL_6 hL) (fun z1 ez1 fz1 gz1 => ?_)
      refine hxj_cge (by rfl) rfl rfl (fun q2 => ?_) (fun q2 => ?_)
      ·
        refine hxa_iload_n (by rfl) rfl ?_
        exact hxa_ireturn (by rfl) rfl (hP _ _ ⟨rfl, _, rfl⟩)
      ·
        refine hxa_aload_n (by rfl) rfl ?_
        refine hxa_get (v := .ref (L + 6)) (by rfl) (hsL hL) (by rfl) (hvL hL (by omega)) ?_
        refine hxa_iload_n (by rfl) rfl ?_
        refine hxj_ialdB (by rfl) (hsLa hL (by omega) (by omega)) rfl (by omega) (by omega) hA (haL5 hL) (fun z3 ez3 fz3 gz3 => ?_)
        refine hxj_zeq (by rfl) rfl (fun q4 => ?_) (fun q4 => ?_)
        ·
          refine hxj_iinc (by rfl) rfl rfl hk_1 (by omega) (by omega) (fun _ => rfl) (fun z5 ez5 => ?_)
          refine hxa_goto (by rfl) ?_
          exact ih4 x4_1 z5 (by omega) (by omega) (by omega)
        ·
          refine hxa_iload_n (by rfl) rfl ?_
          refine hxa_iconst (by rfl) rfl ?_
          refine hxa_iload_n (by rfl) rfl ?_
          refine hxj_ishlU (by rfl) (fun z6 => ?_)
          refine hxj_iorU (by rfl) (fun z7 => ?_)
          refine hxa_s1 (by rfl) (Or.inl ⟨_, rfl, rfl⟩) rfl ?_
          refine hxj_iinc (by rfl) rfl rfl hk_1 (by omega) (by omega) (fun _ => rfl) (fun z8 ez8 => ?_)
          refine hxa_goto (by rfl) ?_
          exact ih4 z7 z8 (by omega) (by omega) (by omega)
  refine hxa_iconst (by rfl) rfl ?_
  refine hxa_s1 (by rfl) (Or.inl ⟨_, rfl, rfl⟩) rfl ?_
  refine hxa_iconst (by rfl) rfl ?_
  refine hxa_s1 (by rfl) (Or.inl ⟨_, rfl, rfl⟩) rfl ?_
  exact L4 (Int.toNat (10 - 0) + 1) (Int32.ofNat 0) (Int32.ofNat 0) (by omega) (by omega) (by omega)
theorem hX31 {d : Nat} {Bn Br : Int} {A0 A : hs_A} (hA : hJ 0 Bn Br A0 A)  {L : Nat} (hL : hLL L) : hxC (d + 1) 31 hm_m31 [.ref (L + 1)] A (fun r A' => A = A' ∧ ∃ z : Int32, r = some (.int z)) := hxC.of (by rfl) (hY31 hA hL (fun r A' h => h))
theorem hY32 {d : Nat} {Bn Br : Int} {A0 A : hs_A} (hA : hJ 0 Bn Br A0 A)  {L : Nat} (hL : hLL L) {P : Option Value → hs_A → Prop} (hP : ∀ (r : Option Value) (A' : hs_A), (A = A' ∧ ∃ z : Int32, r = some (.int z)) → P r A') : hxa (d + 0) (some (.int)) hm_t32 0 [.ref (L + 1), .retAddr 0, .retAddr 0] [] A P := by
  have k0 := hk_0
  have L4 : ∀ (m4 : Nat) (x4_1 : Int32) (x4_2 : Int32) (bx4_2 : 0 ≤ x4_2.toInt) (cx4_2 : x4_2.toInt ≤ 10) (hm4 : 10 - x4_2.toInt < (m4 : Int)), hxa (d + 0) (some (.int)) hm_t32 4 [.ref (L + 1), .int x4_1, .int x4_2] [] A P := by
    intro m4
    induction m4 with
    | zero => intro x4_1 x4_2 bx4_2 cx4_2 hm4; have := hn_rng x4_1; exact False.elim (by omega)
    | succ m4 ih4 =>
      intro x4_1 x4_2 bx4_2 cx4_2 hm4
      refine hxa_iload_n (by rfl) rfl ?_
      refine hxa_aload_n (by rfl) rfl ?_
      refine hxj_getB (by rfl) (hsL hL) (by rfl) hA (hbL_6 hL) (fun z1 ez1 fz1 gz1 => ?_)
      refine hxj_cge (by rfl) rfl rfl (fun q2 => ?_) (fun q2 => ?_)
      ·
        refine hxa_iload_n (by rfl) rfl ?_
        exact hxa_ireturn (by rfl) rfl (hP _ _ ⟨rfl, _, rfl⟩)
      ·
        refine hxa_aload_n (by rfl) rfl ?_
        refine hxa_get (v := .ref (L + 5)) (by rfl) (hsL hL) (by rfl) (hvL hL (by omega)) ?_
        refine hxa_iload_n (by rfl) rfl ?_
        refine hxj_iald (by rfl) (hsLa hL (by omega) (by omega)) rfl (by omega) (by omega) (fun z3 ez3 => ?_)
        refine hxa_iload_n (by rfl) rfl ?_
        refine hxj_ceq (by rfl) rfl rfl (fun q4 => ?_) (fun q4 => ?_)
        ·
          refine hxj_iinc (by rfl) rfl rfl hk_1 (by omega) (by omega) (fun _ => rfl) (fun z5 ez5 => ?_)
          refine hxa_goto (by rfl) ?_
          exact ih4 x4_1 z5 (by omega) (by omega) (by omega)
        ·
          refine hxa_iload_n (by rfl) rfl ?_
          refine hxa_iconst (by rfl) rfl ?_
          refine hxa_iload_n (by rfl) rfl ?_
          refine hxj_ishlU (by rfl) (fun z6 => ?_)
          refine hxj_iorU (by rfl) (fun z7 => ?_)
          refine hxa_s1 (by rfl) (Or.inl ⟨_, rfl, rfl⟩) rfl ?_
          refine hxj_iinc (by rfl) rfl rfl hk_1 (by omega) (by omega) (fun _ => rfl) (fun z8 ez8 => ?_)
          refine hxa_goto (by rfl) ?_
          exact ih4 z7 z8 (by omega) (by omega) (by omega)
  refine hxa_iconst (by rfl) rfl ?_
  refine hxa_s1 (by rfl) (Or.inl ⟨_, rfl, rfl⟩) rfl ?_
  refine hxa_iconst (by rfl) rfl ?_
  refine hxa_s1 (by rfl) (Or.inl ⟨_, rfl, rfl⟩) rfl ?_
  exact L4 (Int.toNat (10 - 0) + 1) (Int32.ofNat 0) (Int32.ofNat 0) (by omega) (by omega) (by omega)
theorem hX32 {d : Nat} {Bn Br : Int} {A0 A : hs_A} (hA : hJ 0 Bn Br A0 A)  {L : Nat} (hL : hLL L) : hxC (d + 1) 32 hm_m32 [.ref (L + 1)] A (fun r A' => A = A' ∧ ∃ z : Int32, r = some (.int z)) := hxC.of (by rfl) (hY32 hA hL (fun r A' h => h))
theorem hY34 {d : Nat} {Bn Br : Int} {A0 A : hs_A} (hA : hJ 0 Bn Br A0 A)  {L : Nat} (hL : hLL L) {P : Option Value → hs_A → Prop} (hP : ∀ (r : Option Value) (A' : hs_A), (hJ 0 Bn Br A0 A' ∧ r = none) → P r A') : hxa (d + 1) none hm_t34 0 [.ref 41, .ref (L + 1)] [] A P := by
  refine hxa_aload_n (by rfl) rfl ?_
  refine hxa_get (v := .ref 42) (by rfl) (by rfl) (by rfl) rfl ?_
  refine hxa_aload_n (by rfl) rfl ?_
  refine hxj_getB (by rfl) (by rfl) (by rfl) hA (by rfl) (fun z1 ez1 fz1 gz1 => ?_)
  refine hxa_aload_n (by rfl) rfl ?_
  refine hxj_getB (by rfl) (by rfl) (by rfl) hA (by rfl) (fun z2 ez2 fz2 gz2 => ?_)
  refine hxj_iadd (by rfl) rfl rfl (by omega) (by omega) (fun z3 ez3 => ?_)
  refine hxa_bipush (by rfl) rfl ?_
  refine hxj_iremP (by rfl) rfl hk_40 (by omega) (by omega) (fun z4 ez4 => ?_)
  obtain ⟨L5, hL5, eL5⟩ := haa_lives (j := z4) rfl (by omega) (by omega)
  refine hxa_aald (by rfl) (Or.inl rfl) (by rfl) (hn_ix0 rfl (by omega)) eL5 ?_
  refine hxa_aload_n (by rfl) rfl ?_
  refine hxa_call0 (by rfl) (by rfl) (by rfl) (hsL hL5) (by rfl) (by rfl) (hX17 (d := d + 0) hA hL5 hL) ?_
  rintro _ A6 ⟨hA6, rfl⟩
  refine hxa_aload_n (by rfl) rfl ?_
  refine hxj_getB (by rfl) (by rfl) (by rfl) hA6 (by rfl) (fun z7 ez7 fz7 gz7 => ?_)
  refine hxa_bipush (by rfl) rfl ?_
  refine hxj_cge (by rfl) rfl hk_40 (fun q8 => ?_) (fun q8 => ?_)
  ·
    refine hxa_aload_n (by rfl) rfl ?_
    refine hxa_aload_n (by rfl) rfl ?_
    refine hxj_getB (by rfl) (by rfl) (by rfl) hA6 (by rfl) (fun z9 ez9 fz9 gz9 => ?_)
    refine hxa_iconst (by rfl) rfl ?_
    refine hxj_iadd (by rfl) rfl hk_1 (by omega) (by omega) (fun z10 ez10 => ?_)
    refine hxa_bipush (by rfl) rfl ?_
    refine hxj_iremP (by rfl) rfl hk_40 (by omega) (by omega) (fun z11 ez11 => ?_)
    refine hxj_putI (by rfl) (by rfl) (by rfl) (by rfl) hA6 (hbok (by rfl) rfl (by omega) (by omega)) (by rfl) (by rfl) (fun A12 hA12 eA12 fA12 => ?_)
    exact hxa_return (by rfl) rfl (hP _ _ ⟨hA12, rfl⟩)
  ·
    refine hxa_aload_n (by rfl) rfl ?_
    refine hxa_dupR (by rfl) ?_
    refine hxj_getK (by rfl) (by rfl) (by rfl) ez7 ?_
    refine hxa_iconst (by rfl) rfl ?_
    refine hxj_iadd (by rfl) rfl hk_1 (by omega) (by omega) (fun z13 ez13 => ?_)
    refine hxj_putI (by rfl) (by rfl) (by rfl) (by rfl) hA6 (hbok (by rfl) rfl (by omega) (by omega)) (by rfl) (by rfl) (fun A14 hA14 eA14 fA14 => ?_)
    refine hxa_goto (by rfl) ?_
    exact hxa_return (by rfl) rfl (hP _ _ ⟨hA14, rfl⟩)
theorem hX34 {d : Nat} {Bn Br : Int} {A0 A : hs_A} (hA : hJ 0 Bn Br A0 A)  {L : Nat} (hL : hLL L) : hxC (d + 2) 34 hm_m34 [.ref 41, .ref (L + 1)] A (fun r A' => hJ 0 Bn Br A0 A' ∧ r = none) := hxC.of (by rfl) (hY34 hA hL (fun r A' h => h))
theorem hY35 {d : Nat} {Bn Br : Int} {A0 A : hs_A} (hA : hJ 0 Bn Br A0 A)  {L : Nat} (hL : hLL L) {P : Option Value → hs_A → Prop} (hP : ∀ (r : Option Value) (A' : hs_A), (hJ 0 Bn Br A0 A' ∧ ∃ z : Int32, r = some (.int z) ∧ ((0 ≤ z.toInt ∧ z.toInt ≤ 1))) → P r A') : hxa (d + 1) (some (.boolean)) hm_t35 0 [.ref 41, .ref (L + 1)] [] A P := by
  have k0 := hk_0
  have k1 := hk_1
  refine hxa_aload_n (by rfl) rfl ?_
  refine hxj_getB (by rfl) (by rfl) (by rfl) hA (by rfl) (fun z1 ez1 fz1 gz1 => ?_)
  refine hxj_zne (by rfl) rfl (fun q2 => ?_) (fun q2 => ?_)
  ·
    refine hxa_aload_n (by rfl) rfl ?_
    refine hxa_dupR (by rfl) ?_
    refine hxj_getK (by rfl) (by rfl) (by rfl) ez1 ?_
    refine hxa_iconst (by rfl) rfl ?_
    refine hxj_isub (by rfl) rfl hk_1 (by omega) (by omega) (fun z3 ez3 => ?_)
    refine hxj_putI (by rfl) (by rfl) (by rfl) (by rfl) hA (hbok (by rfl) rfl (by omega) (by omega)) (by rfl) (by rfl) (fun A4 hA4 eA4 fA4 => ?_)
    refine hxa_aload_n (by rfl) rfl ?_
    refine hxa_aload_n (by rfl) rfl ?_
    refine hxa_get (v := .ref 42) (by rfl) (by rfl) (by rfl) rfl ?_
    refine hxa_aload_n (by rfl) rfl ?_
    refine hxj_getB (by rfl) (by rfl) (by rfl) hA4 (by rfl) (fun z5 ez5 fz5 gz5 => ?_)
    refine hxa_aload_n (by rfl) rfl ?_
    refine hxj_getK (by rfl) (by rfl) (by rfl) (hkS eA4) ?_
    refine hxj_iadd (by rfl) rfl rfl (by omega) (by omega) (fun z6 ez6 => ?_)
    refine hxa_bipush (by rfl) rfl ?_
    refine hxj_iremP (by rfl) rfl hk_40 (by omega) (by omega) (fun z7 ez7 => ?_)
    obtain ⟨L8, hL8, eL8⟩ := haa_lives (j := z7) rfl (by omega) (by omega)
    refine hxa_aald (by rfl) (Or.inl rfl) (by rfl) (hn_ix0 rfl (by omega)) eL8 ?_
    refine hxa_call0 (by rfl) (by rfl) (by rfl) (hsL hL) (by rfl) (by rfl) (hX17 (d := d + 0) hA4 hL hL8) ?_
    rintro _ A9 ⟨hA9, rfl⟩
    refine hxa_iconst (by rfl) rfl ?_
    exact hxa_ireturn (by rfl) (by rfl) (hP _ _ ⟨hA9, _, rfl, by omega⟩)
  ·
    refine hxa_iconst (by rfl) rfl ?_
    exact hxa_ireturn (by rfl) (by rfl) (hP _ _ ⟨hA, _, rfl, by omega⟩)
theorem hX35 {d : Nat} {Bn Br : Int} {A0 A : hs_A} (hA : hJ 0 Bn Br A0 A)  {L : Nat} (hL : hLL L) : hxC (d + 2) 35 hm_m35 [.ref 41, .ref (L + 1)] A (fun r A' => hJ 0 Bn Br A0 A' ∧ ∃ z : Int32, r = some (.int z) ∧ ((0 ≤ z.toInt ∧ z.toInt ≤ 1))) := hxC.of (by rfl) (hY35 hA hL (fun r A' h => h))
theorem hY78 {d : Nat} {A : hs_A} (a1 : Int32) (a2 : Int32) (a3 : Int32) {P : Option Value → hs_A → Prop} (hP : ∀ (r : Option Value) (A' : hs_A), (A = A' ∧ ∃ z : Int32, r = some (.int z) ∧ ((z.toInt = 1 ∧ a2.toInt ≤ a1.toInt ∧ a1.toInt ≤ a3.toInt) ∨ (z.toInt = 0 ∧ (a1.toInt < a2.toInt ∨ a3.toInt < a1.toInt)))) → P r A') : hxa (d + 0) (some (.boolean)) hm_t78 0 [.int a1, .int a2, .int a3] [] A P := by
  have k0 := hk_0
  have k1 := hk_1
  refine hxa_iload_n (by rfl) rfl ?_
  refine hxa_iload_n (by rfl) rfl ?_
  have rga1 := hn_rng a1
  have rga2 := hn_rng a2
  refine hxj_clt (by rfl) rfl rfl (fun q1 => ?_) (fun q1 => ?_)
  ·
    refine hxa_iconst (by rfl) rfl ?_
    exact hxa_ireturn (by rfl) (by rfl) (hP _ _ ⟨rfl, _, rfl, by omega⟩)
  ·
    refine hxa_iload_n (by rfl) rfl ?_
    refine hxa_iload_n (by rfl) rfl ?_
    have rga3 := hn_rng a3
    refine hxj_cgt (by rfl) rfl rfl (fun q2 => ?_) (fun q2 => ?_)
    ·
      refine hxa_iconst (by rfl) rfl ?_
      exact hxa_ireturn (by rfl) (by rfl) (hP _ _ ⟨rfl, _, rfl, by omega⟩)
    ·
      refine hxa_iconst (by rfl) rfl ?_
      refine hxa_goto (by rfl) ?_
      exact hxa_ireturn (by rfl) (by rfl) (hP _ _ ⟨rfl, _, rfl, by omega⟩)
theorem hX78 {d : Nat} {A : hs_A} (a1 : Int32) (a2 : Int32) (a3 : Int32) : hxC (d + 1) 78 hm_m78 [.int a1, .int a2, .int a3] A (fun r A' => A = A' ∧ ∃ z : Int32, r = some (.int z) ∧ ((z.toInt = 1 ∧ a2.toInt ≤ a1.toInt ∧ a1.toInt ≤ a3.toInt) ∨ (z.toInt = 0 ∧ (a1.toInt < a2.toInt ∨ a3.toInt < a1.toInt)))) := hxC.of (by rfl) (hY78 a1 a2 a3 (fun r A' h => h))
theorem hY65 {d : Nat} {Bn Br : Int} {A0 A : hs_A} (hA : hJ 0 Bn Br A0 A)  (a1 : Int32) (p1 : 0 ≤ a1.toInt) (q1 : a1.toInt ≤ 9) (a2 : Int32) {P : Option Value → hs_A → Prop} (hP : ∀ (r : Option Value) (A' : hs_A), (hJ 0 Bn Br A0 A' ∧ ∃ z : Int32, r = some (.int z)) → P r A') : hxa (d + 0) (some (.int)) hm_t65 0 [.ref 341, .int a1, .int a2] [] A P := by
  have k4294967295 := hk_4294967295
  refine hxa_aload_n (by rfl) rfl ?_
  refine hxj_getB (by rfl) (by rfl) (by rfl) hA (by rfl) (fun z1 ez1 fz1 gz1 => ?_)
  refine hxa_bipush (by rfl) rfl ?_
  refine hxj_clt (by rfl) rfl hk_20 (fun q2 => ?_) (fun q2 => ?_)
  ·
    refine hxa_aload_n (by rfl) rfl ?_
    refine hxa_get (v := .ref 342) (by rfl) (by rfl) (by rfl) rfl ?_
    refine hxa_aload_n (by rfl) rfl ?_
    refine hxj_getK (by rfl) (by rfl) (by rfl) ez1 ?_
    refine hxa_iload_n (by rfl) rfl ?_
    refine hxj_iast (by rfl) (by rfl) rfl (by omega) (by omega) hA (hbok (by rfl) rfl (by omega) (by omega)) (by rfl) (by rfl) (fun A3 hA3 eA3 fA3 gA3 => ?_)
    refine hxa_aload_n (by rfl) rfl ?_
    refine hxa_get (v := .ref 343) (by rfl) (by rfl) (by rfl) rfl ?_
    refine hxa_aload_n (by rfl) rfl ?_
    refine hxj_getK (by rfl) (by rfl) (by rfl) (hkA eA3 ez1) ?_
    refine hxa_iload_n (by rfl) rfl ?_
    refine hxj_iast (by rfl) (by rfl) rfl (by omega) (by omega) hA3 (hbokN (by rfl)) (by rfl) (by rfl) (fun A4 hA4 eA4 fA4 gA4 => ?_)
    refine hxa_aload_n (by rfl) rfl ?_
    refine hxa_dupR (by rfl) ?_
    refine hxj_getK (by rfl) (by rfl) (by rfl) (hkA eA4 (hkA eA3 ez1)) ?_
    refine hxa_iconst (by rfl) rfl ?_
    refine hxj_iadd (by rfl) rfl hk_1 (by omega) (by omega) (fun z5 ez5 => ?_)
    refine hxj_putI (by rfl) (by rfl) (by rfl) (by rfl) hA4 (hbok (by rfl) rfl (by omega) (by omega)) (by rfl) (by rfl) (fun A6 hA6 eA6 fA6 => ?_)
    refine hxa_aload_n (by rfl) rfl ?_
    refine hxj_getK (by rfl) (by rfl) (by rfl) (hkS eA6) ?_
    refine hxa_iconst (by rfl) rfl ?_
    refine hxj_isub (by rfl) rfl hk_1 (by omega) (by omega) (fun z7 ez7 => ?_)
    exact hxa_ireturn (by rfl) rfl (hP _ _ ⟨hA6, _, rfl⟩)
  ·
    refine hxa_iconst (by rfl) rfl ?_
    exact hxa_ireturn (by rfl) rfl (hP _ _ ⟨hA, _, rfl⟩)
theorem hX65 {d : Nat} {Bn Br : Int} {A0 A : hs_A} (hA : hJ 0 Bn Br A0 A)  (a1 : Int32) (p1 : 0 ≤ a1.toInt) (q1 : a1.toInt ≤ 9) (a2 : Int32) : hxC (d + 1) 65 hm_m65 [.ref 341, .int a1, .int a2] A (fun r A' => hJ 0 Bn Br A0 A' ∧ ∃ z : Int32, r = some (.int z)) := hxC.of (by rfl) (hY65 hA a1 p1 q1 a2 (fun r A' h => h))
theorem hY68 {d : Nat} {Bn Br : Int} {A0 A : hs_A} (hA : hJ 0 Bn Br A0 A)  (a1 : Int32) (p1 : 0 ≤ a1.toInt) (q1 : a1.toInt ≤ 9) {T : Nat} (hT : hTT T) (eT : A0.2.2.2 0 3 = T + 1) {L : Nat} (hL : hLL L) {P : Option Value → hs_A → Prop} (hP : ∀ (r : Option Value) (A' : hs_A), (hJ 0 Bn Br A0 A' ∧ r = none) → P r A') : hxa (d + 3) none hm_t68 0 [.ref 329, .int a1, .ref (T + 1), .ref (L + 1), .ref 324, .retAddr 0, .retAddr 0] [] A P := by
  have k0 := hk_0
  have L46 : ∀ (m46 : Nat) (x46_5 : Nat) (x46_6 : Int32) (Ac46 : hs_A) (hx46_5 : hRR x46_5) (hAc46 : hJ 0 Bn Br A0 Ac46) (bx46_6 : 0 ≤ x46_6.toInt) (cx46_6 : x46_6.toInt ≤ 256) (hm46 : 256 - x46_6.toInt < (m46 : Int)), hxa (d + 3) none hm_t68 46 [.ref 329, .int a1, .ref (T + 1), .ref (L + 1), .ref 324, .ref (x46_5 + 1), .int x46_6] [] Ac46 P := by
    intro m46
    induction m46 with
    | zero => intro x46_5 x46_6 Ac46 hx46_5 hAc46 bx46_6 cx46_6 hm46;  exact False.elim (by omega)
    | succ m46 ih46 =>
      intro x46_5 x46_6 Ac46 hx46_5 hAc46 bx46_6 cx46_6 hm46
      refine hxa_iload (by rfl) rfl ?_
      refine hxa_sipush (by rfl) rfl ?_
      refine hxj_cge (by rfl) rfl hk_256 (fun q1 => ?_) (fun q1 => ?_)
      ·
        exact hxa_return (by rfl) rfl (hP _ _ ⟨hAc46, rfl⟩)
      ·
        refine hxa_aload (by rfl) rfl ?_
        refine hxa_iload (by rfl) rfl ?_
        refine hxa_iload_n (by rfl) rfl ?_
        refine hxj_zne (by rfl) rfl (fun q2 => ?_) (fun q2 => ?_)
        ·
          refine hxa_aload (by rfl) rfl ?_
          refine hxa_aload_n (by rfl) rfl ?_
          refine hxa_get (v := .ref 330) (by rfl) (by rfl) (by rfl) rfl ?_
          refine hxa_iload_n (by rfl) rfl ?_
          refine hxa_iconst (by rfl) rfl ?_
          refine hxj_isub (by rfl) rfl hk_1 (by omega) (by omega) (fun z3 ez3 => ?_)
          obtain ⟨R4, hR4, eR4⟩ := haa_rows (j := z3) rfl (by omega) (by omega)
          refine hxa_aald (by rfl) (Or.inr rfl) (by rfl) (hn_ix0 rfl (by omega)) eR4 ?_
          refine hxa_iload (by rfl) rfl ?_
          refine hxj_iald (by rfl) (hsR hR4) rfl (by omega) (by omega) (fun z5 ez5 => ?_)
          refine hxa_call0 (by rfl) (by rfl) (by rfl) (by rfl) (by rfl) (by rfl) (hX5 (d := d + 0) hAc46 z5) ?_
          rintro _ A6 ⟨hA6, z7, rfl, fz7⟩
          refine hxj_iast (by rfl) (hsR hx46_5) rfl (by omega) (by omega) hA6 (hbokN (haR hx46_5)) (hrR hx46_5) (hqR hx46_5) (fun A8 hA8 eA8 fA8 gA8 => ?_)
          refine hxj_iinc (by rfl) rfl rfl hk_1 (by omega) (by omega) (fun _ => rfl) (fun z9 ez9 => ?_)
          refine hxa_goto (by rfl) ?_
          exact ih46 x46_5 z9 A8 hx46_5 hA8 (by omega) (by omega) (by omega)
        ·
          refine hxa_iload (by rfl) rfl ?_
          refine hxa_goto (by rfl) ?_
          refine hxj_iast (by rfl) (hsR hx46_5) rfl (by omega) (by omega) hAc46 (hbokN (haR hx46_5)) (hrR hx46_5) (hqR hx46_5) (fun A10 hA10 eA10 fA10 gA10 => ?_)
          refine hxj_iinc (by rfl) rfl rfl hk_1 (by omega) (by omega) (fun _ => rfl) (fun z11 ez11 => ?_)
          refine hxa_goto (by rfl) ?_
          exact ih46 x46_5 z11 A10 hx46_5 hA10 (by omega) (by omega) (by omega)
  refine hxa_aload_n (by rfl) rfl ?_
  refine hxa_get (v := .ref 330) (by rfl) (by rfl) (by rfl) rfl ?_
  refine hxa_iload_n (by rfl) rfl ?_
  obtain ⟨R12, hR12, eR12⟩ := haa_rows (j := a1) rfl (by omega) (by omega)
  refine hxa_aald (by rfl) (Or.inr rfl) (by rfl) (hn_ix0 rfl (by omega)) eR12 ?_
  refine hxa_astore (by rfl) rfl ?_
  refine hxa_aload_n (by rfl) rfl ?_
  refine hxa_iload_n (by rfl) rfl ?_
  refine hxa_call0 (by rfl) (by rfl) (by rfl) (hsL hL) (by rfl) (by rfl) (hX20 (d := d + 0) hA hL a1) ?_
  rintro _ _ ⟨rfl, z13, rfl⟩
  refine hxa_bipush (by rfl) rfl ?_
  refine hxj_ceq (by rfl) rfl hk_4294967294 (fun q14 => ?_) (fun q14 => ?_)
  ·
    refine hxa_iload_n (by rfl) rfl ?_
    refine hxj_zle (by rfl) rfl (fun q15 => ?_) (fun q15 => ?_)
    ·
      refine hxa_iconst (by rfl) rfl ?_
      refine hxa_s1 (by rfl) (Or.inr ⟨_, rfl, rfl⟩) rfl ?_
      exact L46 (Int.toNat (256 - 0) + 1) R12 (Int32.ofNat 0) A hR12 hA (by omega) (by omega) (by omega)
    ·
      refine hxa_aload (by rfl) rfl ?_
      refine hxa_aload_n (by rfl) rfl ?_
      refine hxa_aload_n (by rfl) rfl ?_
      refine hxa_iload_n (by rfl) rfl ?_
      refine hxa_aload_n (by rfl) rfl ?_
      refine hxj_getI (by rfl) (hsL hL) (by rfl) (fun z16 ez16 => ?_)
      refine hxa_iload_n (by rfl) rfl ?_
      refine hxj_iaddU (by rfl) (fun z17 => ?_)
      refine hxa_call0 (by rfl) (by rfl) (by rfl) (by rfl) (by rfl) (by rfl) (hX1 (d := d + 1) hA hT eT hL a1 (by omega) (by omega) z17) ?_
      rintro _ A18 ⟨hA18, rfl⟩
      refine hxa_iconst (by rfl) rfl ?_
      refine hxa_s1 (by rfl) (Or.inr ⟨_, rfl, rfl⟩) rfl ?_
      exact L46 (Int.toNat (256 - 0) + 1) R12 (Int32.ofNat 0) A18 hR12 hA18 (by omega) (by omega) (by omega)
  ·
    refine hxa_aload (by rfl) rfl ?_
    refine hxa_iconst (by rfl) rfl ?_
    refine hxa_call2 (by rfl) (by decide) (by rfl) (by rfl) (by rfl) (hX246 (d := d + 2) hA (C := R12) (hsR hR12) (by omega) (hbokN (haR hR12)) (hrR hR12) (hqR hR12)) ?_
    rintro _ A19 ⟨hA19, rfl⟩
    exact hxa_return (by rfl) rfl (hP _ _ ⟨hA19, rfl⟩)
theorem hX68 {d : Nat} {Bn Br : Int} {A0 A : hs_A} (hA : hJ 0 Bn Br A0 A)  (a1 : Int32) (p1 : 0 ≤ a1.toInt) (q1 : a1.toInt ≤ 9) {T : Nat} (hT : hTT T) (eT : A0.2.2.2 0 3 = T + 1) {L : Nat} (hL : hLL L) : hxC (d + 4) 68 hm_m68 [.ref 329, .int a1, .ref (T + 1), .ref (L + 1), .ref 324] A (fun r A' => hJ 0 Bn Br A0 A' ∧ r = none) := hxC.of (by rfl) (hY68 hA a1 p1 q1 hT eT hL (fun r A' h => h))
theorem hY67 {d : Nat} {Bn Br : Int} {A0 A : hs_A} (hA : hJ 0 Bn Br A0 A)  (a1 : Int32) (p1 : 0 ≤ a1.toInt) (q1 : a1.toInt ≤ 9) {T : Nat} (hT : hTT T) (eT : A0.2.2.2 0 3 = T + 1) {L : Nat} (hL : hLL L) {P : Option Value → hs_A → Prop} (hP : ∀ (r : Option Value) (A' : hs_A), (hJ 0 Bn Br A0 A' ∧ ∃ R : Nat, r = some (.ref (R + 1)) ∧ hRR R) → P r A') : hxa (d + 4) (some ((.array .int))) hm_t67 0 [.ref 329, .int a1, .ref (T + 1), .ref (L + 1), .ref 324, .retAddr 0] [] A P := by
  have L6 : ∀ (m6 : Nat) (x6_5 : Int32) (Ac6 : hs_A) (hAc6 : hJ 0 Bn Br A0 Ac6) (bx6_5 : 0 ≤ x6_5.toInt) (cx6_5 : x6_5.toInt ≤ 10) (hm6 : 10 - x6_5.toInt < (m6 : Int)), hxa (d + 4) (some ((.array .int))) hm_t67 6 [.ref 329, .int a1, .ref (T + 1), .ref (L + 1), .ref 324, .int x6_5] [] Ac6 P := by
    intro m6
    induction m6 with
    | zero => intro x6_5 Ac6 hAc6 bx6_5 cx6_5 hm6;  exact False.elim (by omega)
    | succ m6 ih6 =>
      intro x6_5 Ac6 hAc6 bx6_5 cx6_5 hm6
      refine hxa_iload (by rfl) rfl ?_
      refine hxa_iload_n (by rfl) rfl ?_
      refine hxj_cgt (by rfl) rfl rfl (fun q1 => ?_) (fun q1 => ?_)
      ·
        refine hxa_aload_n (by rfl) rfl ?_
        refine hxa_aload_n (by rfl) rfl ?_
        refine hxj_getB (by rfl) (by rfl) (by rfl) hAc6 (by rfl) (fun z2 ez2 fz2 gz2 => ?_)
        refine hxa_iload_n (by rfl) rfl ?_
        refine hxa_iconst (by rfl) rfl ?_
        refine hxj_iadd (by rfl) rfl hk_1 (by omega) (by omega) (fun z3 ez3 => ?_)
        refine hxa_call2 (by rfl) (by decide) (by rfl) (by rfl) (by rfl) (hX244 (d := d + 3)  z2 z3) ?_
        rintro _ _ ⟨rfl, z4, rfl, fz4⟩
        refine hxj_putI (by rfl) (by rfl) (by rfl) (by rfl) hAc6 (hbok (by rfl) rfl (by omega) (by omega)) (by rfl) (by rfl) (fun A5 hA5 eA5 fA5 => ?_)
        refine hxa_aload_n (by rfl) rfl ?_
        refine hxa_get (v := .ref 330) (by rfl) (by rfl) (by rfl) rfl ?_
        refine hxa_iload_n (by rfl) rfl ?_
        obtain ⟨R6, hR6, eR6⟩ := haa_rows (j := a1) rfl (by omega) (by omega)
        refine hxa_aald (by rfl) (Or.inr rfl) (by rfl) (hn_ix0 rfl (by omega)) eR6 ?_
        exact hxa_areturn (by rfl) rfl (hP _ _ ⟨hA5, _, rfl, hR6⟩)
      ·
        refine hxa_aload_n (by rfl) rfl ?_
        refine hxa_iload (by rfl) rfl ?_
        refine hxa_aload_n (by rfl) rfl ?_
        refine hxa_aload_n (by rfl) rfl ?_
        refine hxa_aload (by rfl) rfl ?_
        refine hxa_call0 (by rfl) (by rfl) (by rfl) (by rfl) (by rfl) (by rfl) (hX68 (d := d + 0) hAc6 x6_5 (by omega) (by omega) hT eT hL) ?_
        rintro _ A7 ⟨hA7, rfl⟩
        refine hxj_iinc (by rfl) rfl rfl hk_1 (by omega) (by omega) (fun _ => rfl) (fun z8 ez8 => ?_)
        refine hxa_goto (by rfl) ?_
        exact ih6 z8 A7 hA7 (by omega) (by omega) (by omega)
  refine hxa_aload_n (by rfl) rfl ?_
  refine hxj_getB (by rfl) (by rfl) (by rfl) hA (by rfl) (fun z9 ez9 fz9 gz9 => ?_)
  refine hxa_s1 (by rfl) (Or.inr ⟨_, rfl, rfl⟩) rfl ?_
  exact L6 (Int.toNat (10 - z9.toInt) + 1) z9 A hA (by omega) (by omega) (by omega)
theorem hX67 {d : Nat} {Bn Br : Int} {A0 A : hs_A} (hA : hJ 0 Bn Br A0 A)  (a1 : Int32) (p1 : 0 ≤ a1.toInt) (q1 : a1.toInt ≤ 9) {T : Nat} (hT : hTT T) (eT : A0.2.2.2 0 3 = T + 1) {L : Nat} (hL : hLL L) : hxC (d + 5) 67 hm_m67 [.ref 329, .int a1, .ref (T + 1), .ref (L + 1), .ref 324] A (fun r A' => hJ 0 Bn Br A0 A' ∧ ∃ R : Nat, r = some (.ref (R + 1)) ∧ hRR R) := hxC.of (by rfl) (hY67 hA a1 p1 q1 hT eT hL (fun r A' h => h))
theorem hY75 {d : Nat} {Bn Br : Int} {A0 A : hs_A} (hA : hJ 0 Bn Br A0 A)   {P : Option Value → hs_A → Prop} (hP : ∀ (r : Option Value) (A' : hs_A), (A = A' ∧ ∃ z : Int32, r = some (.int z)) → P r A') : hxa (d + 0) (some (.int)) hm_t75 0 [.ref 1] [] A P := by
  refine hxa_aload_n (by rfl) rfl ?_
  refine hxj_getI (by rfl) (by rfl) (by rfl) (fun z1 ez1 => ?_)
  exact hxa_ireturn (by rfl) rfl (hP _ _ ⟨rfl, _, rfl⟩)
theorem hX75 {d : Nat} {Bn Br : Int} {A0 A : hs_A} (hA : hJ 0 Bn Br A0 A)   : hxC (d + 1) 75 hm_m75 [.ref 1] A (fun r A' => A = A' ∧ ∃ z : Int32, r = some (.int z)) := hxC.of (by rfl) (hY75 hA  (fun r A' h => h))
theorem hY76 {d : Nat} {Bn Br : Int} {A0 A : hs_A} (hA : hJ 0 Bn Br A0 A)  (a1 : Int32) {P : Option Value → hs_A → Prop} (hP : ∀ (r : Option Value) (A' : hs_A), (A = A' ∧ ∃ z : Int32, r = some (.int z) ∧ ((z.toInt = 1 ∧ 0 ≤ a1.toInt ∧ a1.toInt ≤ 9) ∨ (z.toInt = 0))) → P r A') : hxa (d + 0) (some (.boolean)) hm_t76 0 [.ref 1, .int a1] [] A P := by
  have k0 := hk_0
  have k1 := hk_1
  obtain ⟨T0, hT0, -, eT0⟩ := hA.T
  refine hxa_iload_n (by rfl) rfl ?_
  refine hxj_zlt (by rfl) rfl (fun q1 => ?_) (fun q1 => ?_)
  ·
    refine hxa_iconst (by rfl) rfl ?_
    exact hxa_ireturn (by rfl) (by rfl) (hP _ _ ⟨rfl, _, rfl, by omega⟩)
  ·
    refine hxa_iload_n (by rfl) rfl ?_
    refine hxa_aload_n (by rfl) rfl ?_
    refine hxj_getT (by rfl) (by rfl) (by rfl) (hA.Tw eT0) ?_
    refine hxj_getB (by rfl) (hsT hT0) (by rfl) hA (hbT_4 hT0) (fun z2 ez2 fz2 gz2 => ?_)
    have rga1 := hn_rng a1
    refine hxj_cge (by rfl) rfl rfl (fun q3 => ?_) (fun q3 => ?_)
    ·
      refine hxa_iconst (by rfl) rfl ?_
      exact hxa_ireturn (by rfl) (by rfl) (hP _ _ ⟨rfl, _, rfl, by omega⟩)
    ·
      refine hxa_iload_n (by rfl) rfl ?_
      refine hxa_bipush (by rfl) rfl ?_
      refine hxj_cge (by rfl) rfl hk_10 (fun q4 => False.elim (by omega)) (fun q4 => ?_)
      refine hxa_iconst (by rfl) rfl ?_
      refine hxa_goto (by rfl) ?_
      exact hxa_ireturn (by rfl) (by rfl) (hP _ _ ⟨rfl, _, rfl, by omega⟩)
theorem hX76 {d : Nat} {Bn Br : Int} {A0 A : hs_A} (hA : hJ 0 Bn Br A0 A)  (a1 : Int32) : hxC (d + 1) 76 hm_m76 [.ref 1, .int a1] A (fun r A' => A = A' ∧ ∃ z : Int32, r = some (.int z) ∧ ((z.toInt = 1 ∧ 0 ≤ a1.toInt ∧ a1.toInt ≤ 9) ∨ (z.toInt = 0))) := hxC.of (by rfl) (hY76 hA a1 (fun r A' h => h))
theorem hY77 {d : Nat} {A : hs_A} (a1 : Int32) {P : Option Value → hs_A → Prop} (hP : ∀ (r : Option Value) (A' : hs_A), (A = A' ∧ ∃ z : Int32, r = some (.int z) ∧ ((z.toInt = 1 ∧ 0 ≤ a1.toInt ∧ a1.toInt ≤ 255) ∨ (z.toInt = 0))) → P r A') : hxa (d + 0) (some (.boolean)) hm_t77 0 [.int a1] [] A P := by
  have k0 := hk_0
  have k1 := hk_1
  refine hxa_iload_n (by rfl) rfl ?_
  refine hxj_zlt (by rfl) rfl (fun q1 => ?_) (fun q1 => ?_)
  ·
    refine hxa_iconst (by rfl) rfl ?_
    exact hxa_ireturn (by rfl) (by rfl) (hP _ _ ⟨rfl, _, rfl, by omega⟩)
  ·
    refine hxa_iload_n (by rfl) rfl ?_
    refine hxa_sipush (by rfl) rfl ?_
    refine hxj_cge (by rfl) rfl hk_256 (fun q2 => ?_) (fun q2 => ?_)
    ·
      refine hxa_iconst (by rfl) rfl ?_
      exact hxa_ireturn (by rfl) (by rfl) (hP _ _ ⟨rfl, _, rfl, by omega⟩)
    ·
      refine hxa_iconst (by rfl) rfl ?_
      refine hxa_goto (by rfl) ?_
      exact hxa_ireturn (by rfl) (by rfl) (hP _ _ ⟨rfl, _, rfl, by omega⟩)
theorem hX77 {d : Nat} {A : hs_A} (a1 : Int32) : hxC (d + 1) 77 hm_m77 [.int a1] A (fun r A' => A = A' ∧ ∃ z : Int32, r = some (.int z) ∧ ((z.toInt = 1 ∧ 0 ≤ a1.toInt ∧ a1.toInt ≤ 255) ∨ (z.toInt = 0))) := hxC.of (by rfl) (hY77 a1 (fun r A' h => h))
theorem hY80 {d : Nat} {Bn Br : Int} {A0 A : hs_A} (hA : hJ 0 Bn Br A0 A)  (a1 : Int32) (p1 : 0 ≤ a1.toInt) (q1 : a1.toInt ≤ 9) (a2 : Int32) {P : Option Value → hs_A → Prop} (hP : ∀ (r : Option Value) (A' : hs_A), (hJ 0 Bn Br A0 A' ∧ ∃ z : Int32, r = some (.int z)) → P r A') : hxa (d + 2) (some (.int)) hm_t80 0 [.ref 1, .int a1, .int a2] [] A P := by
  have k0 := hk_0
  have k4294967295 := hk_4294967295
  obtain ⟨T0, hT0, -, eT0⟩ := hA.T
  refine hxa_aload_n (by rfl) rfl ?_
  refine hxa_get (v := .ref 324) (by rfl) (by rfl) (by rfl) rfl ?_
  refine hxa_aload_n (by rfl) rfl ?_
  refine hxj_getT (by rfl) (by rfl) (by rfl) (hA.Tw eT0) ?_
  refine hxa_aload_n (by rfl) rfl ?_
  refine hxa_get (v := .ref 27) (by rfl) (by rfl) (by rfl) rfl ?_
  refine hxa_iload_n (by rfl) rfl ?_
  refine hxa_aload_n (by rfl) rfl ?_
  refine hxa_get (v := .ref 27) (by rfl) (by rfl) (by rfl) rfl ?_
  refine hxj_getI (by rfl) (by rfl) (by rfl) (fun z1 ez1 => ?_)
  refine hxa_call0 (by rfl) (by rfl) (by rfl) (by rfl) (by rfl) (by rfl) (hX1 (d := d + 0) hA hT0 eT0 hL26 a1 (by omega) (by omega) z1) ?_
  rintro _ A2 ⟨hA2, rfl⟩
  refine hxa_iload_n (by rfl) rfl ?_
  by_cases q3 : a2.toInt = 7
  ·
    refine hxa_tabIn (by rfl) (by omega) (by omega) (by rw [q3]; rfl) (tgt := 52) (by rfl) ?_
    refine hxa_aload_n (by rfl) rfl ?_
    refine hxa_get (v := .ref 324) (by rfl) (by rfl) (by rfl) rfl ?_
    refine hxa_iload_n (by rfl) rfl ?_
    refine hxj_zne (by rfl) rfl (fun q4 => ?_) (fun q4 => ?_)
    ·
      refine hxa_aload_n (by rfl) rfl ?_
      refine hxa_get (v := .ref 27) (by rfl) (by rfl) (by rfl) rfl ?_
      refine hxa_get (v := .ref 32) (by rfl) (by rfl) (by rfl) rfl ?_
      refine hxa_iload_n (by rfl) rfl ?_
      refine hxa_iconst (by rfl) rfl ?_
      refine hxj_isub (by rfl) rfl hk_1 (by omega) (by omega) (fun z5 ez5 => ?_)
      refine hxj_ialdB (by rfl) (by rfl) rfl (by omega) (by omega) hA2 (by rfl) (fun z6 ez6 fz6 gz6 => ?_)
      refine hxa_call2 (by rfl) (by decide) (by rfl) (by rfl) (by rfl) (hX242 (d := d + 1)  z6) ?_
      rintro _ _ ⟨rfl, z7, rfl, fz7⟩
      refine hxa_call0 (by rfl) (by rfl) (by rfl) (by rfl) (by rfl) (by rfl) (hX2 (d := d + 0) hA2 z7 (by omega) (by omega)) ?_
      rintro _ A8 ⟨hA8, z9, rfl⟩
      exact hxa_ireturn (by rfl) rfl (hP _ _ ⟨hA8, _, rfl⟩)
    ·
      refine hxa_iconst (by rfl) rfl ?_
      refine hxa_goto (by rfl) ?_
      refine hxa_call0 (by rfl) (by rfl) (by rfl) (by rfl) (by rfl) (by rfl) (hX2 (d := d + 0) hA2 (Int32.ofNat 0) (by omega) (by omega)) ?_
      rintro _ A10 ⟨hA10, z11, rfl⟩
      exact hxa_ireturn (by rfl) rfl (hP _ _ ⟨hA10, _, rfl⟩)
  ·
    by_cases q12 : a2.toInt = 8
    ·
      refine hxa_tabIn (by rfl) (by omega) (by omega) (by rw [q12]; rfl) (tgt := 82) (by rfl) ?_
      refine hxa_aload_n (by rfl) rfl ?_
      refine hxa_get (v := .ref 324) (by rfl) (by rfl) (by rfl) rfl ?_
      refine hxa_call0 (by rfl) (by rfl) (by rfl) (by rfl) (by rfl) (by rfl) (hX3 (d := d + 0) hA2 ) ?_
      rintro _ A13 ⟨hA13, z14, rfl, fz14⟩
      exact hxa_ireturn (by rfl) rfl (hP _ _ ⟨hA13, _, rfl⟩)
    ·
      by_cases q15 : a2.toInt = 9
      ·
        refine hxa_tabIn (by rfl) (by omega) (by omega) (by rw [q15]; rfl) (tgt := 90) (by rfl) ?_
        refine hxa_aload_n (by rfl) rfl ?_
        refine hxa_get (v := .ref 324) (by rfl) (by rfl) (by rfl) rfl ?_
        refine hxa_call0 (by rfl) (by rfl) (by rfl) (by rfl) (by rfl) (by rfl) (hX4 (d := d + 0) hA2 ) ?_
        rintro _ A16 ⟨hA16, z17, rfl⟩
        exact hxa_ireturn (by rfl) rfl (hP _ _ ⟨hA16, _, rfl⟩)
      ·
        refine hxa_tabOut (by rfl) (by omega) (tgt := 98) (by rfl) ?_
        refine hxa_iconst (by rfl) rfl ?_
        exact hxa_ireturn (by rfl) rfl (hP _ _ ⟨hA2, _, rfl⟩)
theorem hX80 {d : Nat} {Bn Br : Int} {A0 A : hs_A} (hA : hJ 0 Bn Br A0 A)  (a1 : Int32) (p1 : 0 ≤ a1.toInt) (q1 : a1.toInt ≤ 9) (a2 : Int32) : hxC (d + 3) 80 hm_m80 [.ref 1, .int a1, .int a2] A (fun r A' => hJ 0 Bn Br A0 A' ∧ ∃ z : Int32, r = some (.int z)) := hxC.of (by rfl) (hY80 hA a1 p1 q1 a2 (fun r A' h => h))
theorem hY79 {d : Nat} {Bn Br : Int} {A0 A : hs_A} (hA : hJ 0 Bn Br A0 A)  (a1 : Int32) (a2 : Int32) {P : Option Value → hs_A → Prop} (hP : ∀ (r : Option Value) (A' : hs_A), (hJ 0 Bn Br A0 A' ∧ ∃ z : Int32, r = some (.int z)) → P r A') : hxa (d + 3) (some (.int)) hm_t79 0 [.ref 1, .int a1, .int a2] [] A P := by
  have k0 := hk_0
  have k1 := hk_1
  have k4294967295 := hk_4294967295
  refine hxa_aload_n (by rfl) rfl ?_
  refine hxa_iload_n (by rfl) rfl ?_
  refine hxa_call0 (by rfl) (by rfl) (by rfl) (by rfl) (by rfl) (by rfl) (hX76 (d := d + 2) hA a1) ?_
  rintro _ _ ⟨rfl, z1, rfl, fz1⟩
  rcases fz1 with fz1 | fz1
  ·
    refine hxj_zne (by rfl) rfl (fun q2 => ?_) (fun q2 => False.elim (by omega))
    refine hxa_iload_n (by rfl) rfl ?_
    by_cases q3 : a2.toInt = 0
    ·
      refine hxa_tabIn (by rfl) (by omega) (by omega) (by rw [q3]; rfl) (tgt := 52) (by rfl) ?_
      refine hxa_aload_n (by rfl) rfl ?_
      refine hxa_get (v := .ref 27) (by rfl) (by rfl) (by rfl) rfl ?_
      refine hxa_get (v := .ref 28) (by rfl) (by rfl) (by rfl) rfl ?_
      refine hxa_iload_n (by rfl) rfl ?_
      refine hxj_iald (by rfl) (by rfl) rfl (by omega) (by omega) (fun z4 ez4 => ?_)
      exact hxa_ireturn (by rfl) rfl (hP _ _ ⟨hA, _, rfl⟩)
    ·
      by_cases q5 : a2.toInt = 1
      ·
        refine hxa_tabIn (by rfl) (by omega) (by omega) (by rw [q5]; rfl) (tgt := 62) (by rfl) ?_
        refine hxa_aload_n (by rfl) rfl ?_
        refine hxa_get (v := .ref 27) (by rfl) (by rfl) (by rfl) rfl ?_
        refine hxa_get (v := .ref 29) (by rfl) (by rfl) (by rfl) rfl ?_
        refine hxa_iload_n (by rfl) rfl ?_
        refine hxj_iald (by rfl) (by rfl) rfl (by omega) (by omega) (fun z6 ez6 => ?_)
        exact hxa_ireturn (by rfl) rfl (hP _ _ ⟨hA, _, rfl⟩)
      ·
        by_cases q7 : a2.toInt = 2
        ·
          refine hxa_tabIn (by rfl) (by omega) (by omega) (by rw [q7]; rfl) (tgt := 72) (by rfl) ?_
          refine hxa_aload_n (by rfl) rfl ?_
          refine hxa_get (v := .ref 27) (by rfl) (by rfl) (by rfl) rfl ?_
          refine hxa_get (v := .ref 32) (by rfl) (by rfl) (by rfl) rfl ?_
          refine hxa_iload_n (by rfl) rfl ?_
          refine hxj_ialdB (by rfl) (by rfl) rfl (by omega) (by omega) hA (by rfl) (fun z8 ez8 fz8 gz8 => ?_)
          exact hxa_ireturn (by rfl) rfl (hP _ _ ⟨hA, _, rfl⟩)
        ·
          by_cases q9 : a2.toInt = 3
          ·
            refine hxa_tabIn (by rfl) (by omega) (by omega) (by rw [q9]; rfl) (tgt := 82) (by rfl) ?_
            refine hxa_aload_n (by rfl) rfl ?_
            refine hxa_get (v := .ref 27) (by rfl) (by rfl) (by rfl) rfl ?_
            refine hxa_get (v := .ref 30) (by rfl) (by rfl) (by rfl) rfl ?_
            refine hxa_iload_n (by rfl) rfl ?_
            refine hxj_iald (by rfl) (by rfl) rfl (by omega) (by omega) (fun z10 ez10 => ?_)
            exact hxa_ireturn (by rfl) rfl (hP _ _ ⟨hA, _, rfl⟩)
          ·
            by_cases q11 : a2.toInt = 4
            ·
              refine hxa_tabIn (by rfl) (by omega) (by omega) (by rw [q11]; rfl) (tgt := 92) (by rfl) ?_
              refine hxa_aload_n (by rfl) rfl ?_
              refine hxa_get (v := .ref 27) (by rfl) (by rfl) (by rfl) rfl ?_
              refine hxa_iload_n (by rfl) rfl ?_
              refine hxa_call0 (by rfl) (by rfl) (by rfl) (by rfl) (by rfl) (by rfl) (hX18 (d := d + 2) hA hL26 a1) ?_
              rintro _ _ ⟨rfl, z12, rfl, fz12⟩
              refine hxj_zeq (by rfl) rfl (fun q13 => ?_) (fun q13 => ?_)
              ·
                refine hxa_iconst (by rfl) rfl ?_
                exact hxa_ireturn (by rfl) rfl (hP _ _ ⟨hA, _, rfl⟩)
              ·
                refine hxa_iconst (by rfl) rfl ?_
                refine hxa_goto (by rfl) ?_
                exact hxa_ireturn (by rfl) rfl (hP _ _ ⟨hA, _, rfl⟩)
            ·
              by_cases q14 : a2.toInt = 5
              ·
                refine hxa_tabIn (by rfl) (by omega) (by omega) (by rw [q14]; rfl) (tgt := 109) (by rfl) ?_
                refine hxa_aload_n (by rfl) rfl ?_
                refine hxa_get (v := .ref 27) (by rfl) (by rfl) (by rfl) rfl ?_
                refine hxa_get (v := .ref 33) (by rfl) (by rfl) (by rfl) rfl ?_
                refine hxa_iload_n (by rfl) rfl ?_
                refine hxj_iald (by rfl) (by rfl) rfl (by omega) (by omega) (fun z15 ez15 => ?_)
                exact hxa_ireturn (by rfl) rfl (hP _ _ ⟨hA, _, rfl⟩)
              ·
                by_cases q16 : a2.toInt = 6
                ·
                  refine hxa_tabIn (by rfl) (by omega) (by omega) (by rw [q16]; rfl) (tgt := 119) (by rfl) ?_
                  refine hxa_aload_n (by rfl) rfl ?_
                  refine hxa_get (v := .ref 27) (by rfl) (by rfl) (by rfl) rfl ?_
                  refine hxa_get (v := .ref 31) (by rfl) (by rfl) (by rfl) rfl ?_
                  refine hxa_iload_n (by rfl) rfl ?_
                  refine hxj_iald (by rfl) (by rfl) rfl (by omega) (by omega) (fun z17 ez17 => ?_)
                  exact hxa_ireturn (by rfl) rfl (hP _ _ ⟨hA, _, rfl⟩)
                ·
                  refine hxa_tabOut (by rfl) (by omega) (tgt := 129) (by rfl) ?_
                  refine hxa_aload_n (by rfl) rfl ?_
                  refine hxa_iload_n (by rfl) rfl ?_
                  refine hxa_iload_n (by rfl) rfl ?_
                  refine hxa_call0 (by rfl) (by rfl) (by rfl) (by rfl) (by rfl) (by rfl) (hX80 (d := d + 0) hA a1 (by omega) (by omega) a2) ?_
                  rintro _ A18 ⟨hA18, z19, rfl⟩
                  exact hxa_ireturn (by rfl) rfl (hP _ _ ⟨hA18, _, rfl⟩)
  ·
    refine hxj_zne (by rfl) rfl (fun q20 => False.elim (by omega)) (fun q20 => ?_)
    refine hxa_iconst (by rfl) rfl ?_
    exact hxa_ireturn (by rfl) rfl (hP _ _ ⟨hA, _, rfl⟩)
theorem hX79 {d : Nat} {Bn Br : Int} {A0 A : hs_A} (hA : hJ 0 Bn Br A0 A)  (a1 : Int32) (a2 : Int32) : hxC (d + 4) 79 hm_m79 [.ref 1, .int a1, .int a2] A (fun r A' => hJ 0 Bn Br A0 A' ∧ ∃ z : Int32, r = some (.int z)) := hxC.of (by rfl) (hY79 hA a1 a2 (fun r A' h => h))
theorem hY81 {d : Nat} {Bn Br : Int} {A0 A : hs_A} (hA : hJ 0 Bn Br A0 A)  (a1 : Int32) (a2 : Int32) {P : Option Value → hs_A → Prop} (hP : ∀ (r : Option Value) (A' : hs_A), (hJ 0 Bn Br A0 A' ∧ ∃ z : Int32, r = some (.int z)) → P r A') : hxa (d + 3) (some (.int)) hm_t81 0 [.ref 1, .int a1, .int a2] [] A P := by
  have k4294967295 := hk_4294967295
  obtain ⟨T0, hT0, -, eT0⟩ := hA.T
  refine hxa_aload_n (by rfl) rfl ?_
  refine hxa_iload_n (by rfl) rfl ?_
  refine hxa_call0 (by rfl) (by rfl) (by rfl) (by rfl) (by rfl) (by rfl) (hX76 (d := d + 2) hA a1) ?_
  rintro _ _ ⟨rfl, z1, rfl, fz1⟩
  rcases fz1 with fz1 | fz1
  ·
    refine hxj_zeq (by rfl) rfl (fun q2 => False.elim (by omega)) (fun q2 => ?_)
    refine hxa_iload_n (by rfl) rfl ?_
    refine hxa_call2 (by rfl) (by decide) (by rfl) (by rfl) (by rfl) (hX77 (d := d + 2)  a2) ?_
    rintro _ _ ⟨rfl, z3, rfl, fz3⟩
    rcases fz3 with fz3 | fz3
    ·
      refine hxj_zne (by rfl) rfl (fun q4 => ?_) (fun q4 => False.elim (by omega))
      refine hxa_aload_n (by rfl) rfl ?_
      refine hxa_get (v := .ref 324) (by rfl) (by rfl) (by rfl) rfl ?_
      refine hxa_aload_n (by rfl) rfl ?_
      refine hxj_getT (by rfl) (by rfl) (by rfl) (hA.Tw eT0) ?_
      refine hxa_aload_n (by rfl) rfl ?_
      refine hxa_get (v := .ref 27) (by rfl) (by rfl) (by rfl) rfl ?_
      refine hxa_iload_n (by rfl) rfl ?_
      refine hxa_aload_n (by rfl) rfl ?_
      refine hxa_get (v := .ref 27) (by rfl) (by rfl) (by rfl) rfl ?_
      refine hxj_getI (by rfl) (by rfl) (by rfl) (fun z5 ez5 => ?_)
      refine hxa_call0 (by rfl) (by rfl) (by rfl) (by rfl) (by rfl) (by rfl) (hX1 (d := d + 1) hA hT0 eT0 hL26 a1 (by omega) (by omega) z5) ?_
      rintro _ A6 ⟨hA6, rfl⟩
      refine hxa_aload_n (by rfl) rfl ?_
      refine hxa_get (v := .ref 324) (by rfl) (by rfl) (by rfl) rfl ?_
      refine hxa_iload_n (by rfl) rfl ?_
      refine hxa_call0 (by rfl) (by rfl) (by rfl) (by rfl) (by rfl) (by rfl) (hX5 (d := d + 0) hA6 a2) ?_
      rintro _ A7 ⟨hA7, z8, rfl, fz8⟩
      exact hxa_ireturn (by rfl) rfl (hP _ _ ⟨hA7, _, rfl⟩)
    ·
      refine hxj_zne (by rfl) rfl (fun q9 => False.elim (by omega)) (fun q9 => ?_)
      refine hxa_iconst (by rfl) rfl ?_
      exact hxa_ireturn (by rfl) rfl (hP _ _ ⟨hA, _, rfl⟩)
  ·
    refine hxj_zeq (by rfl) rfl (fun q10 => ?_) (fun q10 => False.elim (by omega))
    refine hxa_iconst (by rfl) rfl ?_
    exact hxa_ireturn (by rfl) rfl (hP _ _ ⟨hA, _, rfl⟩)
theorem hX81 {d : Nat} {Bn Br : Int} {A0 A : hs_A} (hA : hJ 0 Bn Br A0 A)  (a1 : Int32) (a2 : Int32) : hxC (d + 4) 81 hm_m81 [.ref 1, .int a1, .int a2] A (fun r A' => hJ 0 Bn Br A0 A' ∧ ∃ z : Int32, r = some (.int z)) := hxC.of (by rfl) (hY81 hA a1 a2 (fun r A' h => h))
theorem hY82 {d : Nat} {Bn Br : Int} {A0 A : hs_A} (hA : hJ 0 Bn Br A0 A)   {P : Option Value → hs_A → Prop} (hP : ∀ (r : Option Value) (A' : hs_A), (hJ 0 Bn Br A0 A' ∧ r = none) → P r A') : hxa (d + 2) none hm_t82 0 [.ref 1] [] A P := by
  refine hxa_aload_n (by rfl) rfl ?_
  refine hxa_get (v := .ref 41) (by rfl) (by rfl) (by rfl) rfl ?_
  refine hxa_aload_n (by rfl) rfl ?_
  refine hxa_get (v := .ref 27) (by rfl) (by rfl) (by rfl) rfl ?_
  refine hxa_call0 (by rfl) (by rfl) (by rfl) (by rfl) (by rfl) (by rfl) (hX34 (d := d + 0) hA hL26) ?_
  rintro _ A1 ⟨hA1, rfl⟩
  refine hxa_aload_n (by rfl) rfl ?_
  refine hxa_get (v := .ref 329) (by rfl) (by rfl) (by rfl) rfl ?_
  refine hxa_iconst (by rfl) rfl ?_
  refine hxj_putI (by rfl) (by rfl) (by rfl) (by rfl) hA1 (hbok (by rfl) hk_0 (by omega) (by omega)) (by rfl) (by rfl) (fun A2 hA2 eA2 fA2 => ?_)
  exact hxa_return (by rfl) rfl (hP _ _ ⟨hA2, rfl⟩)
theorem hX82 {d : Nat} {Bn Br : Int} {A0 A : hs_A} (hA : hJ 0 Bn Br A0 A)   : hxC (d + 3) 82 hm_m82 [.ref 1] A (fun r A' => hJ 0 Bn Br A0 A' ∧ r = none) := hxC.of (by rfl) (hY82 hA  (fun r A' h => h))
theorem hY83 {d : Nat} {Bn Br : Int} {A0 A : hs_A} (hA : hJ 0 Bn Br A0 A)  (a1 : Int32) (a2 : Int32) (p2 : 0 ≤ a2.toInt) (q2 : a2.toInt ≤ 1) {P : Option Value → hs_A → Prop} (hP : ∀ (r : Option Value) (A' : hs_A), (hJ 0 Bn Br A0 A' ∧ ∃ z : Int32, r = some (.int z) ∧ ((0 ≤ z.toInt ∧ z.toInt ≤ 1))) → P r A') : hxa (d + 3) (some (.boolean)) hm_t83 0 [.ref 1, .int a1, .int a2] [] A P := by
  have k0 := hk_0
  have k1 := hk_1
  refine hxa_aload_n (by rfl) rfl ?_
  refine hxa_iload_n (by rfl) rfl ?_
  refine hxa_call0 (by rfl) (by rfl) (by rfl) (by rfl) (by rfl) (by rfl) (hX76 (d := d + 2) hA a1) ?_
  rintro _ _ ⟨rfl, z1, rfl, fz1⟩
  rcases fz1 with fz1 | fz1
  ·
    refine hxj_zeq (by rfl) rfl (fun q2 => False.elim (by omega)) (fun q2 => ?_)
    refine hxa_aload_n (by rfl) rfl ?_
    refine hxa_get (v := .ref 27) (by rfl) (by rfl) (by rfl) rfl ?_
    refine hxa_iload_n (by rfl) rfl ?_
    refine hxa_call0 (by rfl) (by rfl) (by rfl) (by rfl) (by rfl) (by rfl) (hX18 (d := d + 2) hA hL26 a1) ?_
    rintro _ _ ⟨rfl, z3, rfl, fz3⟩
    refine hxa_iload_n (by rfl) rfl ?_
    refine hxj_cne (by rfl) rfl rfl (fun q4 => ?_) (fun q4 => ?_)
    ·
      refine hxa_aload_n (by rfl) rfl ?_
      refine hxa_call0 (by rfl) (by rfl) (by rfl) (by rfl) (by rfl) (by rfl) (hX82 (d := d + 0) hA ) ?_
      rintro _ A5 ⟨hA5, rfl⟩
      refine hxa_aload_n (by rfl) rfl ?_
      refine hxa_get (v := .ref 27) (by rfl) (by rfl) (by rfl) rfl ?_
      refine hxa_dupR (by rfl) ?_
      refine hxj_getI (by rfl) (by rfl) (by rfl) (fun z6 ez6 => ?_)
      refine hxa_iconst (by rfl) rfl ?_
      refine hxa_iload_n (by rfl) rfl ?_
      refine hxj_ishlU (by rfl) (fun z7 => ?_)
      refine hxj_ixorU (by rfl) (fun z8 => ?_)
      refine hxj_putI (by rfl) (by rfl) (by rfl) (by rfl) hA5 (hbokN (by rfl)) (by rfl) (by rfl) (fun A9 hA9 eA9 fA9 => ?_)
      refine hxa_iconst (by rfl) rfl ?_
      exact hxa_ireturn (by rfl) (by rfl) (hP _ _ ⟨hA9, _, rfl, by omega⟩)
    ·
      refine hxa_iconst (by rfl) rfl ?_
      exact hxa_ireturn (by rfl) (by rfl) (hP _ _ ⟨hA, _, rfl, by omega⟩)
  ·
    refine hxj_zeq (by rfl) rfl (fun q10 => ?_) (fun q10 => False.elim (by omega))
    refine hxa_iconst (by rfl) rfl ?_
    exact hxa_ireturn (by rfl) (by rfl) (hP _ _ ⟨hA, _, rfl, by omega⟩)
theorem hX83 {d : Nat} {Bn Br : Int} {A0 A : hs_A} (hA : hJ 0 Bn Br A0 A)  (a1 : Int32) (a2 : Int32) (p2 : 0 ≤ a2.toInt) (q2 : a2.toInt ≤ 1) : hxC (d + 4) 83 hm_m83 [.ref 1, .int a1, .int a2] A (fun r A' => hJ 0 Bn Br A0 A' ∧ ∃ z : Int32, r = some (.int z) ∧ ((0 ≤ z.toInt ∧ z.toInt ≤ 1))) := hxC.of (by rfl) (hY83 hA a1 a2 p2 q2 (fun r A' h => h))
theorem hY84 {d : Nat} {Bn Br : Int} {A0 A : hs_A} (hA : hJ 0 Bn Br A0 A)  (a1 : Int32) {P : Option Value → hs_A → Prop} (hP : ∀ (r : Option Value) (A' : hs_A), (hJ 0 Bn Br A0 A' ∧ ∃ z : Int32, r = some (.int z) ∧ ((0 ≤ z.toInt ∧ z.toInt ≤ 1))) → P r A') : hxa (d + 3) (some (.boolean)) hm_t84 0 [.ref 1, .int a1] [] A P := by
  have k0 := hk_0
  have k1 := hk_1
  obtain ⟨T0, hT0, -, eT0⟩ := hA.T
  refine hxa_iload_n (by rfl) rfl ?_
  refine hxa_call2 (by rfl) (by decide) (by rfl) (by rfl) (by rfl) (hX77 (d := d + 2)  a1) ?_
  rintro _ _ ⟨rfl, z1, rfl, fz1⟩
  rcases fz1 with fz1 | fz1
  ·
    refine hxj_zeq (by rfl) rfl (fun q2 => False.elim (by omega)) (fun q2 => ?_)
    refine hxa_aload_n (by rfl) rfl ?_
    refine hxj_getT (by rfl) (by rfl) (by rfl) (hA.Tw eT0) ?_
    refine hxj_getB (by rfl) (hsT hT0) (by rfl) hA (hbT_4 hT0) (fun z3 ez3 fz3 gz3 => ?_)
    refine hxj_zne (by rfl) rfl (fun q4 => ?_) (fun q4 => ?_)
    ·
      refine hxa_aload_n (by rfl) rfl ?_
      refine hxa_call0 (by rfl) (by rfl) (by rfl) (by rfl) (by rfl) (by rfl) (hX82 (d := d + 0) hA ) ?_
      rintro _ A5 ⟨hA5, rfl⟩
      refine hxa_aload_n (by rfl) rfl ?_
      refine hxa_get (v := .ref 27) (by rfl) (by rfl) (by rfl) rfl ?_
      refine hxa_iload_n (by rfl) rfl ?_
      refine hxj_putI (by rfl) (by rfl) (by rfl) (by rfl) hA5 (hbok (by rfl) rfl (by omega) (by omega)) (by rfl) (by rfl) (fun A6 hA6 eA6 fA6 => ?_)
      refine hxa_iconst (by rfl) rfl ?_
      exact hxa_ireturn (by rfl) (by rfl) (hP _ _ ⟨hA6, _, rfl, by omega⟩)
    ·
      refine hxa_iconst (by rfl) rfl ?_
      exact hxa_ireturn (by rfl) (by rfl) (hP _ _ ⟨hA, _, rfl, by omega⟩)
  ·
    refine hxj_zeq (by rfl) rfl (fun q7 => ?_) (fun q7 => False.elim (by omega))
    refine hxa_iconst (by rfl) rfl ?_
    exact hxa_ireturn (by rfl) (by rfl) (hP _ _ ⟨hA, _, rfl, by omega⟩)
theorem hX84 {d : Nat} {Bn Br : Int} {A0 A : hs_A} (hA : hJ 0 Bn Br A0 A)  (a1 : Int32) : hxC (d + 4) 84 hm_m84 [.ref 1, .int a1] A (fun r A' => hJ 0 Bn Br A0 A' ∧ ∃ z : Int32, r = some (.int z) ∧ ((0 ≤ z.toInt ∧ z.toInt ≤ 1))) := hxC.of (by rfl) (hY84 hA a1 (fun r A' h => h))
theorem hY85 {d : Nat} {Bn Br : Int} {A0 A : hs_A} (hA : hJ 0 Bn Br A0 A)  (a1 : Int32) (a2 : Int32) {P : Option Value → hs_A → Prop} (hP : ∀ (r : Option Value) (A' : hs_A), (hJ 0 Bn Br A0 A' ∧ ∃ z : Int32, r = some (.int z)) → P r A') : hxa (d + 3) (some (.int)) hm_t85 0 [.ref 1, .int a1, .int a2] [] A P := by
  have k4294967295 := hk_4294967295
  refine hxa_aload_n (by rfl) rfl ?_
  refine hxa_iload_n (by rfl) rfl ?_
  refine hxa_call0 (by rfl) (by rfl) (by rfl) (by rfl) (by rfl) (by rfl) (hX76 (d := d + 2) hA a1) ?_
  rintro _ _ ⟨rfl, z1, rfl, fz1⟩
  rcases fz1 with fz1 | fz1
  ·
    refine hxj_zeq (by rfl) rfl (fun q2 => False.elim (by omega)) (fun q2 => ?_)
    refine hxa_aload_n (by rfl) rfl ?_
    refine hxa_iload_n (by rfl) rfl ?_
    refine hxa_call0 (by rfl) (by rfl) (by rfl) (by rfl) (by rfl) (by rfl) (hX76 (d := d + 2) hA a2) ?_
    rintro _ _ ⟨rfl, z3, rfl, fz3⟩
    rcases fz3 with fz3 | fz3
    ·
      refine hxj_zeq (by rfl) rfl (fun q4 => False.elim (by omega)) (fun q4 => ?_)
      refine hxa_iload_n (by rfl) rfl ?_
      refine hxa_iload_n (by rfl) rfl ?_
      refine hxj_cne (by rfl) rfl rfl (fun q5 => ?_) (fun q5 => ?_)
      ·
        refine hxa_aload_n (by rfl) rfl ?_
        refine hxa_call0 (by rfl) (by rfl) (by rfl) (by rfl) (by rfl) (by rfl) (hX82 (d := d + 0) hA ) ?_
        rintro _ A6 ⟨hA6, rfl⟩
        refine hxa_aload_n (by rfl) rfl ?_
        refine hxa_get (v := .ref 27) (by rfl) (by rfl) (by rfl) rfl ?_
        refine hxa_iload_n (by rfl) rfl ?_
        refine hxa_aload_n (by rfl) rfl ?_
        refine hxa_get (v := .ref 27) (by rfl) (by rfl) (by rfl) rfl ?_
        refine hxa_get (v := .ref 32) (by rfl) (by rfl) (by rfl) rfl ?_
        refine hxa_iload_n (by rfl) rfl ?_
        refine hxj_ialdB (by rfl) (by rfl) rfl (by omega) (by omega) hA6 (by rfl) (fun z7 ez7 fz7 gz7 => ?_)
        refine hxa_call0 (by rfl) (by rfl) (by rfl) (by rfl) (by rfl) (by rfl) (hX23 (d := d + 2) hA6 hL26 a2 (by omega) (by omega) z7 (by omega) (by omega)) ?_
        rintro _ A8 ⟨hA8, rfl⟩
        refine hxa_aload_n (by rfl) rfl ?_
        refine hxa_get (v := .ref 27) (by rfl) (by rfl) (by rfl) rfl ?_
        refine hxa_get (v := .ref 32) (by rfl) (by rfl) (by rfl) rfl ?_
        refine hxa_iload_n (by rfl) rfl ?_
        refine hxj_ialdB (by rfl) (by rfl) rfl (by omega) (by omega) hA8 (by rfl) (fun z9 ez9 fz9 gz9 => ?_)
        exact hxa_ireturn (by rfl) rfl (hP _ _ ⟨hA8, _, rfl⟩)
      ·
        refine hxa_iconst (by rfl) rfl ?_
        exact hxa_ireturn (by rfl) rfl (hP _ _ ⟨hA, _, rfl⟩)
    ·
      refine hxj_zeq (by rfl) rfl (fun q10 => ?_) (fun q10 => False.elim (by omega))
      refine hxa_iconst (by rfl) rfl ?_
      exact hxa_ireturn (by rfl) rfl (hP _ _ ⟨hA, _, rfl⟩)
  ·
    refine hxj_zeq (by rfl) rfl (fun q11 => ?_) (fun q11 => False.elim (by omega))
    refine hxa_iconst (by rfl) rfl ?_
    exact hxa_ireturn (by rfl) rfl (hP _ _ ⟨hA, _, rfl⟩)
theorem hX85 {d : Nat} {Bn Br : Int} {A0 A : hs_A} (hA : hJ 0 Bn Br A0 A)  (a1 : Int32) (a2 : Int32) : hxC (d + 4) 85 hm_m85 [.ref 1, .int a1, .int a2] A (fun r A' => hJ 0 Bn Br A0 A' ∧ ∃ z : Int32, r = some (.int z)) := hxC.of (by rfl) (hY85 hA a1 a2 (fun r A' h => h))
theorem hY86 {d : Nat} {Bn Br : Int} {A0 A : hs_A} (hA : hJ 0 Bn Br A0 A)  (a1 : Int32) (a2 : Int32) {P : Option Value → hs_A → Prop} (hP : ∀ (r : Option Value) (A' : hs_A), (hJ 0 Bn Br A0 A' ∧ ∃ z : Int32, r = some (.int z) ∧ ((0 ≤ z.toInt ∧ z.toInt ≤ 1))) → P r A') : hxa (d + 3) (some (.boolean)) hm_t86 0 [.ref 1, .int a1, .int a2] [] A P := by
  have k0 := hk_0
  have k1 := hk_1
  refine hxa_aload_n (by rfl) rfl ?_
  refine hxa_iload_n (by rfl) rfl ?_
  refine hxa_call0 (by rfl) (by rfl) (by rfl) (by rfl) (by rfl) (by rfl) (hX76 (d := d + 2) hA a1) ?_
  rintro _ _ ⟨rfl, z1, rfl, fz1⟩
  rcases fz1 with fz1 | fz1
  ·
    refine hxj_zeq (by rfl) rfl (fun q2 => False.elim (by omega)) (fun q2 => ?_)
    refine hxa_aload_n (by rfl) rfl ?_
    refine hxa_iload_n (by rfl) rfl ?_
    refine hxa_call0 (by rfl) (by rfl) (by rfl) (by rfl) (by rfl) (by rfl) (hX76 (d := d + 2) hA a2) ?_
    rintro _ _ ⟨rfl, z3, rfl, fz3⟩
    rcases fz3 with fz3 | fz3
    ·
      refine hxj_zeq (by rfl) rfl (fun q4 => False.elim (by omega)) (fun q4 => ?_)
      refine hxa_iload_n (by rfl) rfl ?_
      refine hxa_iload_n (by rfl) rfl ?_
      refine hxj_cne (by rfl) rfl rfl (fun q5 => ?_) (fun q5 => ?_)
      ·
        refine hxa_aload_n (by rfl) rfl ?_
        refine hxa_call0 (by rfl) (by rfl) (by rfl) (by rfl) (by rfl) (by rfl) (hX82 (d := d + 0) hA ) ?_
        rintro _ A6 ⟨hA6, rfl⟩
        refine hxa_aload_n (by rfl) rfl ?_
        refine hxa_get (v := .ref 27) (by rfl) (by rfl) (by rfl) rfl ?_
        refine hxa_iload_n (by rfl) rfl ?_
        refine hxa_iload_n (by rfl) rfl ?_
        refine hxa_call0 (by rfl) (by rfl) (by rfl) (by rfl) (by rfl) (by rfl) (hX24 (d := d + 1) hA6 hL26 a1 (by omega) (by omega) a2 (by omega) (by omega)) ?_
        rintro _ A7 ⟨hA7, rfl⟩
        refine hxa_iconst (by rfl) rfl ?_
        exact hxa_ireturn (by rfl) (by rfl) (hP _ _ ⟨hA7, _, rfl, by omega⟩)
      ·
        refine hxa_iconst (by rfl) rfl ?_
        exact hxa_ireturn (by rfl) (by rfl) (hP _ _ ⟨hA, _, rfl, by omega⟩)
    ·
      refine hxj_zeq (by rfl) rfl (fun q8 => ?_) (fun q8 => False.elim (by omega))
      refine hxa_iconst (by rfl) rfl ?_
      exact hxa_ireturn (by rfl) (by rfl) (hP _ _ ⟨hA, _, rfl, by omega⟩)
  ·
    refine hxj_zeq (by rfl) rfl (fun q9 => ?_) (fun q9 => False.elim (by omega))
    refine hxa_iconst (by rfl) rfl ?_
    exact hxa_ireturn (by rfl) (by rfl) (hP _ _ ⟨hA, _, rfl, by omega⟩)
theorem hX86 {d : Nat} {Bn Br : Int} {A0 A : hs_A} (hA : hJ 0 Bn Br A0 A)  (a1 : Int32) (a2 : Int32) : hxC (d + 4) 86 hm_m86 [.ref 1, .int a1, .int a2] A (fun r A' => hJ 0 Bn Br A0 A' ∧ ∃ z : Int32, r = some (.int z) ∧ ((0 ≤ z.toInt ∧ z.toInt ≤ 1))) := hxC.of (by rfl) (hY86 hA a1 a2 (fun r A' h => h))
theorem hY87 {d : Nat} {Bn Br : Int} {A0 A : hs_A} (hA : hJ 0 Bn Br A0 A)  (a1 : Int32) {P : Option Value → hs_A → Prop} (hP : ∀ (r : Option Value) (A' : hs_A), (hJ 0 Bn Br A0 A' ∧ ∃ z : Int32, r = some (.int z)) → P r A') : hxa (d + 4) (some (.int)) hm_t87 0 [.ref 1, .int a1, .retAddr 0] [] A P := by
  have k0 := hk_0
  have k1 := hk_1
  have k4294967295 := hk_4294967295
  have k72 := hk_72
  obtain ⟨T0, hT0, -, eT0⟩ := hA.T
  have L22 : ∀ (m22 : Nat) (x22_2 : Int32) (Ac22 : hs_A) (hAc22 : hJ 0 Bn Br A0 Ac22) (bx22_2 : 0 ≤ x22_2.toInt) (cx22_2 : x22_2.toInt ≤ 72) (ba1 : 0 ≤ a1.toInt) (ca1 : a1.toInt ≤ 72) (hm22 : 72 - x22_2.toInt < (m22 : Int)), hxa (d + 4) (some (.int)) hm_t87 22 [.ref 1, .int a1, .int x22_2] [] Ac22 P := by
    intro m22
    induction m22 with
    | zero => intro x22_2 Ac22 hAc22 bx22_2 cx22_2 ba1 ca1 hm22;  exact False.elim (by omega)
    | succ m22 ih22 =>
      intro x22_2 Ac22 hAc22 bx22_2 cx22_2 ba1 ca1 hm22
      refine hxa_iload_n (by rfl) rfl ?_
      refine hxa_iload_n (by rfl) rfl ?_
      refine hxj_cge (by rfl) rfl rfl (fun q1 => ?_) (fun q1 => ?_)
      ·
        refine hxa_aload_n (by rfl) rfl ?_
        refine hxa_get (v := .ref 27) (by rfl) (by rfl) (by rfl) rfl ?_
        refine hxj_getI (by rfl) (by rfl) (by rfl) (fun z2 ez2 => ?_)
        exact hxa_ireturn (by rfl) rfl (hP _ _ ⟨hAc22, _, rfl⟩)
      ·
        refine hxa_aload_n (by rfl) rfl ?_
        refine hxa_get (v := .ref 27) (by rfl) (by rfl) (by rfl) rfl ?_
        refine hxa_aload_n (by rfl) rfl ?_
        refine hxj_getT (by rfl) (by rfl) (by rfl) (hAc22.Tw eT0) ?_
        refine hxa_aload_n (by rfl) rfl ?_
        refine hxa_get (v := .ref 324) (by rfl) (by rfl) (by rfl) rfl ?_
        refine hxa_iconst (by rfl) rfl ?_
        refine hxa_aload_n (by rfl) rfl ?_
        refine hxj_getT (by rfl) (by rfl) (by rfl) (hAc22.Tw eT0) ?_
        refine hxj_getI (by rfl) (hsT hT0) (by rfl) (fun z3 ez3 => ?_)
        refine hxa_call0 (by rfl) (by rfl) (by rfl) (by rfl) (by rfl) (by rfl) (hX26 (d := d + 0) hAc22 hL26 hT0 eT0 (Int32.ofNat 1) (by omega) (by omega) z3) ?_
        rintro _ A4 ⟨hA4, rfl⟩
        refine hxj_iinc (by rfl) rfl rfl hk_1 (by omega) (by omega) (fun _ => rfl) (fun z5 ez5 => ?_)
        refine hxa_goto (by rfl) ?_
        exact ih22 z5 A4 hA4 (by omega) (by omega) (by omega) (by omega) (by omega)
  refine hxa_iload_n (by rfl) rfl ?_
  refine hxa_iconst (by rfl) rfl ?_
  refine hxa_bipush (by rfl) rfl ?_
  refine hxa_call2 (by rfl) (by decide) (by rfl) (by rfl) (by rfl) (hX78 (d := d + 3)  a1 (Int32.ofNat 0) (Int32.ofNat 72)) ?_
  rintro _ _ ⟨rfl, z6, rfl, fz6⟩
  rcases fz6 with fz6 | fz6
  ·
    refine hxj_zne (by rfl) rfl (fun q7 => ?_) (fun q7 => False.elim (by omega))
    refine hxa_iload_n (by rfl) rfl ?_
    refine hxj_zle (by rfl) rfl (fun q8 => ?_) (fun q8 => ?_)
    ·
      refine hxa_iconst (by rfl) rfl ?_
      refine hxa_s1 (by rfl) (Or.inl ⟨_, rfl, rfl⟩) rfl ?_
      exact L22 (Int.toNat (72 - 0) + 1) (Int32.ofNat 0) A hA (by omega) (by omega) (by omega) (by omega) (by omega)
    ·
      refine hxa_aload_n (by rfl) rfl ?_
      refine hxa_call0 (by rfl) (by rfl) (by rfl) (by rfl) (by rfl) (by rfl) (hX82 (d := d + 1) hA ) ?_
      rintro _ A9 ⟨hA9, rfl⟩
      refine hxa_iconst (by rfl) rfl ?_
      refine hxa_s1 (by rfl) (Or.inl ⟨_, rfl, rfl⟩) rfl ?_
      exact L22 (Int.toNat (72 - 0) + 1) (Int32.ofNat 0) A9 hA9 (by omega) (by omega) (by omega) (by omega) (by omega)
  ·
    refine hxj_zne (by rfl) rfl (fun q10 => False.elim (by omega)) (fun q10 => ?_)
    refine hxa_iconst (by rfl) rfl ?_
    exact hxa_ireturn (by rfl) rfl (hP _ _ ⟨hA, _, rfl⟩)
theorem hX87 {d : Nat} {Bn Br : Int} {A0 A : hs_A} (hA : hJ 0 Bn Br A0 A)  (a1 : Int32) : hxC (d + 5) 87 hm_m87 [.ref 1, .int a1] A (fun r A' => hJ 0 Bn Br A0 A' ∧ ∃ z : Int32, r = some (.int z)) := hxC.of (by rfl) (hY87 hA a1 (fun r A' h => h))
theorem hY88 {d : Nat} {Bn Br : Int} {A0 A : hs_A} (hA : hJ 0 Bn Br A0 A)   {P : Option Value → hs_A → Prop} (hP : ∀ (r : Option Value) (A' : hs_A), (hJ 0 Bn Br A0 A' ∧ ∃ z : Int32, r = some (.int z) ∧ ((0 ≤ z.toInt ∧ z.toInt ≤ 1))) → P r A') : hxa (d + 2) (some (.boolean)) hm_t88 0 [.ref 1] [] A P := by
  refine hxa_aload_n (by rfl) rfl ?_
  refine hxa_get (v := .ref 329) (by rfl) (by rfl) (by rfl) rfl ?_
  refine hxa_iconst (by rfl) rfl ?_
  refine hxj_putI (by rfl) (by rfl) (by rfl) (by rfl) hA (hbok (by rfl) hk_0 (by omega) (by omega)) (by rfl) (by rfl) (fun A1 hA1 eA1 fA1 => ?_)
  refine hxa_aload_n (by rfl) rfl ?_
  refine hxa_get (v := .ref 41) (by rfl) (by rfl) (by rfl) rfl ?_
  refine hxa_aload_n (by rfl) rfl ?_
  refine hxa_get (v := .ref 27) (by rfl) (by rfl) (by rfl) rfl ?_
  refine hxa_call0 (by rfl) (by rfl) (by rfl) (by rfl) (by rfl) (by rfl) (hX35 (d := d + 0) hA1 hL26) ?_
  rintro _ A2 ⟨hA2, z3, rfl, fz3⟩
  exact hxa_ireturn (by rfl) (hn_fitB (by omega) (by omega)) (hP _ _ ⟨hA2, _, rfl, by omega⟩)
theorem hX88 {d : Nat} {Bn Br : Int} {A0 A : hs_A} (hA : hJ 0 Bn Br A0 A)   : hxC (d + 3) 88 hm_m88 [.ref 1] A (fun r A' => hJ 0 Bn Br A0 A' ∧ ∃ z : Int32, r = some (.int z) ∧ ((0 ≤ z.toInt ∧ z.toInt ≤ 1))) := hxC.of (by rfl) (hY88 hA  (fun r A' h => h))
theorem hY89 {d : Nat} {Bn Br : Int} {A0 A : hs_A} (hA : hJ 0 Bn Br A0 A)  (a1 : Int32) (p1 : 0 ≤ a1.toInt) (q1 : a1.toInt ≤ 9) {P : Option Value → hs_A → Prop} (hP : ∀ (r : Option Value) (A' : hs_A), (hJ 0 Bn Br A0 A' ∧ ∃ R : Nat, r = some (.ref (R + 1)) ∧ hRR R) → P r A') : hxa (d + 5) (some ((.array .int))) hm_t89 0 [.ref 1, .int a1] [] A P := by
  obtain ⟨T0, hT0, -, eT0⟩ := hA.T
  refine hxa_aload_n (by rfl) rfl ?_
  refine hxa_get (v := .ref 329) (by rfl) (by rfl) (by rfl) rfl ?_
  refine hxa_iload_n (by rfl) rfl ?_
  refine hxa_aload_n (by rfl) rfl ?_
  refine hxj_getT (by rfl) (by rfl) (by rfl) (hA.Tw eT0) ?_
  refine hxa_aload_n (by rfl) rfl ?_
  refine hxa_get (v := .ref 27) (by rfl) (by rfl) (by rfl) rfl ?_
  refine hxa_aload_n (by rfl) rfl ?_
  refine hxa_get (v := .ref 324) (by rfl) (by rfl) (by rfl) rfl ?_
  refine hxa_call0 (by rfl) (by rfl) (by rfl) (by rfl) (by rfl) (by rfl) (hX67 (d := d + 0) hA a1 (by omega) (by omega) hT0 eT0 hL26) ?_
  rintro _ A1 ⟨hA1, R2, rfl, hR2⟩
  exact hxa_areturn (by rfl) rfl (hP _ _ ⟨hA1, _, rfl, hR2⟩)
theorem hX89 {d : Nat} {Bn Br : Int} {A0 A : hs_A} (hA : hJ 0 Bn Br A0 A)  (a1 : Int32) (p1 : 0 ≤ a1.toInt) (q1 : a1.toInt ≤ 9) : hxC (d + 6) 89 hm_m89 [.ref 1, .int a1] A (fun r A' => hJ 0 Bn Br A0 A' ∧ ∃ R : Nat, r = some (.ref (R + 1)) ∧ hRR R) := hxC.of (by rfl) (hY89 hA a1 p1 q1 (fun r A' h => h))
theorem hY90 {d : Nat} {Bn Br : Int} {A0 A : hs_A} (hA : hJ 0 Bn Br A0 A)  (a1 : Int32) (p1 : 0 ≤ a1.toInt) (q1 : a1.toInt ≤ 9) (a2 : Int32) {P : Option Value → hs_A → Prop} (hP : ∀ (r : Option Value) (A' : hs_A), (hJ 0 Bn Br A0 A' ∧ ∃ z : Int32, r = some (.int z) ∧ ((0 ≤ z.toInt ∧ z.toInt ≤ 255))) → P r A') : hxa (d + 3) (some (.int)) hm_t90 0 [.ref 1, .int a1, .int a2, .retAddr 0, .retAddr 0] [] A P := by
  have k0 := hk_0
  have k1 := hk_1
  have k255 := hk_255
  obtain ⟨T0, hT0, -, eT0⟩ := hA.T
  have L22 : ∀ (m22 : Nat) (x22_3 : Int32) (x22_4 : Int32) (Ac22 : hs_A) (hAc22 : hJ 0 Bn Br A0 Ac22) (bx22_3 : 0 ≤ x22_3.toInt) (cx22_3 : x22_3.toInt ≤ 255) (bx22_4 : 1 ≤ x22_4.toInt) (cx22_4 : x22_4.toInt ≤ 10) (hm22 : 10 - x22_4.toInt < (m22 : Int)), hxa (d + 3) (some (.int)) hm_t90 22 [.ref 1, .int a1, .int a2, .int x22_3, .int x22_4] [] Ac22 P := by
    intro m22
    induction m22 with
    | zero => intro x22_3 x22_4 Ac22 hAc22 bx22_3 cx22_3 bx22_4 cx22_4 hm22;  exact False.elim (by omega)
    | succ m22 ih22 =>
      intro x22_3 x22_4 Ac22 hAc22 bx22_3 cx22_3 bx22_4 cx22_4 hm22
      refine hxa_iload (by rfl) rfl ?_
      refine hxa_iload_n (by rfl) rfl ?_
      refine hxj_cgt (by rfl) rfl rfl (fun q1 => ?_) (fun q1 => ?_)
      ·
        refine hxa_iload_n (by rfl) rfl ?_
        exact hxa_ireturn (by rfl) rfl (hP _ _ ⟨hAc22, _, rfl, by omega⟩)
      ·
        refine hxa_aload_n (by rfl) rfl ?_
        refine hxa_get (v := .ref 324) (by rfl) (by rfl) (by rfl) rfl ?_
        refine hxa_aload_n (by rfl) rfl ?_
        refine hxj_getT (by rfl) (by rfl) (by rfl) (hAc22.Tw eT0) ?_
        refine hxa_aload_n (by rfl) rfl ?_
        refine hxa_get (v := .ref 27) (by rfl) (by rfl) (by rfl) rfl ?_
        refine hxa_iload (by rfl) rfl ?_
        refine hxa_aload_n (by rfl) rfl ?_
        refine hxa_get (v := .ref 27) (by rfl) (by rfl) (by rfl) rfl ?_
        refine hxj_getI (by rfl) (by rfl) (by rfl) (fun z2 ez2 => ?_)
        refine hxa_iload_n (by rfl) rfl ?_
        refine hxj_iaddU (by rfl) (fun z3 => ?_)
        refine hxa_iload (by rfl) rfl ?_
        refine hxj_iaddU (by rfl) (fun z4 => ?_)
        refine hxa_call0 (by rfl) (by rfl) (by rfl) (by rfl) (by rfl) (by rfl) (hX1 (d := d + 1) hAc22 hT0 eT0 hL26 x22_4 (by omega) (by omega) z4) ?_
        rintro _ A5 ⟨hA5, rfl⟩
        refine hxa_aload_n (by rfl) rfl ?_
        refine hxa_get (v := .ref 324) (by rfl) (by rfl) (by rfl) rfl ?_
        refine hxa_iload_n (by rfl) rfl ?_
        refine hxa_call0 (by rfl) (by rfl) (by rfl) (by rfl) (by rfl) (by rfl) (hX5 (d := d + 0) hA5 x22_3) ?_
        rintro _ A6 ⟨hA6, z7, rfl, fz7⟩
        refine hxa_s1 (by rfl) (Or.inl ⟨_, rfl, rfl⟩) rfl ?_
        refine hxj_iinc (by rfl) rfl rfl hk_1 (by omega) (by omega) (fun _ => rfl) (fun z8 ez8 => ?_)
        refine hxa_goto (by rfl) ?_
        exact ih22 z7 z8 A6 hA6 (by omega) (by omega) (by omega) (by omega) (by omega)
  refine hxa_aload_n (by rfl) rfl ?_
  refine hxa_get (v := .ref 27) (by rfl) (by rfl) (by rfl) rfl ?_
  refine hxa_iload_n (by rfl) rfl ?_
  refine hxa_call0 (by rfl) (by rfl) (by rfl) (by rfl) (by rfl) (by rfl) (hX20 (d := d + 0) hA hL26 a1) ?_
  rintro _ _ ⟨rfl, z9, rfl⟩
  refine hxa_bipush (by rfl) rfl ?_
  refine hxj_ceq (by rfl) rfl hk_4294967294 (fun q10 => ?_) (fun q10 => ?_)
  ·
    refine hxa_sipush (by rfl) rfl ?_
    refine hxa_s1 (by rfl) (Or.inl ⟨_, rfl, rfl⟩) rfl ?_
    refine hxa_iconst (by rfl) rfl ?_
    refine hxa_s1 (by rfl) (Or.inr ⟨_, rfl, rfl⟩) rfl ?_
    exact L22 (Int.toNat (10 - 1) + 1) (Int32.ofNat 255) (Int32.ofNat 1) A hA (by omega) (by omega) (by omega) (by omega) (by omega)
  ·
    refine hxa_iconst (by rfl) rfl ?_
    exact hxa_ireturn (by rfl) rfl (hP _ _ ⟨hA, _, rfl, by omega⟩)
theorem hX90 {d : Nat} {Bn Br : Int} {A0 A : hs_A} (hA : hJ 0 Bn Br A0 A)  (a1 : Int32) (p1 : 0 ≤ a1.toInt) (q1 : a1.toInt ≤ 9) (a2 : Int32) : hxC (d + 4) 90 hm_m90 [.ref 1, .int a1, .int a2] A (fun r A' => hJ 0 Bn Br A0 A' ∧ ∃ z : Int32, r = some (.int z) ∧ ((0 ≤ z.toInt ∧ z.toInt ≤ 255))) := hxC.of (by rfl) (hY90 hA a1 p1 q1 a2 (fun r A' h => h))
theorem hY91 {d : Nat} {Bn Br : Int} {A0 A : hs_A} (hA : hJ 0 Bn Br A0 A)  (a1 : Int32) (a2 : Int32) {P : Option Value → hs_A → Prop} (hP : ∀ (r : Option Value) (A' : hs_A), (hJ 0 Bn Br A0 A' ∧ ∃ z : Int32, r = some (.int z)) → P r A') : hxa (d + 6) (some (.int)) hm_t91 0 [.ref 1, .int a1, .int a2] [] A P := by
  have k4294967295 := hk_4294967295
  refine hxa_aload_n (by rfl) rfl ?_
  refine hxa_iload_n (by rfl) rfl ?_
  refine hxa_call0 (by rfl) (by rfl) (by rfl) (by rfl) (by rfl) (by rfl) (hX76 (d := d + 5) hA a1) ?_
  rintro _ _ ⟨rfl, z1, rfl, fz1⟩
  rcases fz1 with fz1 | fz1
  ·
    refine hxj_zeq (by rfl) rfl (fun q2 => False.elim (by omega)) (fun q2 => ?_)
    refine hxa_iload_n (by rfl) rfl ?_
    refine hxa_call2 (by rfl) (by decide) (by rfl) (by rfl) (by rfl) (hX77 (d := d + 5)  a2) ?_
    rintro _ _ ⟨rfl, z3, rfl, fz3⟩
    rcases fz3 with fz3 | fz3
    ·
      refine hxj_zne (by rfl) rfl (fun q4 => ?_) (fun q4 => False.elim (by omega))
      refine hxa_aload_n (by rfl) rfl ?_
      refine hxa_iload_n (by rfl) rfl ?_
      refine hxa_call0 (by rfl) (by rfl) (by rfl) (by rfl) (by rfl) (by rfl) (hX89 (d := d + 0) hA a1 (by omega) (by omega)) ?_
      rintro _ A5 ⟨hA5, R6, rfl, hR6⟩
      refine hxa_iload_n (by rfl) rfl ?_
      refine hxj_iald (by rfl) (hsR hR6) rfl (by omega) (by omega) (fun z7 ez7 => ?_)
      exact hxa_ireturn (by rfl) rfl (hP _ _ ⟨hA5, _, rfl⟩)
    ·
      refine hxj_zne (by rfl) rfl (fun q8 => False.elim (by omega)) (fun q8 => ?_)
      refine hxa_iconst (by rfl) rfl ?_
      exact hxa_ireturn (by rfl) rfl (hP _ _ ⟨hA, _, rfl⟩)
  ·
    refine hxj_zeq (by rfl) rfl (fun q9 => ?_) (fun q9 => False.elim (by omega))
    refine hxa_iconst (by rfl) rfl ?_
    exact hxa_ireturn (by rfl) rfl (hP _ _ ⟨hA, _, rfl⟩)
theorem hX91 {d : Nat} {Bn Br : Int} {A0 A : hs_A} (hA : hJ 0 Bn Br A0 A)  (a1 : Int32) (a2 : Int32) : hxC (d + 7) 91 hm_m91 [.ref 1, .int a1, .int a2] A (fun r A' => hJ 0 Bn Br A0 A' ∧ ∃ z : Int32, r = some (.int z)) := hxC.of (by rfl) (hY91 hA a1 a2 (fun r A' h => h))
theorem hY92 {d : Nat} {Bn Br : Int} {A0 A : hs_A} (hA : hJ 0 Bn Br A0 A)  (a1 : Int32) {P : Option Value → hs_A → Prop} (hP : ∀ (r : Option Value) (A' : hs_A), (hJ 0 Bn Br A0 A' ∧ ∃ z : Int32, r = some (.int z)) → P r A') : hxa (d + 6) (some (.int)) hm_t92 0 [.ref 1, .int a1, .retAddr 0, .retAddr 0] [] A P := by
  have k4294967294 := hk_4294967294
  have k4294967295 := hk_4294967295
  obtain ⟨T0, hT0, -, eT0⟩ := hA.T
  have L19 : ∀ (m19 : Nat) (x19_2 : Int32) (x19_3 : Value) (Ac19 : hs_A) (hAc19 : hJ 0 Bn Br A0 Ac19) (bx19_2 : -1 ≤ x19_2.toInt) (cx19_2 : x19_2.toInt ≤ 9) (ba1 : 0 ≤ a1.toInt) (ca1 : a1.toInt ≤ 255) (hm19 : x19_2.toInt - (-1) < (m19 : Int)), hxa (d + 6) (some (.int)) hm_t92 19 [.ref 1, .int a1, .int x19_2, x19_3] [] Ac19 P := by
    intro m19
    induction m19 with
    | zero => intro x19_2 x19_3 Ac19 hAc19 bx19_2 cx19_2 ba1 ca1 hm19;  exact False.elim (by omega)
    | succ m19 ih19 =>
      intro x19_2 x19_3 Ac19 hAc19 bx19_2 cx19_2 ba1 ca1 hm19
      refine hxa_iload_n (by rfl) rfl ?_
      refine hxj_zlt (by rfl) rfl (fun q1 => ?_) (fun q1 => ?_)
      ·
        refine hxa_bipush (by rfl) rfl ?_
        exact hxa_ireturn (by rfl) rfl (hP _ _ ⟨hAc19, _, rfl⟩)
      ·
        refine hxa_aload_n (by rfl) rfl ?_
        refine hxa_iload_n (by rfl) rfl ?_
        refine hxa_call0 (by rfl) (by rfl) (by rfl) (by rfl) (by rfl) (by rfl) (hX89 (d := d + 0) hAc19 x19_2 (by omega) (by omega)) ?_
        rintro _ A2 ⟨hA2, R3, rfl, hR3⟩
        refine hxa_astore_n (by rfl) rfl ?_
        refine hxa_aload_n (by rfl) rfl ?_
        refine hxa_iload_n (by rfl) rfl ?_
        refine hxj_iald (by rfl) (hsR hR3) rfl (by omega) (by omega) (fun z4 ez4 => ?_)
        refine hxa_aload_n (by rfl) rfl ?_
        refine hxa_iconst (by rfl) rfl ?_
        refine hxj_iald (by rfl) (hsR hR3) hk_0 (by omega) (by omega) (fun z5 ez5 => ?_)
        refine hxj_ceq (by rfl) rfl rfl (fun q6 => ?_) (fun q6 => ?_)
        ·
          refine hxj_iinc (by rfl) rfl rfl hk_4294967295 (by omega) (by omega) (fun _ => rfl) (fun z7 ez7 => ?_)
          refine hxa_goto (by rfl) ?_
          exact ih19 z7 (.ref (R3 + 1)) A2 hA2 (by omega) (by omega) (by omega) (by omega) (by omega)
        ·
          refine hxa_iload_n (by rfl) rfl ?_
          exact hxa_ireturn (by rfl) rfl (hP _ _ ⟨hA2, _, rfl⟩)
  refine hxa_iload_n (by rfl) rfl ?_
  refine hxa_call2 (by rfl) (by decide) (by rfl) (by rfl) (by rfl) (hX77 (d := d + 5)  a1) ?_
  rintro _ _ ⟨rfl, z8, rfl, fz8⟩
  rcases fz8 with fz8 | fz8
  ·
    refine hxj_zne (by rfl) rfl (fun q9 => ?_) (fun q9 => False.elim (by omega))
    refine hxa_aload_n (by rfl) rfl ?_
    refine hxj_getT (by rfl) (by rfl) (by rfl) (hA.Tw eT0) ?_
    refine hxj_getB (by rfl) (hsT hT0) (by rfl) hA (hbT_4 hT0) (fun z10 ez10 fz10 gz10 => ?_)
    refine hxa_iconst (by rfl) rfl ?_
    refine hxj_isub (by rfl) rfl hk_1 (by omega) (by omega) (fun z11 ez11 => ?_)
    refine hxa_s1 (by rfl) (Or.inl ⟨_, rfl, rfl⟩) rfl ?_
    exact L19 (Int.toNat (z11.toInt - (-1)) + 1) z11 (.retAddr 0) A hA (by omega) (by omega) (by omega) (by omega) (by omega)
  ·
    refine hxj_zne (by rfl) rfl (fun q12 => False.elim (by omega)) (fun q12 => ?_)
    refine hxa_iconst (by rfl) rfl ?_
    exact hxa_ireturn (by rfl) rfl (hP _ _ ⟨hA, _, rfl⟩)
theorem hX92 {d : Nat} {Bn Br : Int} {A0 A : hs_A} (hA : hJ 0 Bn Br A0 A)  (a1 : Int32) : hxC (d + 7) 92 hm_m92 [.ref 1, .int a1] A (fun r A' => hJ 0 Bn Br A0 A' ∧ ∃ z : Int32, r = some (.int z)) := hxC.of (by rfl) (hY92 hA a1 (fun r A' h => h))
theorem hY93 {d : Nat} {Bn Br : Int} {A0 A : hs_A} (hA : hJ 0 Bn Br A0 A)  (a1 : Int32) {P : Option Value → hs_A → Prop} (hP : ∀ (r : Option Value) (A' : hs_A), (hJ 0 Bn Br A0 A' ∧ ∃ z : Int32, r = some (.int z)) → P r A') : hxa (d + 6) (some (.int)) hm_t93 0 [.ref 1, .int a1, .retAddr 0, .retAddr 0, .retAddr 0, .retAddr 0, .retAddr 0] [] A P := by
  have k0 := hk_0
  have k4294967294 := hk_4294967294
  have k4294967295 := hk_4294967295
  have k9 := hk_9
  have L37 : ∀ (m37 : Nat) (x37_2 : Nat) (x37_3 : Int32) (x37_4 : Int32) (x37_5 : Int32) (x37_6 : Int32) (Ac37 : hs_A) (hx37_2 : hRR x37_2) (hAc37 : hJ 0 Bn Br A0 Ac37) (bx37_4 : -2 ≤ x37_4.toInt) (cx37_4 : x37_4.toInt ≤ 255) (bx37_5 : 0 ≤ x37_5.toInt) (cx37_5 : x37_5.toInt ≤ 9) (bx37_6 : 0 ≤ x37_6.toInt) (cx37_6 : x37_6.toInt ≤ 256) (ba1 : 0 ≤ a1.toInt) (ca1 : a1.toInt ≤ 9) (hm37 : 256 - x37_6.toInt < (m37 : Int)), hxa (d + 6) (some (.int)) hm_t93 37 [.ref 1, .int a1, .ref (x37_2 + 1), .int x37_3, .int x37_4, .int x37_5, .int x37_6] [] Ac37 P := by
    intro m37
    induction m37 with
    | zero => intro x37_2 x37_3 x37_4 x37_5 x37_6 Ac37 hx37_2 hAc37 bx37_4 cx37_4 bx37_5 cx37_5 bx37_6 cx37_6 ba1 ca1 hm37; have := hn_rng x37_3; exact False.elim (by omega)
    | succ m37 ih37 =>
      intro x37_2 x37_3 x37_4 x37_5 x37_6 Ac37 hx37_2 hAc37 bx37_4 cx37_4 bx37_5 cx37_5 bx37_6 cx37_6 ba1 ca1 hm37
      refine hxa_iload (by rfl) rfl ?_
      refine hxa_sipush (by rfl) rfl ?_
      refine hxj_cge (by rfl) rfl hk_256 (fun q1 => ?_) (fun q1 => ?_)
      ·
        refine hxa_iload (by rfl) rfl ?_
        exact hxa_ireturn (by rfl) rfl (hP _ _ ⟨hAc37, _, rfl⟩)
      ·
        refine hxa_aload_n (by rfl) rfl ?_
        refine hxa_iload (by rfl) rfl ?_
        refine hxj_iald (by rfl) (hsR hx37_2) rfl (by omega) (by omega) (fun z2 ez2 => ?_)
        refine hxa_iload_n (by rfl) rfl ?_
        refine hxj_iandU (by rfl) (fun z3 => ?_)
        refine hxa_iload_n (by rfl) rfl ?_
        refine hxj_cne (by rfl) rfl rfl (fun q4 => ?_) (fun q4 => ?_)
        ·
          refine hxj_iinc (by rfl) rfl rfl hk_1 (by omega) (by omega) (fun _ => rfl) (fun z5 ez5 => ?_)
          refine hxa_goto (by rfl) ?_
          exact ih37 x37_2 x37_3 x37_4 x37_5 z5 Ac37 hx37_2 hAc37 (by omega) (by omega) (by omega) (by omega) (by omega) (by omega) (by omega) (by omega) (by omega)
        ·
          refine hxa_iload (by rfl) rfl ?_
          refine hxa_call2 (by rfl) (by decide) (by rfl) (by rfl) (by rfl) (hX242 (d := d + 5)  x37_6) ?_
          rintro _ _ ⟨rfl, z6, rfl, fz6⟩
          refine hxa_iload (by rfl) rfl ?_
          refine hxj_cge (by rfl) rfl rfl (fun q7 => ?_) (fun q7 => ?_)
          ·
            refine hxj_iinc (by rfl) rfl rfl hk_1 (by omega) (by omega) (fun _ => rfl) (fun z8 ez8 => ?_)
            refine hxa_goto (by rfl) ?_
            exact ih37 x37_2 x37_3 x37_4 x37_5 z8 Ac37 hx37_2 hAc37 (by omega) (by omega) (by omega) (by omega) (by omega) (by omega) (by omega) (by omega) (by omega)
          ·
            refine hxa_iload (by rfl) rfl ?_
            refine hxa_s1 (by rfl) (Or.inr ⟨_, rfl, rfl⟩) rfl ?_
            refine hxa_iload (by rfl) rfl ?_
            refine hxa_call2 (by rfl) (by decide) (by rfl) (by rfl) (by rfl) (hX242 (d := d + 5)  x37_6) ?_
            rintro _ _ ⟨rfl, z9, rfl, fz9⟩
            refine hxa_s1 (by rfl) (Or.inr ⟨_, rfl, rfl⟩) rfl ?_
            refine hxj_iinc (by rfl) rfl rfl hk_1 (by omega) (by omega) (fun _ => rfl) (fun z10 ez10 => ?_)
            refine hxa_goto (by rfl) ?_
            exact ih37 x37_2 x37_3 x37_6 z9 z10 Ac37 hx37_2 hAc37 (by omega) (by omega) (by omega) (by omega) (by omega) (by omega) (by omega) (by omega) (by omega)
  refine hxa_aload_n (by rfl) rfl ?_
  refine hxa_iload_n (by rfl) rfl ?_
  refine hxa_call0 (by rfl) (by rfl) (by rfl) (by rfl) (by rfl) (by rfl) (hX76 (d := d + 5) hA a1) ?_
  rintro _ _ ⟨rfl, z11, rfl, fz11⟩
  rcases fz11 with fz11 | fz11
  ·
    refine hxj_zne (by rfl) rfl (fun q12 => ?_) (fun q12 => False.elim (by omega))
    refine hxa_aload_n (by rfl) rfl ?_
    refine hxa_iload_n (by rfl) rfl ?_
    refine hxa_call0 (by rfl) (by rfl) (by rfl) (by rfl) (by rfl) (by rfl) (hX89 (d := d + 0) hA a1 (by omega) (by omega)) ?_
    rintro _ A13 ⟨hA13, R14, rfl, hR14⟩
    refine hxa_astore_n (by rfl) rfl ?_
    refine hxa_aload_n (by rfl) rfl ?_
    refine hxa_get (v := .ref 27) (by rfl) (by rfl) (by rfl) rfl ?_
    refine hxa_get (v := .ref 28) (by rfl) (by rfl) (by rfl) rfl ?_
    refine hxa_iload_n (by rfl) rfl ?_
    refine hxj_iald (by rfl) (by rfl) rfl (by omega) (by omega) (fun z15 ez15 => ?_)
    refine hxa_s1 (by rfl) (Or.inl ⟨_, rfl, rfl⟩) rfl ?_
    refine hxa_bipush (by rfl) rfl ?_
    refine hxa_s1 (by rfl) (Or.inr ⟨_, rfl, rfl⟩) rfl ?_
    refine hxa_bipush (by rfl) rfl ?_
    refine hxa_s1 (by rfl) (Or.inr ⟨_, rfl, rfl⟩) rfl ?_
    refine hxa_iconst (by rfl) rfl ?_
    refine hxa_s1 (by rfl) (Or.inr ⟨_, rfl, rfl⟩) rfl ?_
    exact L37 (Int.toNat (256 - 0) + 1) R14 z15 (Int32.ofNat 4294967294) (Int32.ofNat 9) (Int32.ofNat 0) A13 hR14 hA13 (by omega) (by omega) (by omega) (by omega) (by omega) (by omega) (by omega) (by omega) (by omega)
  ·
    refine hxj_zne (by rfl) rfl (fun q16 => False.elim (by omega)) (fun q16 => ?_)
    refine hxa_iconst (by rfl) rfl ?_
    exact hxa_ireturn (by rfl) rfl (hP _ _ ⟨hA, _, rfl⟩)
theorem hX93 {d : Nat} {Bn Br : Int} {A0 A : hs_A} (hA : hJ 0 Bn Br A0 A)  (a1 : Int32) : hxC (d + 7) 93 hm_m93 [.ref 1, .int a1] A (fun r A' => hJ 0 Bn Br A0 A' ∧ ∃ z : Int32, r = some (.int z)) := hxC.of (by rfl) (hY93 hA a1 (fun r A' h => h))
theorem hY94 {d : Nat} {Bn Br : Int} {A0 A : hs_A} (hA : hJ 0 Bn Br A0 A)  (a1 : Int32) {P : Option Value → hs_A → Prop} (hP : ∀ (r : Option Value) (A' : hs_A), (hJ 0 Bn Br A0 A' ∧ ∃ z : Int32, r = some (.int z)) → P r A') : hxa (d + 6) (some (.int)) hm_t94 0 [.ref 1, .int a1, .retAddr 0, .retAddr 0, .retAddr 0, .retAddr 0] [] A P := by
  have k0 := hk_0
  have k4294967295 := hk_4294967295
  have L29 : ∀ (m29 : Nat) (x29_2 : Nat) (x29_3 : Int32) (x29_4 : Int32) (x29_5 : Value) (Ac29 : hs_A) (hx29_2 : hRR x29_2) (hAc29 : hJ 0 Bn Br A0 Ac29) (bx29_4 : 0 ≤ x29_4.toInt) (cx29_4 : x29_4.toInt ≤ 256) (ba1 : 0 ≤ a1.toInt) (ca1 : a1.toInt ≤ 9) (hm29 : 256 - x29_4.toInt < (m29 : Int)), hxa (d + 6) (some (.int)) hm_t94 29 [.ref 1, .int a1, .ref (x29_2 + 1), .int x29_3, .int x29_4, x29_5] [] Ac29 P := by
    intro m29
    induction m29 with
    | zero => intro x29_2 x29_3 x29_4 x29_5 Ac29 hx29_2 hAc29 bx29_4 cx29_4 ba1 ca1 hm29; have := hn_rng x29_3; exact False.elim (by omega)
    | succ m29 ih29 =>
      intro x29_2 x29_3 x29_4 x29_5 Ac29 hx29_2 hAc29 bx29_4 cx29_4 ba1 ca1 hm29
      refine hxa_iload (by rfl) rfl ?_
      refine hxa_sipush (by rfl) rfl ?_
      refine hxj_cge (by rfl) rfl hk_256 (fun q1 => ?_) (fun q1 => ?_)
      ·
        refine hxa_iload_n (by rfl) rfl ?_
        exact hxa_ireturn (by rfl) rfl (hP _ _ ⟨hAc29, _, rfl⟩)
      ·
        refine hxa_aload_n (by rfl) rfl ?_
        refine hxa_iload (by rfl) rfl ?_
        refine hxj_iald (by rfl) (hsR hx29_2) rfl (by omega) (by omega) (fun z2 ez2 => ?_)
        refine hxa_sipush (by rfl) rfl ?_
        refine hxj_iandR (by rfl) hk_255 (by omega) (fun z3 ez3 fz3 => ?_)
        refine hxa_s1 (by rfl) (Or.inr ⟨_, rfl, rfl⟩) rfl ?_
        refine hxa_aload_n (by rfl) rfl ?_
        refine hxa_get (v := .ref 345) (by rfl) (by rfl) (by rfl) rfl ?_
        refine hxa_iload (by rfl) rfl ?_
        refine hxj_iald (by rfl) (by rfl) rfl (by omega) (by omega) (fun z4 ez4 => ?_)
        refine hxj_zne (by rfl) rfl (fun q5 => ?_) (fun q5 => ?_)
        ·
          refine hxa_aload_n (by rfl) rfl ?_
          refine hxa_get (v := .ref 345) (by rfl) (by rfl) (by rfl) rfl ?_
          refine hxa_iload (by rfl) rfl ?_
          refine hxa_dup2IR (by rfl) ?_
          refine hxj_iald (by rfl) (by rfl) rfl (by omega) (by omega) (fun z6 ez6 => ?_)
          refine hxa_iconst (by rfl) rfl ?_
          refine hxj_iaddU (by rfl) (fun z7 => ?_)
          refine hxj_iast (by rfl) (by rfl) rfl (by omega) (by omega) hAc29 (hbokN (by rfl)) (by rfl) (by rfl) (fun A8 hA8 eA8 fA8 gA8 => ?_)
          refine hxj_iinc (by rfl) rfl rfl hk_1 (by omega) (by omega) (fun _ => rfl) (fun z9 ez9 => ?_)
          refine hxa_goto (by rfl) ?_
          exact ih29 x29_2 x29_3 z9 (.int z3) A8 hx29_2 hA8 (by omega) (by omega) (by omega) (by omega) (by omega)
        ·
          refine hxj_iincU (by rfl) rfl (fun _ => rfl) (fun z10 => ?_)
          refine hxa_aload_n (by rfl) rfl ?_
          refine hxa_get (v := .ref 345) (by rfl) (by rfl) (by rfl) rfl ?_
          refine hxa_iload (by rfl) rfl ?_
          refine hxa_dup2IR (by rfl) ?_
          refine hxj_iald (by rfl) (by rfl) rfl (by omega) (by omega) (fun z11 ez11 => ?_)
          refine hxa_iconst (by rfl) rfl ?_
          refine hxj_iaddU (by rfl) (fun z12 => ?_)
          refine hxj_iast (by rfl) (by rfl) rfl (by omega) (by omega) hAc29 (hbokN (by rfl)) (by rfl) (by rfl) (fun A13 hA13 eA13 fA13 gA13 => ?_)
          refine hxj_iinc (by rfl) rfl rfl hk_1 (by omega) (by omega) (fun _ => rfl) (fun z14 ez14 => ?_)
          refine hxa_goto (by rfl) ?_
          exact ih29 x29_2 z10 z14 (.int z3) A13 hx29_2 hA13 (by omega) (by omega) (by omega) (by omega) (by omega)
  refine hxa_aload_n (by rfl) rfl ?_
  refine hxa_iload_n (by rfl) rfl ?_
  refine hxa_call0 (by rfl) (by rfl) (by rfl) (by rfl) (by rfl) (by rfl) (hX76 (d := d + 5) hA a1) ?_
  rintro _ _ ⟨rfl, z15, rfl, fz15⟩
  rcases fz15 with fz15 | fz15
  ·
    refine hxj_zne (by rfl) rfl (fun q16 => ?_) (fun q16 => False.elim (by omega))
    refine hxa_aload_n (by rfl) rfl ?_
    refine hxa_iload_n (by rfl) rfl ?_
    refine hxa_call0 (by rfl) (by rfl) (by rfl) (by rfl) (by rfl) (by rfl) (hX89 (d := d + 0) hA a1 (by omega) (by omega)) ?_
    rintro _ A17 ⟨hA17, R18, rfl, hR18⟩
    refine hxa_astore_n (by rfl) rfl ?_
    refine hxa_aload_n (by rfl) rfl ?_
    refine hxa_get (v := .ref 345) (by rfl) (by rfl) (by rfl) rfl ?_
    refine hxa_iconst (by rfl) rfl ?_
    refine hxa_call2 (by rfl) (by decide) (by rfl) (by rfl) (by rfl) (hX246 (d := d + 5) hA17 (C := 344) (by rfl) (by omega) (hbokN (by rfl)) (by rfl) (by rfl)) ?_
    rintro _ A19 ⟨hA19, rfl⟩
    refine hxa_iconst (by rfl) rfl ?_
    refine hxa_s1 (by rfl) (Or.inl ⟨_, rfl, rfl⟩) rfl ?_
    refine hxa_iconst (by rfl) rfl ?_
    refine hxa_s1 (by rfl) (Or.inr ⟨_, rfl, rfl⟩) rfl ?_
    exact L29 (Int.toNat (256 - 0) + 1) R18 (Int32.ofNat 0) (Int32.ofNat 0) (.retAddr 0) A19 hR18 hA19 (by omega) (by omega) (by omega) (by omega) (by omega)
  ·
    refine hxj_zne (by rfl) rfl (fun q20 => False.elim (by omega)) (fun q20 => ?_)
    refine hxa_iconst (by rfl) rfl ?_
    exact hxa_ireturn (by rfl) rfl (hP _ _ ⟨hA, _, rfl⟩)
theorem hX94 {d : Nat} {Bn Br : Int} {A0 A : hs_A} (hA : hJ 0 Bn Br A0 A)  (a1 : Int32) : hxC (d + 7) 94 hm_m94 [.ref 1, .int a1] A (fun r A' => hJ 0 Bn Br A0 A' ∧ ∃ z : Int32, r = some (.int z)) := hxC.of (by rfl) (hY94 hA a1 (fun r A' h => h))
theorem hY96 {d : Nat} {Bn Br : Int} {A0 A : hs_A} (hA : hJ 0 Bn Br A0 A)  {R : Nat} (hR : hRR R) (a2 : Int32) {P : Option Value → hs_A → Prop} (hP : ∀ (r : Option Value) (A' : hs_A), (hJ 0 Bn Br A0 A' ∧ ∃ z : Int32, r = some (.int z) ∧ ((0 ≤ z.toInt ∧ z.toInt ≤ 256))) → P r A') : hxa (d + 1) (some (.int)) hm_t96 0 [.ref 1, .ref (R + 1), .int a2, .retAddr 0, .retAddr 0, .retAddr 0, .retAddr 0] [] A P := by
  have k0 := hk_0
  have k1 := hk_1
  have L5 : ∀ (m5 : Nat) (x5_3 : Int32) (x5_4 : Int32) (x5_5 : Value) (x5_6 : Value) (Ac5 : hs_A) (hx5_5 : hc_two (some x5_5) = false) (hAc5 : hJ 0 Bn Br A0 Ac5) (bx5_3 : 0 ≤ x5_3.toInt) (cx5_3 : x5_3.toInt ≤ 256) (bx5_4 : 0 ≤ x5_4.toInt) (cx5_4 : x5_4.toInt ≤ 256) (u5_0 : x5_3.toInt ≤ x5_4.toInt) (hm5 : 256 - x5_4.toInt < (m5 : Int)), hxa (d + 1) (some (.int)) hm_t96 5 [.ref 1, .ref (R + 1), .int a2, .int x5_3, .int x5_4, x5_5, x5_6] [] Ac5 P := by
    intro m5
    induction m5 with
    | zero => intro x5_3 x5_4 x5_5 x5_6 Ac5 hx5_5 hAc5 bx5_3 cx5_3 bx5_4 cx5_4 u5_0 hm5;  exact False.elim (by omega)
    | succ m5 ih5 =>
      intro x5_3 x5_4 x5_5 x5_6 Ac5 hx5_5 hAc5 bx5_3 cx5_3 bx5_4 cx5_4 u5_0 hm5
      have L19 : ∀ (m19 : Nat) (x19_5 : Int32) (x19_6 : Int32) (bx19_5 : 0 ≤ x19_5.toInt) (cx19_5 : x19_5.toInt ≤ 1) (bx19_6 : 0 ≤ x19_6.toInt) (cx19_6 : x19_6.toInt ≤ 256) (cx5_4 : x5_4.toInt ≤ 255) (hm19 : 256 - x19_6.toInt < (m19 : Int)), hxa (d + 1) (some (.int)) hm_t96 19 [.ref 1, .ref (R + 1), .int a2, .int x5_3, .int x5_4, .int x19_5, .int x19_6] [] Ac5 P := by
        intro m19
        induction m19 with
        | zero => intro x19_5 x19_6 bx19_5 cx19_5 bx19_6 cx19_6 cx5_4 hm19;  exact False.elim (by omega)
        | succ m19 ih19 =>
          intro x19_5 x19_6 bx19_5 cx19_5 bx19_6 cx19_6 cx5_4 hm19
          refine hxa_iload (by rfl) rfl ?_
          refine hxa_iload_n (by rfl) rfl ?_
          refine hxj_cge (by rfl) rfl rfl (fun q1 => ?_) (fun q1 => ?_)
          ·
            refine hxa_iload (by rfl) rfl ?_
            refine hxj_zeq (by rfl) rfl (fun q2 => ?_) (fun q2 => ?_)
            ·
              refine hxj_iinc (by rfl) rfl rfl hk_1 (by omega) (by omega) (fun _ => rfl) (fun z3 ez3 => ?_)
              refine hxa_goto (by rfl) ?_
              exact ih5 x5_3 z3 (.int x19_5) (.int x19_6) Ac5 rfl hAc5 (by omega) (by omega) (by omega) (by omega) (by omega) (by omega)
            ·
              refine hxa_aload_n (by rfl) rfl ?_
              refine hxa_get (v := .ref 344) (by rfl) (by rfl) (by rfl) rfl ?_
              refine hxa_iload_n (by rfl) rfl ?_
              refine hxa_iload (by rfl) rfl ?_
              refine hxj_iast (by rfl) (by rfl) rfl (by omega) (by omega) hAc5 (hbok (by rfl) rfl (by omega) (by omega)) (by rfl) (by rfl) (fun A4 hA4 eA4 fA4 gA4 => ?_)
              refine hxj_iinc (by rfl) rfl rfl hk_1 (by omega) (by omega) (fun _ => rfl) (fun z5 ez5 => ?_)
              refine hxj_iinc (by rfl) rfl rfl hk_1 (by omega) (by omega) (fun _ => rfl) (fun z6 ez6 => ?_)
              refine hxa_goto (by rfl) ?_
              exact ih5 z5 z6 (.int x19_5) (.int x19_6) A4 rfl hA4 (by omega) (by omega) (by omega) (by omega) (by omega) (by omega)
          ·
            refine hxa_iload (by rfl) rfl ?_
            refine hxj_zeq (by rfl) rfl (fun q7 => ?_) (fun q7 => ?_)
            ·
              refine hxa_iload (by rfl) rfl ?_
              refine hxj_zeq (by rfl) rfl (fun q8 => ?_) (fun q8 => False.elim (by omega))
              refine hxj_iinc (by rfl) rfl rfl hk_1 (by omega) (by omega) (fun _ => rfl) (fun z9 ez9 => ?_)
              refine hxa_goto (by rfl) ?_
              exact ih5 x5_3 z9 (.int x19_5) (.int x19_6) Ac5 rfl hAc5 (by omega) (by omega) (by omega) (by omega) (by omega) (by omega)
            ·
              refine hxa_aload_n (by rfl) rfl ?_
              refine hxa_iload (by rfl) rfl ?_
              refine hxj_iald (by rfl) (hsR hR) rfl (by omega) (by omega) (fun z10 ez10 => ?_)
              refine hxa_aload_n (by rfl) rfl ?_
              refine hxa_aload_n (by rfl) rfl ?_
              refine hxa_get (v := .ref 344) (by rfl) (by rfl) (by rfl) rfl ?_
              refine hxa_iload (by rfl) rfl ?_
              refine hxj_ialdB (by rfl) (by rfl) rfl (by omega) (by omega) hAc5 (by rfl) (fun z11 ez11 fz11 gz11 => ?_)
              refine hxj_iald (by rfl) (hsR hR) rfl (by omega) (by omega) (fun z12 ez12 => ?_)
              refine hxj_ixorU (by rfl) (fun z13 => ?_)
              refine hxa_call2 (by rfl) (by decide) (by rfl) (by rfl) (by rfl) (hX242 (d := d + 0)  z13) ?_
              rintro _ _ ⟨rfl, z14, rfl, fz14⟩
              refine hxa_iload_n (by rfl) rfl ?_
              have rgz14 := hn_rng z14
              have rga2 := hn_rng a2
              refine hxj_clt (by rfl) rfl rfl (fun q15 => ?_) (fun q15 => ?_)
              ·
                refine hxa_iconst (by rfl) rfl ?_
                refine hxa_s1 (by rfl) (Or.inr ⟨_, rfl, rfl⟩) rfl ?_
                refine hxj_iinc (by rfl) rfl rfl hk_1 (by omega) (by omega) (fun _ => rfl) (fun z16 ez16 => ?_)
                refine hxa_goto (by rfl) ?_
                exact ih19 (Int32.ofNat 0) z16 (by omega) (by omega) (by omega) (by omega) (by omega) (by omega)
              ·
                refine hxa_iconst (by rfl) rfl ?_
                refine hxa_goto (by rfl) ?_
                refine hxa_s1 (by rfl) (Or.inr ⟨_, rfl, rfl⟩) rfl ?_
                refine hxj_iinc (by rfl) rfl rfl hk_1 (by omega) (by omega) (fun _ => rfl) (fun z17 ez17 => ?_)
                refine hxa_goto (by rfl) ?_
                exact ih19 (Int32.ofNat 1) z17 (by omega) (by omega) (by omega) (by omega) (by omega) (by omega)
      refine hxa_iload (by rfl) rfl ?_
      refine hxa_sipush (by rfl) rfl ?_
      refine hxj_cge (by rfl) rfl hk_256 (fun q18 => ?_) (fun q18 => ?_)
      ·
        refine hxa_iload_n (by rfl) rfl ?_
        exact hxa_ireturn (by rfl) rfl (hP _ _ ⟨hAc5, _, rfl, by omega⟩)
      ·
        refine hxa_iconst (by rfl) rfl ?_
        refine hxa_s1 (by rfl) (Or.inr ⟨_, rfl, rfl⟩) rfl ?_
        refine hxa_iconst (by rfl) rfl ?_
        refine hxa_s1 (by rfl) (Or.inr ⟨_, rfl, rfl⟩) rfl ?_
        exact L19 (Int.toNat (256 - 0) + 1) (Int32.ofNat 1) (Int32.ofNat 0) (by omega) (by omega) (by omega) (by omega) (by omega) (by omega)
  refine hxa_iconst (by rfl) rfl ?_
  refine hxa_s1 (by rfl) (Or.inl ⟨_, rfl, rfl⟩) rfl ?_
  refine hxa_iconst (by rfl) rfl ?_
  refine hxa_s1 (by rfl) (Or.inr ⟨_, rfl, rfl⟩) rfl ?_
  exact L5 (Int.toNat (256 - 0) + 1) (Int32.ofNat 0) (Int32.ofNat 0) (.retAddr 0) (.retAddr 0) A rfl hA (by omega) (by omega) (by omega) (by omega) (by omega) (by omega)
theorem hX96 {d : Nat} {Bn Br : Int} {A0 A : hs_A} (hA : hJ 0 Bn Br A0 A)  {R : Nat} (hR : hRR R) (a2 : Int32) : hxC (d + 2) 96 hm_m96 [.ref 1, .ref (R + 1), .int a2] A (fun r A' => hJ 0 Bn Br A0 A' ∧ ∃ z : Int32, r = some (.int z) ∧ ((0 ≤ z.toInt ∧ z.toInt ≤ 256))) := hxC.of (by rfl) (hY96 hA hR a2 (fun r A' h => h))
theorem hY95 {d : Nat} {Bn Br : Int} {A0 A : hs_A} (hA : hJ 0 Bn Br A0 A)  (a1 : Int32) (a2 : Int32) (a3 : Int32) {P : Option Value → hs_A → Prop} (hP : ∀ (r : Option Value) (A' : hs_A), (hJ 0 Bn Br A0 A' ∧ ∃ z : Int32, r = some (.int z)) → P r A') : hxa (d + 6) (some (.int)) hm_t95 0 [.ref 1, .int a1, .int a2, .int a3, .retAddr 0] [] A P := by
  have k1 := hk_1
  have k4294967295 := hk_4294967295
  have k8 := hk_8
  refine hxa_aload_n (by rfl) rfl ?_
  refine hxa_iload_n (by rfl) rfl ?_
  refine hxa_call0 (by rfl) (by rfl) (by rfl) (by rfl) (by rfl) (by rfl) (hX76 (d := d + 5) hA a1) ?_
  rintro _ _ ⟨rfl, z1, rfl, fz1⟩
  rcases fz1 with fz1 | fz1
  ·
    refine hxj_zeq (by rfl) rfl (fun q2 => False.elim (by omega)) (fun q2 => ?_)
    refine hxa_iload_n (by rfl) rfl ?_
    refine hxa_iconst (by rfl) rfl ?_
    refine hxa_bipush (by rfl) rfl ?_
    refine hxa_call2 (by rfl) (by decide) (by rfl) (by rfl) (by rfl) (hX78 (d := d + 5)  a2 (Int32.ofNat 1) (Int32.ofNat 8)) ?_
    rintro _ _ ⟨rfl, z3, rfl, fz3⟩
    rcases fz3 with fz3 | fz3
    ·
      refine hxj_zeq (by rfl) rfl (fun q4 => False.elim (by omega)) (fun q4 => ?_)
      refine hxa_iload_n (by rfl) rfl ?_
      refine hxa_iconst (by rfl) rfl ?_
      refine hxj_cge (by rfl) rfl hk_4294967295 (fun q5 => ?_) (fun q5 => ?_)
      ·
        refine hxa_aload_n (by rfl) rfl ?_
        refine hxa_aload_n (by rfl) rfl ?_
        refine hxa_iload_n (by rfl) rfl ?_
        refine hxa_call0 (by rfl) (by rfl) (by rfl) (by rfl) (by rfl) (by rfl) (hX89 (d := d + 0) hA a1 (by omega) (by omega)) ?_
        rintro _ A6 ⟨hA6, R7, rfl, hR7⟩
        refine hxa_iload_n (by rfl) rfl ?_
        refine hxa_call0 (by rfl) (by rfl) (by rfl) (by rfl) (by rfl) (by rfl) (hX96 (d := d + 4) hA6 hR7 a2) ?_
        rintro _ A8 ⟨hA8, z9, rfl, fz9⟩
        refine hxa_s1 (by rfl) (Or.inr ⟨_, rfl, rfl⟩) rfl ?_
        refine hxa_iload_n (by rfl) rfl ?_
        refine hxa_iconst (by rfl) rfl ?_
        refine hxj_cne (by rfl) rfl hk_4294967295 (fun q10 => ?_) (fun q10 => ?_)
        ·
          refine hxa_iload_n (by rfl) rfl ?_
          refine hxa_iload (by rfl) rfl ?_
          have rga3 := hn_rng a3
          refine hxj_cge (by rfl) rfl rfl (fun q11 => ?_) (fun q11 => ?_)
          ·
            refine hxa_iconst (by rfl) rfl ?_
            exact hxa_ireturn (by rfl) rfl (hP _ _ ⟨hA8, _, rfl⟩)
          ·
            refine hxa_aload_n (by rfl) rfl ?_
            refine hxa_get (v := .ref 344) (by rfl) (by rfl) (by rfl) rfl ?_
            refine hxa_iload_n (by rfl) rfl ?_
            refine hxj_ialdB (by rfl) (by rfl) rfl (by omega) (by omega) hA8 (by rfl) (fun z12 ez12 fz12 gz12 => ?_)
            refine hxa_goto (by rfl) ?_
            exact hxa_ireturn (by rfl) rfl (hP _ _ ⟨hA8, _, rfl⟩)
        ·
          refine hxa_iload (by rfl) rfl ?_
          exact hxa_ireturn (by rfl) rfl (hP _ _ ⟨hA8, _, rfl⟩)
      ·
        refine hxa_iconst (by rfl) rfl ?_
        exact hxa_ireturn (by rfl) rfl (hP _ _ ⟨hA, _, rfl⟩)
    ·
      refine hxj_zeq (by rfl) rfl (fun q13 => ?_) (fun q13 => False.elim (by omega))
      refine hxa_iconst (by rfl) rfl ?_
      exact hxa_ireturn (by rfl) rfl (hP _ _ ⟨hA, _, rfl⟩)
  ·
    refine hxj_zeq (by rfl) rfl (fun q14 => ?_) (fun q14 => False.elim (by omega))
    refine hxa_iconst (by rfl) rfl ?_
    exact hxa_ireturn (by rfl) rfl (hP _ _ ⟨hA, _, rfl⟩)
theorem hX95 {d : Nat} {Bn Br : Int} {A0 A : hs_A} (hA : hJ 0 Bn Br A0 A)  (a1 : Int32) (a2 : Int32) (a3 : Int32) : hxC (d + 7) 95 hm_m95 [.ref 1, .int a1, .int a2, .int a3] A (fun r A' => hJ 0 Bn Br A0 A' ∧ ∃ z : Int32, r = some (.int z)) := hxC.of (by rfl) (hY95 hA a1 a2 a3 (fun r A' h => h))
theorem hY97 {d : Nat} {Bn Br : Int} {A0 A : hs_A} (hA : hJ 0 Bn Br A0 A)  (a1 : Int32) {P : Option Value → hs_A → Prop} (hP : ∀ (r : Option Value) (A' : hs_A), (hJ 0 Bn Br A0 A' ∧ ∃ z : Int32, r = some (.int z)) → P r A') : hxa (d + 6) (some (.int)) hm_t97 0 [.ref 1, .int a1, .retAddr 0, .retAddr 0, .retAddr 0] [] A P := by
  have k0 := hk_0
  have k4294967295 := hk_4294967295
  have L21 : ∀ (m21 : Nat) (x21_2 : Nat) (x21_3 : Int32) (x21_4 : Int32) (Ac21 : hs_A) (hx21_2 : hRR x21_2) (hAc21 : hJ 0 Bn Br A0 Ac21) (bx21_3 : 0 ≤ x21_3.toInt) (cx21_3 : x21_3.toInt ≤ 255) (bx21_4 : 0 ≤ x21_4.toInt) (cx21_4 : x21_4.toInt ≤ 8) (ba1 : 0 ≤ a1.toInt) (ca1 : a1.toInt ≤ 9) (hm21 : 8 - x21_4.toInt < (m21 : Int)), hxa (d + 6) (some (.int)) hm_t97 21 [.ref 1, .int a1, .ref (x21_2 + 1), .int x21_3, .int x21_4] [] Ac21 P := by
    intro m21
    induction m21 with
    | zero => intro x21_2 x21_3 x21_4 Ac21 hx21_2 hAc21 bx21_3 cx21_3 bx21_4 cx21_4 ba1 ca1 hm21;  exact False.elim (by omega)
    | succ m21 ih21 =>
      intro x21_2 x21_3 x21_4 Ac21 hx21_2 hAc21 bx21_3 cx21_3 bx21_4 cx21_4 ba1 ca1 hm21
      refine hxa_iload (by rfl) rfl ?_
      refine hxa_bipush (by rfl) rfl ?_
      refine hxj_cge (by rfl) rfl hk_8 (fun q1 => ?_) (fun q1 => ?_)
      ·
        refine hxa_iload_n (by rfl) rfl ?_
        exact hxa_ireturn (by rfl) rfl (hP _ _ ⟨hAc21, _, rfl⟩)
      ·
        refine hxa_aload_n (by rfl) rfl ?_
        refine hxa_iconst (by rfl) rfl ?_
        refine hxa_iload (by rfl) rfl ?_
        refine hxj_ishl1 (by rfl) rfl rfl (by omega) (by omega) (fun z2 ez2 fz2 => ?_)
        refine hxj_iald (by rfl) (hsR hx21_2) rfl (by omega) (by omega) (fun z3 ez3 => ?_)
        refine hxa_aload_n (by rfl) rfl ?_
        refine hxa_iconst (by rfl) rfl ?_
        refine hxj_iald (by rfl) (hsR hx21_2) hk_0 (by omega) (by omega) (fun z4 ez4 => ?_)
        refine hxj_cne (by rfl) rfl rfl (fun q5 => ?_) (fun q5 => ?_)
        ·
          refine hxj_iinc (by rfl) rfl rfl hk_1 (by omega) (by omega) (fun _ => rfl) (fun z6 ez6 => ?_)
          refine hxa_goto (by rfl) ?_
          exact ih21 x21_2 x21_3 z6 Ac21 hx21_2 hAc21 (by omega) (by omega) (by omega) (by omega) (by omega) (by omega) (by omega)
        ·
          refine hxa_iload_n (by rfl) rfl ?_
          refine hxa_iconst (by rfl) rfl ?_
          refine hxa_iload (by rfl) rfl ?_
          refine hxj_ishl1 (by rfl) rfl rfl (by omega) (by omega) (fun z7 ez7 fz7 => ?_)
          refine hxj_ior255 (by rfl) rfl rfl (by omega) (by omega) (by omega) (by omega) (fun z8 ez8 fz8 => ?_)
          refine hxa_s1 (by rfl) (Or.inl ⟨_, rfl, rfl⟩) rfl ?_
          refine hxj_iinc (by rfl) rfl rfl hk_1 (by omega) (by omega) (fun _ => rfl) (fun z9 ez9 => ?_)
          refine hxa_goto (by rfl) ?_
          exact ih21 x21_2 z8 z9 Ac21 hx21_2 hAc21 (by omega) (by omega) (by omega) (by omega) (by omega) (by omega) (by omega)
  refine hxa_aload_n (by rfl) rfl ?_
  refine hxa_iload_n (by rfl) rfl ?_
  refine hxa_call0 (by rfl) (by rfl) (by rfl) (by rfl) (by rfl) (by rfl) (hX76 (d := d + 5) hA a1) ?_
  rintro _ _ ⟨rfl, z10, rfl, fz10⟩
  rcases fz10 with fz10 | fz10
  ·
    refine hxj_zne (by rfl) rfl (fun q11 => ?_) (fun q11 => False.elim (by omega))
    refine hxa_aload_n (by rfl) rfl ?_
    refine hxa_iload_n (by rfl) rfl ?_
    refine hxa_call0 (by rfl) (by rfl) (by rfl) (by rfl) (by rfl) (by rfl) (hX89 (d := d + 0) hA a1 (by omega) (by omega)) ?_
    rintro _ A12 ⟨hA12, R13, rfl, hR13⟩
    refine hxa_astore_n (by rfl) rfl ?_
    refine hxa_iconst (by rfl) rfl ?_
    refine hxa_s1 (by rfl) (Or.inl ⟨_, rfl, rfl⟩) rfl ?_
    refine hxa_iconst (by rfl) rfl ?_
    refine hxa_s1 (by rfl) (Or.inr ⟨_, rfl, rfl⟩) rfl ?_
    exact L21 (Int.toNat (8 - 0) + 1) R13 (Int32.ofNat 0) (Int32.ofNat 0) A12 hR13 hA12 (by omega) (by omega) (by omega) (by omega) (by omega) (by omega) (by omega)
  ·
    refine hxj_zne (by rfl) rfl (fun q14 => False.elim (by omega)) (fun q14 => ?_)
    refine hxa_iconst (by rfl) rfl ?_
    exact hxa_ireturn (by rfl) rfl (hP _ _ ⟨hA, _, rfl⟩)
theorem hX97 {d : Nat} {Bn Br : Int} {A0 A : hs_A} (hA : hJ 0 Bn Br A0 A)  (a1 : Int32) : hxC (d + 7) 97 hm_m97 [.ref 1, .int a1] A (fun r A' => hJ 0 Bn Br A0 A' ∧ ∃ z : Int32, r = some (.int z)) := hxC.of (by rfl) (hY97 hA a1 (fun r A' h => h))
theorem hY98 {d : Nat} {Bn Br : Int} {A0 A : hs_A} (hA : hJ 0 Bn Br A0 A)  (a1 : Int32) (a2 : Int32) (a3 : Int32) {P : Option Value → hs_A → Prop} (hP : ∀ (r : Option Value) (A' : hs_A), (hJ 0 Bn Br A0 A' ∧ ∃ z : Int32, r = some (.int z)) → P r A') : hxa (d + 6) (some (.int)) hm_t98 0 [.ref 1, .int a1, .int a2, .int a3, .retAddr 0] [] A P := by
  have k4294967295 := hk_4294967295
  refine hxa_aload_n (by rfl) rfl ?_
  refine hxa_iload_n (by rfl) rfl ?_
  refine hxa_call0 (by rfl) (by rfl) (by rfl) (by rfl) (by rfl) (by rfl) (hX76 (d := d + 5) hA a1) ?_
  rintro _ _ ⟨rfl, z1, rfl, fz1⟩
  rcases fz1 with fz1 | fz1
  ·
    refine hxj_zeq (by rfl) rfl (fun q2 => False.elim (by omega)) (fun q2 => ?_)
    refine hxa_iload_n (by rfl) rfl ?_
    refine hxa_call2 (by rfl) (by decide) (by rfl) (by rfl) (by rfl) (hX77 (d := d + 5)  a2) ?_
    rintro _ _ ⟨rfl, z3, rfl, fz3⟩
    rcases fz3 with fz3 | fz3
    ·
      refine hxj_zeq (by rfl) rfl (fun q4 => False.elim (by omega)) (fun q4 => ?_)
      refine hxa_iload_n (by rfl) rfl ?_
      refine hxa_call2 (by rfl) (by decide) (by rfl) (by rfl) (by rfl) (hX77 (d := d + 5)  a3) ?_
      rintro _ _ ⟨rfl, z5, rfl, fz5⟩
      rcases fz5 with fz5 | fz5
      ·
        refine hxj_zne (by rfl) rfl (fun q6 => ?_) (fun q6 => False.elim (by omega))
        refine hxa_aload_n (by rfl) rfl ?_
        refine hxa_iload_n (by rfl) rfl ?_
        refine hxa_call0 (by rfl) (by rfl) (by rfl) (by rfl) (by rfl) (by rfl) (hX89 (d := d + 0) hA a1 (by omega) (by omega)) ?_
        rintro _ A7 ⟨hA7, R8, rfl, hR8⟩
        refine hxa_astore (by rfl) rfl ?_
        refine hxa_aload (by rfl) rfl ?_
        refine hxa_iload_n (by rfl) rfl ?_
        refine hxj_iald (by rfl) (hsR hR8) rfl (by omega) (by omega) (fun z9 ez9 => ?_)
        refine hxa_aload (by rfl) rfl ?_
        refine hxa_iload_n (by rfl) rfl ?_
        refine hxj_iald (by rfl) (hsR hR8) rfl (by omega) (by omega) (fun z10 ez10 => ?_)
        refine hxj_ixorU (by rfl) (fun z11 => ?_)
        refine hxa_call2 (by rfl) (by decide) (by rfl) (by rfl) (by rfl) (hX242 (d := d + 5)  z11) ?_
        rintro _ _ ⟨rfl, z12, rfl, fz12⟩
        exact hxa_ireturn (by rfl) rfl (hP _ _ ⟨hA7, _, rfl⟩)
      ·
        refine hxj_zne (by rfl) rfl (fun q13 => False.elim (by omega)) (fun q13 => ?_)
        refine hxa_iconst (by rfl) rfl ?_
        exact hxa_ireturn (by rfl) rfl (hP _ _ ⟨hA, _, rfl⟩)
    ·
      refine hxj_zeq (by rfl) rfl (fun q14 => ?_) (fun q14 => False.elim (by omega))
      refine hxa_iconst (by rfl) rfl ?_
      exact hxa_ireturn (by rfl) rfl (hP _ _ ⟨hA, _, rfl⟩)
  ·
    refine hxj_zeq (by rfl) rfl (fun q15 => ?_) (fun q15 => False.elim (by omega))
    refine hxa_iconst (by rfl) rfl ?_
    exact hxa_ireturn (by rfl) rfl (hP _ _ ⟨hA, _, rfl⟩)
theorem hX98 {d : Nat} {Bn Br : Int} {A0 A : hs_A} (hA : hJ 0 Bn Br A0 A)  (a1 : Int32) (a2 : Int32) (a3 : Int32) : hxC (d + 7) 98 hm_m98 [.ref 1, .int a1, .int a2, .int a3] A (fun r A' => hJ 0 Bn Br A0 A' ∧ ∃ z : Int32, r = some (.int z)) := hxC.of (by rfl) (hY98 hA a1 a2 a3 (fun r A' h => h))
theorem hY99 {d : Nat} {Bn Br : Int} {A0 A : hs_A} (hA : hJ 0 Bn Br A0 A)  (a1 : Int32) (a2 : Int32) {P : Option Value → hs_A → Prop} (hP : ∀ (r : Option Value) (A' : hs_A), (hJ 0 Bn Br A0 A' ∧ ∃ z : Int32, r = some (.int z)) → P r A') : hxa (d + 6) (some (.int)) hm_t99 0 [.ref 1, .int a1, .int a2, .retAddr 0, .retAddr 0, .retAddr 0, .retAddr 0, .retAddr 0, .retAddr 0, .retAddr 0] [] A P := by
  have k0 := hk_0
  have k2 := hk_2
  have k4294967295 := hk_4294967295
  have L37 : ∀ (m37 : Nat) (x37_3 : Nat) (x37_4 : Int32) (x37_5 : Int32) (x37_6 : Int32) (x37_7 : Int32) (x37_8 : Value) (x37_9 : Value) (Ac37 : hs_A) (hx37_3 : hRR x37_3) (hx37_8 : hc_two (some x37_8) = false) (hAc37 : hJ 0 Bn Br A0 Ac37) (bx37_4 : -1 ≤ x37_4.toInt) (bx37_5 : 0 ≤ x37_5.toInt) (cx37_5 : x37_5.toInt ≤ 255) (bx37_6 : 0 ≤ x37_6.toInt) (cx37_6 : x37_6.toInt ≤ 255) (bx37_7 : 0 ≤ x37_7.toInt) (cx37_7 : x37_7.toInt ≤ 256) (ba1 : 0 ≤ a1.toInt) (ca1 : a1.toInt ≤ 9) (ba2 : 0 ≤ a2.toInt) (ca2 : a2.toInt ≤ 2) (hm37 : 256 - x37_7.toInt < (m37 : Int)), hxa (d + 6) (some (.int)) hm_t99 37 [.ref 1, .int a1, .int a2, .ref (x37_3 + 1), .int x37_4, .int x37_5, .int x37_6, .int x37_7, x37_8, x37_9] [] Ac37 P := by
    intro m37
    induction m37 with
    | zero => intro x37_3 x37_4 x37_5 x37_6 x37_7 x37_8 x37_9 Ac37 hx37_3 hx37_8 hAc37 bx37_4 bx37_5 cx37_5 bx37_6 cx37_6 bx37_7 cx37_7 ba1 ca1 ba2 ca2 hm37; have := hn_rng x37_4; exact False.elim (by omega)
    | succ m37 ih37 =>
      intro x37_3 x37_4 x37_5 x37_6 x37_7 x37_8 x37_9 Ac37 hx37_3 hx37_8 hAc37 bx37_4 bx37_5 cx37_5 bx37_6 cx37_6 bx37_7 cx37_7 ba1 ca1 ba2 ca2 hm37
      have L58 : ∀ (m58 : Nat) (x58_4 : Int32) (x58_5 : Int32) (x58_6 : Int32) (x58_8 : Int32) (x58_9 : Value) (bx58_4 : -1 ≤ x58_4.toInt) (bx58_5 : 0 ≤ x58_5.toInt) (cx58_5 : x58_5.toInt ≤ 255) (bx58_6 : 0 ≤ x58_6.toInt) (cx58_6 : x58_6.toInt ≤ 255) (bx58_8 : 1 ≤ x58_8.toInt) (cx58_8 : x58_8.toInt ≤ 256) (cx37_4 : x37_4.toInt ≤ 7) (cx37_7 : x37_7.toInt ≤ 255) (hm58 : 256 - x58_8.toInt < (m58 : Int)), hxa (d + 6) (some (.int)) hm_t99 58 [.ref 1, .int a1, .int a2, .ref (x37_3 + 1), .int x58_4, .int x58_5, .int x58_6, .int x37_7, .int x58_8, x58_9] [] Ac37 P := by
        intro m58
        induction m58 with
        | zero => intro x58_4 x58_5 x58_6 x58_8 x58_9 bx58_4 bx58_5 cx58_5 bx58_6 cx58_6 bx58_8 cx58_8 cx37_4 cx37_7 hm58; have := hn_rng x58_4; exact False.elim (by omega)
        | succ m58 ih58 =>
          intro x58_4 x58_5 x58_6 x58_8 x58_9 bx58_4 bx58_5 cx58_5 bx58_6 cx58_6 bx58_8 cx58_8 cx37_4 cx37_7 hm58
          refine hxa_iload (by rfl) rfl ?_
          refine hxa_sipush (by rfl) rfl ?_
          refine hxj_cge (by rfl) rfl hk_256 (fun q1 => ?_) (fun q1 => ?_)
          ·
            refine hxj_iinc (by rfl) rfl rfl hk_1 (by omega) (by omega) (fun _ => rfl) (fun z2 ez2 => ?_)
            refine hxa_goto (by rfl) ?_
            exact ih37 x37_3 x58_4 x58_5 x58_6 z2 (.int x58_8) (x58_9) Ac37 hx37_3 rfl hAc37 (by omega) (by omega) (by omega) (by omega) (by omega) (by omega) (by omega) (by omega) (by omega) (by omega) (by omega) (by omega)
          ·
            refine hxa_aload_n (by rfl) rfl ?_
            refine hxa_iload (by rfl) rfl ?_
            refine hxj_iald (by rfl) (hsR hx37_3) rfl (by omega) (by omega) (fun z3 ez3 => ?_)
            refine hxa_aload_n (by rfl) rfl ?_
            refine hxa_iload (by rfl) rfl ?_
            refine hxj_iald (by rfl) (hsR hx37_3) rfl (by omega) (by omega) (fun z4 ez4 => ?_)
            refine hxj_ixorU (by rfl) (fun z5 => ?_)
            refine hxa_call2 (by rfl) (by decide) (by rfl) (by rfl) (by rfl) (hX242 (d := d + 5)  z5) ?_
            rintro _ _ ⟨rfl, z6, rfl, fz6⟩
            refine hxa_s1 (by rfl) (Or.inr ⟨_, rfl, rfl⟩) rfl ?_
            refine hxa_iload (by rfl) rfl ?_
            refine hxa_iload (by rfl) rfl ?_
            have rgz6 := hn_rng z6
            have rgx58_4 := hn_rng x58_4
            refine hxj_cle (by rfl) rfl rfl (fun q7 => ?_) (fun q7 => ?_)
            ·
              refine hxj_iinc (by rfl) rfl rfl hk_1 (by omega) (by omega) (fun _ => rfl) (fun z8 ez8 => ?_)
              refine hxa_goto (by rfl) ?_
              exact ih58 x58_4 x58_5 x58_6 z8 (.int z6) (by omega) (by omega) (by omega) (by omega) (by omega) (by omega) (by omega) (by omega) (by omega) (by omega)
            ·
              refine hxa_iload (by rfl) rfl ?_
              refine hxa_s1 (by rfl) (Or.inr ⟨_, rfl, rfl⟩) rfl ?_
              refine hxa_iload (by rfl) rfl ?_
              refine hxa_s1 (by rfl) (Or.inr ⟨_, rfl, rfl⟩) rfl ?_
              refine hxa_iload (by rfl) rfl ?_
              refine hxa_s1 (by rfl) (Or.inr ⟨_, rfl, rfl⟩) rfl ?_
              refine hxj_iinc (by rfl) rfl rfl hk_1 (by omega) (by omega) (fun _ => rfl) (fun z9 ez9 => ?_)
              refine hxa_goto (by rfl) ?_
              exact ih58 z6 x37_7 x58_8 z9 (.int z6) (by omega) (by omega) (by omega) (by omega) (by omega) (by omega) (by omega) (by omega) (by omega) (by omega)
      refine hxa_iload (by rfl) rfl ?_
      refine hxa_sipush (by rfl) rfl ?_
      refine hxj_cge (by rfl) rfl hk_256 (fun q10 => ?_) (fun q10 => ?_)
      ·
        refine hxa_iload_n (by rfl) rfl ?_
        refine hxj_zne (by rfl) rfl (fun q11 => ?_) (fun q11 => ?_)
        ·
          refine hxa_iload_n (by rfl) rfl ?_
          refine hxa_iconst (by rfl) rfl ?_
          refine hxj_cne (by rfl) rfl hk_1 (fun q12 => ?_) (fun q12 => ?_)
          ·
            refine hxa_iload (by rfl) rfl ?_
            exact hxa_ireturn (by rfl) rfl (hP _ _ ⟨hAc37, _, rfl⟩)
          ·
            refine hxa_iload (by rfl) rfl ?_
            refine hxa_goto (by rfl) ?_
            exact hxa_ireturn (by rfl) rfl (hP _ _ ⟨hAc37, _, rfl⟩)
        ·
          refine hxa_iload (by rfl) rfl ?_
          exact hxa_ireturn (by rfl) rfl (hP _ _ ⟨hAc37, _, rfl⟩)
      ·
        refine hxa_iload (by rfl) rfl ?_
        refine hxa_bipush (by rfl) rfl ?_
        refine hxj_cge (by rfl) rfl hk_8 (fun q13 => ?_) (fun q13 => ?_)
        ·
          refine hxa_iload_n (by rfl) rfl ?_
          refine hxj_zne (by rfl) rfl (fun q14 => ?_) (fun q14 => ?_)
          ·
            refine hxa_iload_n (by rfl) rfl ?_
            refine hxa_iconst (by rfl) rfl ?_
            refine hxj_cne (by rfl) rfl hk_1 (fun q15 => ?_) (fun q15 => ?_)
            ·
              refine hxa_iload (by rfl) rfl ?_
              exact hxa_ireturn (by rfl) rfl (hP _ _ ⟨hAc37, _, rfl⟩)
            ·
              refine hxa_iload (by rfl) rfl ?_
              refine hxa_goto (by rfl) ?_
              exact hxa_ireturn (by rfl) rfl (hP _ _ ⟨hAc37, _, rfl⟩)
          ·
            refine hxa_iload (by rfl) rfl ?_
            exact hxa_ireturn (by rfl) rfl (hP _ _ ⟨hAc37, _, rfl⟩)
        ·
          refine hxa_iload (by rfl) rfl ?_
          refine hxa_iconst (by rfl) rfl ?_
          refine hxj_iadd (by rfl) rfl hk_1 (by omega) (by omega) (fun z16 ez16 => ?_)
          refine hxa_s1 (by rfl) (Or.inr ⟨_, rfl, rfl⟩) rfl ?_
          exact L58 (Int.toNat (256 - z16.toInt) + 1) x37_4 x37_5 x37_6 z16 (x37_9) (by omega) (by omega) (by omega) (by omega) (by omega) (by omega) (by omega) (by omega) (by omega) (by omega)
  refine hxa_aload_n (by rfl) rfl ?_
  refine hxa_iload_n (by rfl) rfl ?_
  refine hxa_call0 (by rfl) (by rfl) (by rfl) (by rfl) (by rfl) (by rfl) (hX76 (d := d + 5) hA a1) ?_
  rintro _ _ ⟨rfl, z17, rfl, fz17⟩
  rcases fz17 with fz17 | fz17
  ·
    refine hxj_zeq (by rfl) rfl (fun q18 => False.elim (by omega)) (fun q18 => ?_)
    refine hxa_iload_n (by rfl) rfl ?_
    refine hxa_iconst (by rfl) rfl ?_
    refine hxa_iconst (by rfl) rfl ?_
    refine hxa_call2 (by rfl) (by decide) (by rfl) (by rfl) (by rfl) (hX78 (d := d + 5)  a2 (Int32.ofNat 0) (Int32.ofNat 2)) ?_
    rintro _ _ ⟨rfl, z19, rfl, fz19⟩
    rcases fz19 with fz19 | fz19
    ·
      refine hxj_zne (by rfl) rfl (fun q20 => ?_) (fun q20 => False.elim (by omega))
      refine hxa_aload_n (by rfl) rfl ?_
      refine hxa_iload_n (by rfl) rfl ?_
      refine hxa_call0 (by rfl) (by rfl) (by rfl) (by rfl) (by rfl) (by rfl) (hX89 (d := d + 0) hA a1 (by omega) (by omega)) ?_
      rintro _ A21 ⟨hA21, R22, rfl, hR22⟩
      refine hxa_astore_n (by rfl) rfl ?_
      refine hxa_iconst (by rfl) rfl ?_
      refine hxa_s1 (by rfl) (Or.inr ⟨_, rfl, rfl⟩) rfl ?_
      refine hxa_iconst (by rfl) rfl ?_
      refine hxa_s1 (by rfl) (Or.inr ⟨_, rfl, rfl⟩) rfl ?_
      refine hxa_iconst (by rfl) rfl ?_
      refine hxa_s1 (by rfl) (Or.inr ⟨_, rfl, rfl⟩) rfl ?_
      refine hxa_iconst (by rfl) rfl ?_
      refine hxa_s1 (by rfl) (Or.inr ⟨_, rfl, rfl⟩) rfl ?_
      exact L37 (Int.toNat (256 - 0) + 1) R22 (Int32.ofNat 4294967295) (Int32.ofNat 0) (Int32.ofNat 0) (Int32.ofNat 0) (.retAddr 0) (.retAddr 0) A21 hR22 rfl hA21 (by omega) (by omega) (by omega) (by omega) (by omega) (by omega) (by omega) (by omega) (by omega) (by omega) (by omega) (by omega)
    ·
      refine hxj_zne (by rfl) rfl (fun q23 => False.elim (by omega)) (fun q23 => ?_)
      refine hxa_iconst (by rfl) rfl ?_
      exact hxa_ireturn (by rfl) rfl (hP _ _ ⟨hA, _, rfl⟩)
  ·
    refine hxj_zeq (by rfl) rfl (fun q24 => ?_) (fun q24 => False.elim (by omega))
    refine hxa_iconst (by rfl) rfl ?_
    exact hxa_ireturn (by rfl) rfl (hP _ _ ⟨hA, _, rfl⟩)
theorem hX99 {d : Nat} {Bn Br : Int} {A0 A : hs_A} (hA : hJ 0 Bn Br A0 A)  (a1 : Int32) (a2 : Int32) : hxC (d + 7) 99 hm_m99 [.ref 1, .int a1, .int a2] A (fun r A' => hJ 0 Bn Br A0 A' ∧ ∃ z : Int32, r = some (.int z)) := hxC.of (by rfl) (hY99 hA a1 a2 (fun r A' h => h))
