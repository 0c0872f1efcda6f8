theorem hY16 {d : Nat} {Bn Br : Int} {A0 A : hs_A} (hA : hJ 0 Bn Br A0 A)  {L : Nat} (hL : hLL L) {T : Nat} (hT : hTT T) (eT : A0.2.2.2 0 3 = T + 1) {P : Option Value → hs_A → Prop} (hP : ∀ (r : Option Value) (A' : hs_A), (hJ 0 Bn Br A0 A' ∧ r = none) → P r A') : hxa (d + 0) none hm_t16 0 [.ref (L + 1), .ref (T + 1), .retAddr 0] [] A P := by
  have k0 := hk_0
  have L37 : ∀ (m37 : Nat) (x37_2 : Int32) (Ac37 : hs_A) (hAc37 : hJ 0 Bn Br A0 Ac37) (bx37_2 : 0 ≤ x37_2.toInt) (cx37_2 : x37_2.toInt ≤ 10) (hm37 : 10 - x37_2.toInt < (m37 : Int)), hxa (d + 0) none hm_t16 37 [.ref (L + 1), .ref (T + 1), .int x37_2] [] Ac37 P := by
    intro m37
    induction m37 with
    | zero => intro x37_2 Ac37 hAc37 bx37_2 cx37_2 hm37;  exact False.elim (by omega)
    | succ m37 ih37 =>
      intro x37_2 Ac37 hAc37 bx37_2 cx37_2 hm37
      refine hxa_iload_n (by rfl) rfl ?_
      refine hxa_bipush (by rfl) rfl ?_
      refine hxj_cge (by rfl) rfl hk_10 (fun q1 => ?_) (fun q1 => ?_)
      ·
        exact hxa_return (by rfl) rfl (hP _ _ ⟨hAc37, rfl⟩)
      ·
        refine hxa_aload_n (by rfl) rfl ?_
        refine hxa_get (v := .ref (L + 2)) (by rfl) (hsL hL) (by rfl) (hvL hL (by omega)) ?_
        refine hxa_iload_n (by rfl) rfl ?_
        refine hxa_aload_n (by rfl) rfl ?_
        refine hxa_get (v := .ref (T + 2)) (by rfl) (hsT hT) (by rfl) (hvT hT (by omega)) ?_
        refine hxa_iload_n (by rfl) rfl ?_
        refine hxj_iald (by rfl) (hsT1 hT) rfl (by omega) (by omega) (fun z2 ez2 => ?_)
        refine hxj_iast (by rfl) (hsLa hL (by omega) (by omega)) rfl (by omega) (by omega) hAc37 (hbokN (haL1 hL)) (hrLa hL (by omega) (by omega)) (hqL hL (by omega)) (fun A3 hA3 eA3 fA3 gA3 => ?_)
        refine hxa_aload_n (by rfl) rfl ?_
        refine hxa_get (v := .ref (L + 3)) (by rfl) (hsL hL) (by rfl) (hvL hL (by omega)) ?_
        refine hxa_iload_n (by rfl) rfl ?_
        refine hxa_aload_n (by rfl) rfl ?_
        refine hxa_get (v := .ref (T + 3)) (by rfl) (hsT hT) (by rfl) (hvT hT (by omega)) ?_
        refine hxa_iload_n (by rfl) rfl ?_
        refine hxj_iald (by rfl) (hsT2 hT) rfl (by omega) (by omega) (fun z4 ez4 => ?_)
        refine hxj_iast (by rfl) (hsLa hL (by omega) (by omega)) rfl (by omega) (by omega) hA3 (hbokN (haL2 hL)) (hrLa hL (by omega) (by omega)) (hqL hL (by omega)) (fun A5 hA5 eA5 fA5 gA5 => ?_)
        refine hxa_aload_n (by rfl) rfl ?_
        refine hxa_get (v := .ref (L + 4)) (by rfl) (hsL hL) (by rfl) (hvL hL (by omega)) ?_
        refine hxa_iload_n (by rfl) rfl ?_
        refine hxa_iconst (by rfl) rfl ?_
        refine hxj_iast (by rfl) (hsLa hL (by omega) (by omega)) rfl (by omega) (by omega) hA5 (hbokN (haL3 hL)) (hrLa hL (by omega) (by omega)) (hqL hL (by omega)) (fun A6 hA6 eA6 fA6 gA6 => ?_)
        refine hxa_aload_n (by rfl) rfl ?_
        refine hxa_get (v := .ref (L + 5)) (by rfl) (hsL hL) (by rfl) (hvL hL (by omega)) ?_
        refine hxa_iload_n (by rfl) rfl ?_
        refine hxa_iload_n (by rfl) rfl ?_
        refine hxj_iast (by rfl) (hsLa hL (by omega) (by omega)) rfl (by omega) (by omega) hA6 (hbokN (haL4 hL)) (hrLa hL (by omega) (by omega)) (hqL hL (by omega)) (fun A7 hA7 eA7 fA7 gA7 => ?_)
        refine hxa_aload_n (by rfl) rfl ?_
        refine hxa_get (v := .ref (L + 6)) (by rfl) (hsL hL) (by rfl) (hvL hL (by omega)) ?_
        refine hxa_iload_n (by rfl) rfl ?_
        refine hxa_iconst (by rfl) rfl ?_
        refine hxj_iast (by rfl) (hsLa hL (by omega) (by omega)) rfl (by omega) (by omega) hA7 (hbok (haL5 hL) hk_0 (by omega) (by omega)) (hrLa hL (by omega) (by omega)) (hqL hL (by omega)) (fun A8 hA8 eA8 fA8 gA8 => ?_)
        refine hxa_aload_n (by rfl) rfl ?_
        refine hxa_get (v := .ref (L + 7)) (by rfl) (hsL hL) (by rfl) (hvL hL (by omega)) ?_
        refine hxa_iload_n (by rfl) rfl ?_
        refine hxa_iconst (by rfl) rfl ?_
        refine hxj_iast (by rfl) (hsLa hL (by omega) (by omega)) rfl (by omega) (by omega) hA8 (hbokN (haL6 hL)) (hrLa hL (by omega) (by omega)) (hqL hL (by omega)) (fun A9 hA9 eA9 fA9 gA9 => ?_)
        refine hxj_iinc (by rfl) rfl rfl hk_1 (by omega) (by omega) (fun _ => rfl) (fun z10 ez10 => ?_)
        refine hxa_goto (by rfl) ?_
        exact ih37 z10 A9 hA9 (by omega) (by omega) (by omega)
  refine hxa_aload_n (by rfl) rfl ?_
  refine hxa_aload_n (by rfl) rfl ?_
  refine hxj_getB (by rfl) (hsT hT) (by rfl) hA (hbT_4 hT) (fun z11 ez11 fz11 gz11 => ?_)
  refine hxj_putI (by rfl) (hsL hL) (by rfl) (by rfl) hA (hbok (hbL_6 hL) rfl (by omega) (by omega)) (hrL_6 hL) (by rfl) (fun A12 hA12 eA12 fA12 => ?_)
  refine hxa_aload_n (by rfl) rfl ?_
  refine hxa_iconst (by rfl) rfl ?_
  refine hxj_putI (by rfl) (hsL hL) (by rfl) (by rfl) hA12 (hbokN (hbL_7 hL)) (hrL_7 hL) (by rfl) (fun A13 hA13 eA13 fA13 => ?_)
  refine hxa_aload_n (by rfl) rfl ?_
  refine hxa_iconst (by rfl) rfl ?_
  refine hxj_putI (by rfl) (hsL hL) (by rfl) (by rfl) hA13 (hbok (hbL_8 hL) hk_4294967295 (by omega) (by omega)) (hrL_8 hL) (by rfl) (fun A14 hA14 eA14 fA14 => ?_)
  refine hxa_aload_n (by rfl) rfl ?_
  refine hxa_iconst (by rfl) rfl ?_
  refine hxa_aload_n (by rfl) rfl ?_
  refine hxj_getK (by rfl) (hsL hL) (by rfl) (hkF eA14 (by omega) (hkF eA13 (by omega) (hkS eA12))) ?_
  refine hxj_ishlU (by rfl) (fun z15 => ?_)
  refine hxa_iconst (by rfl) rfl ?_
  refine hxj_isubU (by rfl) (fun z16 => ?_)
  refine hxj_putI (by rfl) (hsL hL) (by rfl) (by rfl) hA14 (hbokN (hbL_9 hL)) (hrL_9 hL) (by rfl) (fun A17 hA17 eA17 fA17 => ?_)
  refine hxa_aload_n (by rfl) rfl ?_
  refine hxa_iconst (by rfl) rfl ?_
  refine hxj_putI (by rfl) (hsL hL) (by rfl) (by rfl) hA17 (hbokN (hbL_10 hL)) (hrL_10 hL) (by rfl) (fun A18 hA18 eA18 fA18 => ?_)
  refine hxa_iconst (by rfl) rfl ?_
  refine hxa_s1 (by rfl) (Or.inl ⟨_, rfl, rfl⟩) rfl ?_
  exact L37 (Int.toNat (10 - 0) + 1) (Int32.ofNat 0) A18 hA18 (by omega) (by omega) (by omega)
theorem hX16 {d : Nat} {Bn Br : Int} {A0 A : hs_A} (hA : hJ 0 Bn Br A0 A)  {L : Nat} (hL : hLL L) {T : Nat} (hT : hTT T) (eT : A0.2.2.2 0 3 = T + 1) : hxC (d + 1) 16 hm_m16 [.ref (L + 1), .ref (T + 1)] A (fun r A' => hJ 0 Bn Br A0 A' ∧ r = none) := hxC.of (by rfl) (hY16 hA hL hT eT (fun r A' h => h))
theorem hY17 {d : Nat} {Bn Br : Int} {A0 A : hs_A} (hA : hJ 0 Bn Br A0 A)  {L : Nat} (hL : hLL L) {L1 : Nat} (hL1 : hLL L1) {P : Option Value → hs_A → Prop} (hP : ∀ (r : Option Value) (A' : hs_A), (hJ 0 Bn Br A0 A' ∧ r = none) → P r A') : hxa (d + 0) none hm_t17 0 [.ref (L + 1), .ref (L1 + 1)] [] A P := by
  refine hxa_aload_n (by rfl) rfl ?_
  refine hxa_aload_n (by rfl) rfl ?_
  refine hxj_getB (by rfl) (hsL hL1) (by rfl) hA (hbL_6 hL1) (fun z1 ez1 fz1 gz1 => ?_)
  refine hxj_putI (by rfl) (hsL hL) (by rfl) (by rfl) hA (hbok (hbL_6 hL) rfl (by omega) (by omega)) (hrL_6 hL) (by rfl) (fun A2 hA2 eA2 fA2 => ?_)
  refine hxa_aload_n (by rfl) rfl ?_
  refine hxa_aload_n (by rfl) rfl ?_
  refine hxj_getI (by rfl) (hsL hL1) (by rfl) (fun z3 ez3 => ?_)
  refine hxj_putI (by rfl) (hsL hL) (by rfl) (by rfl) hA2 (hbokN (hbL_7 hL)) (hrL_7 hL) (by rfl) (fun A4 hA4 eA4 fA4 => ?_)
  refine hxa_aload_n (by rfl) rfl ?_
  refine hxa_aload_n (by rfl) rfl ?_
  refine hxj_getB (by rfl) (hsL hL1) (by rfl) hA4 (hbL_8 hL1) (fun z5 ez5 fz5 gz5 => ?_)
  refine hxj_putI (by rfl) (hsL hL) (by rfl) (by rfl) hA4 (hbok (hbL_8 hL) rfl (by omega) (by omega)) (hrL_8 hL) (by rfl) (fun A6 hA6 eA6 fA6 => ?_)
  refine hxa_aload_n (by rfl) rfl ?_
  refine hxa_aload_n (by rfl) rfl ?_
  refine hxj_getI (by rfl) (hsL hL1) (by rfl) (fun z7 ez7 => ?_)
  refine hxj_putI (by rfl) (hsL hL) (by rfl) (by rfl) hA6 (hbokN (hbL_9 hL)) (hrL_9 hL) (by rfl) (fun A8 hA8 eA8 fA8 => ?_)
  refine hxa_aload_n (by rfl) rfl ?_
  refine hxa_aload_n (by rfl) rfl ?_
  refine hxj_getI (by rfl) (hsL hL1) (by rfl) (fun z9 ez9 => ?_)
  refine hxj_putI (by rfl) (hsL hL) (by rfl) (by rfl) hA8 (hbokN (hbL_10 hL)) (hrL_10 hL) (by rfl) (fun A10 hA10 eA10 fA10 => ?_)
  refine hxa_aload_n (by rfl) rfl ?_
  refine hxa_get (v := .ref (L1 + 2)) (by rfl) (hsL hL1) (by rfl) (hvL hL1 (by omega)) ?_
  refine hxa_iconst (by rfl) rfl ?_
  refine hxa_aload_n (by rfl) rfl ?_
  refine hxa_get (v := .ref (L + 2)) (by rfl) (hsL hL) (by rfl) (hvL hL (by omega)) ?_
  refine hxa_iconst (by rfl) rfl ?_
  refine hxa_bipush (by rfl) rfl ?_
  refine hxj_copy (by rfl) (hsLa hL1 (by omega) (by omega)) (hsLa hL (by omega) (by omega)) hk_10 (by rfl) hA10 (fun _ _ => hbokN (haL1 hL)) (hrLa hL (by omega) (by omega)) (hqL hL (by omega)) (fun A11 hA11 eA11 => ?_) rfl rfl
  refine hxa_aload_n (by rfl) rfl ?_
  refine hxa_get (v := .ref (L1 + 3)) (by rfl) (hsL hL1) (by rfl) (hvL hL1 (by omega)) ?_
  refine hxa_iconst (by rfl) rfl ?_
  refine hxa_aload_n (by rfl) rfl ?_
  refine hxa_get (v := .ref (L + 3)) (by rfl) (hsL hL) (by rfl) (hvL hL (by omega)) ?_
  refine hxa_iconst (by rfl) rfl ?_
  refine hxa_bipush (by rfl) rfl ?_
  refine hxj_copy (by rfl) (hsLa hL1 (by omega) (by omega)) (hsLa hL (by omega) (by omega)) hk_10 (by rfl) hA11 (fun _ _ => hbokN (haL2 hL)) (hrLa hL (by omega) (by omega)) (hqL hL (by omega)) (fun A12 hA12 eA12 => ?_) rfl rfl
  refine hxa_aload_n (by rfl) rfl ?_
  refine hxa_get (v := .ref (L1 + 4)) (by rfl) (hsL hL1) (by rfl) (hvL hL1 (by omega)) ?_
  refine hxa_iconst (by rfl) rfl ?_
  refine hxa_aload_n (by rfl) rfl ?_
  refine hxa_get (v := .ref (L + 4)) (by rfl) (hsL hL) (by rfl) (hvL hL (by omega)) ?_
  refine hxa_iconst (by rfl) rfl ?_
  refine hxa_bipush (by rfl) rfl ?_
  refine hxj_copy (by rfl) (hsLa hL1 (by omega) (by omega)) (hsLa hL (by omega) (by omega)) hk_10 (by rfl) hA12 (fun _ _ => hbokN (haL3 hL)) (hrLa hL (by omega) (by omega)) (hqL hL (by omega)) (fun A13 hA13 eA13 => ?_) rfl rfl
  refine hxa_aload_n (by rfl) rfl ?_
  refine hxa_get (v := .ref (L1 + 5)) (by rfl) (hsL hL1) (by rfl) (hvL hL1 (by omega)) ?_
  refine hxa_iconst (by rfl) rfl ?_
  refine hxa_aload_n (by rfl) rfl ?_
  refine hxa_get (v := .ref (L + 5)) (by rfl) (hsL hL) (by rfl) (hvL hL (by omega)) ?_
  refine hxa_iconst (by rfl) rfl ?_
  refine hxa_bipush (by rfl) rfl ?_
  refine hxj_copy (by rfl) (hsLa hL1 (by omega) (by omega)) (hsLa hL (by omega) (by omega)) hk_10 (by rfl) hA13 (fun _ _ => hbokN (haL4 hL)) (hrLa hL (by omega) (by omega)) (hqL hL (by omega)) (fun A14 hA14 eA14 => ?_) rfl rfl
  refine hxa_aload_n (by rfl) rfl ?_
  refine hxa_get (v := .ref (L1 + 6)) (by rfl) (hsL hL1) (by rfl) (hvL hL1 (by omega)) ?_
  refine hxa_iconst (by rfl) rfl ?_
  refine hxa_aload_n (by rfl) rfl ?_
  refine hxa_get (v := .ref (L + 6)) (by rfl) (hsL hL) (by rfl) (hvL hL (by omega)) ?_
  refine hxa_iconst (by rfl) rfl ?_
  refine hxa_bipush (by rfl) rfl ?_
  refine hxj_copy (by rfl) (hsLa hL1 (by omega) (by omega)) (hsLa hL (by omega) (by omega)) hk_10 (by rfl) hA14 (fun v q => (haL5 hL).symm ▸ (haL5 hL1) ▸ q) (hrLa hL (by omega) (by omega)) (hqL hL (by omega)) (fun A15 hA15 eA15 => ?_) rfl rfl
  refine hxa_aload_n (by rfl) rfl ?_
  refine hxa_get (v := .ref (L1 + 7)) (by rfl) (hsL hL1) (by rfl) (hvL hL1 (by omega)) ?_
  refine hxa_iconst (by rfl) rfl ?_
  refine hxa_aload_n (by rfl) rfl ?_
  refine hxa_get (v := .ref (L + 7)) (by rfl) (hsL hL) (by rfl) (hvL hL (by omega)) ?_
  refine hxa_iconst (by rfl) rfl ?_
  refine hxa_bipush (by rfl) rfl ?_
  refine hxj_copy (by rfl) (hsLa hL1 (by omega) (by omega)) (hsLa hL (by omega) (by omega)) hk_10 (by rfl) hA15 (fun _ _ => hbokN (haL6 hL)) (hrLa hL (by omega) (by omega)) (hqL hL (by omega)) (fun A16 hA16 eA16 => ?_) rfl rfl
  exact hxa_return (by rfl) rfl (hP _ _ ⟨hA16, rfl⟩)
theorem hX17 {d : Nat} {Bn Br : Int} {A0 A : hs_A} (hA : hJ 0 Bn Br A0 A)  {L : Nat} (hL : hLL L) {L1 : Nat} (hL1 : hLL L1) : hxC (d + 1) 17 hm_m17 [.ref (L + 1), .ref (L1 + 1)] A (fun r A' => hJ 0 Bn Br A0 A' ∧ r = none) := hxC.of (by rfl) (hY17 hA hL hL1 (fun r A' h => h))
theorem hY18 {d : Nat} {Bn Br : Int} {A0 A : hs_A} (hA : hJ 0 Bn Br A0 A)  {L : Nat} (hL : hLL L) (a1 : Int32) {P : Option Value → hs_A → Prop} (hP : ∀ (r : Option Value) (A' : hs_A), (A = A' ∧ ∃ z : Int32, r = some (.int z) ∧ ((0 ≤ z.toInt ∧ z.toInt ≤ 1))) → P r A') : hxa (d + 0) (some (.boolean)) hm_t18 0 [.ref (L + 1), .int a1] [] A P := by
  have k0 := hk_0
  have k1 := hk_1
  refine hxa_aload_n (by rfl) rfl ?_
  refine hxj_getI (by rfl) (hsL hL) (by rfl) (fun z1 ez1 => ?_)
  refine hxa_iload_n (by rfl) rfl ?_
  refine hxj_ishrU (by rfl) (fun z2 => ?_)
  refine hxa_iconst (by rfl) rfl ?_
  refine hxj_iandR (by rfl) hk_1 (by omega) (fun z3 ez3 fz3 => ?_)
  refine hxj_zeq (by rfl) rfl (fun q4 => ?_) (fun q4 => ?_)
  ·
    refine hxa_iconst (by rfl) rfl ?_
    exact hxa_ireturn (by rfl) (by rfl) (hP _ _ ⟨rfl, _, rfl, by omega⟩)
  ·
    refine hxa_iconst (by rfl) rfl ?_
    refine hxa_goto (by rfl) ?_
    exact hxa_ireturn (by rfl) (by rfl) (hP _ _ ⟨rfl, _, rfl, by omega⟩)
theorem hX18 {d : Nat} {Bn Br : Int} {A0 A : hs_A} (hA : hJ 0 Bn Br A0 A)  {L : Nat} (hL : hLL L) (a1 : Int32) : hxC (d + 1) 18 hm_m18 [.ref (L + 1), .int a1] A (fun r A' => A = A' ∧ ∃ z : Int32, r = some (.int z) ∧ ((0 ≤ z.toInt ∧ z.toInt ≤ 1))) := hxC.of (by rfl) (hY18 hA hL a1 (fun r A' h => h))
theorem hY19 {d : Nat} {Bn Br : Int} {A0 A : hs_A} (hA : hJ 0 Bn Br A0 A)  {L : Nat} (hL : hLL L) (a1 : Int32) (p1 : 0 ≤ a1.toInt) (q1 : a1.toInt ≤ 9) {P : Option Value → hs_A → Prop} (hP : ∀ (r : Option Value) (A' : hs_A), (A = A' ∧ ∃ z : Int32, r = some (.int z) ∧ ((0 ≤ z.toInt ∧ z.toInt ≤ 1))) → P r A') : hxa (d + 1) (some (.boolean)) hm_t19 0 [.ref (L + 1), .int a1] [] A P := by
  have k0 := hk_0
  have k1 := hk_1
  refine hxa_aload_n (by rfl) rfl ?_
  refine hxa_iload_n (by rfl) rfl ?_
  refine hxa_call0 (by rfl) (by rfl) (by rfl) (hsL hL) (by rfl) (by rfl) (hX18 (d := d + 0) hA hL a1) ?_
  rintro _ _ ⟨rfl, z1, rfl, fz1⟩
  refine hxj_zeq (by rfl) rfl (fun q2 => ?_) (fun q2 => ?_)
  ·
    refine hxa_iconst (by rfl) rfl ?_
    exact hxa_ireturn (by rfl) (by rfl) (hP _ _ ⟨rfl, _, rfl, by omega⟩)
  ·
    refine hxa_aload_n (by rfl) rfl ?_
    refine hxa_get (v := .ref (L + 7)) (by rfl) (hsL hL) (by rfl) (hvL hL (by omega)) ?_
    refine hxa_iload_n (by rfl) rfl ?_
    refine hxj_iald (by rfl) (hsLa hL (by omega) (by omega)) rfl (by omega) (by omega) (fun z3 ez3 => ?_)
    refine hxj_zne (by rfl) rfl (fun q4 => ?_) (fun q4 => ?_)
    ·
      refine hxa_iconst (by rfl) rfl ?_
      exact hxa_ireturn (by rfl) (by rfl) (hP _ _ ⟨rfl, _, rfl, by omega⟩)
    ·
      refine hxa_iconst (by rfl) rfl ?_
      refine hxa_goto (by rfl) ?_
      exact hxa_ireturn (by rfl) (by rfl) (hP _ _ ⟨rfl, _, rfl, by omega⟩)
theorem hX19 {d : Nat} {Bn Br : Int} {A0 A : hs_A} (hA : hJ 0 Bn Br A0 A)  {L : Nat} (hL : hLL L) (a1 : Int32) (p1 : 0 ≤ a1.toInt) (q1 : a1.toInt ≤ 9) : hxC (d + 2) 19 hm_m19 [.ref (L + 1), .int a1] A (fun r A' => A = A' ∧ ∃ z : Int32, r = some (.int z) ∧ ((0 ≤ z.toInt ∧ z.toInt ≤ 1))) := hxC.of (by rfl) (hY19 hA hL a1 p1 q1 (fun r A' h => h))
theorem hY20 {d : Nat} {Bn Br : Int} {A0 A : hs_A} (hA : hJ 0 Bn Br A0 A)  {L : Nat} (hL : hLL L) (a1 : Int32) {P : Option Value → hs_A → Prop} (hP : ∀ (r : Option Value) (A' : hs_A), (A = A' ∧ ∃ z : Int32, r = some (.int z)) → P r A') : hxa (d + 2) (some (.int)) hm_t20 0 [.ref (L + 1), .int a1, .retAddr 0] [] A P := by
  have k0 := hk_0
  have k4294967294 := hk_4294967294
  have L2 : ∀ (m2 : Nat) (x2_2 : Int32) (bx2_2 : 0 ≤ x2_2.toInt) (cx2_2 : x2_2.toInt ≤ 10) (hm2 : 10 - x2_2.toInt < (m2 : Int)), hxa (d + 2) (some (.int)) hm_t20 2 [.ref (L + 1), .int a1, .int x2_2] [] A P := by
    intro m2
    induction m2 with
    | zero => intro x2_2 bx2_2 cx2_2 hm2;  exact False.elim (by omega)
    | succ m2 ih2 =>
      intro x2_2 bx2_2 cx2_2 hm2
      refine hxa_iload_n (by rfl) rfl ?_
      refine hxa_iload_n (by rfl) rfl ?_
      have rga1 := hn_rng a1
      refine hxj_cgt (by rfl) rfl rfl (fun q1 => ?_) (fun q1 => ?_)
      ·
        refine hxa_bipush (by rfl) rfl ?_
        exact hxa_ireturn (by rfl) rfl (hP _ _ ⟨rfl, _, rfl⟩)
      ·
        refine hxa_iload_n (by rfl) rfl ?_
        refine hxa_bipush (by rfl) rfl ?_
        refine hxj_cge (by rfl) rfl hk_10 (fun q2 => ?_) (fun q2 => ?_)
        ·
          refine hxa_bipush (by rfl) rfl ?_
          exact hxa_ireturn (by rfl) rfl (hP _ _ ⟨rfl, _, rfl⟩)
        ·
          refine hxa_aload_n (by rfl) rfl ?_
          refine hxa_iload_n (by rfl) rfl ?_
          refine hxa_call0 (by rfl) (by rfl) (by rfl) (hsL hL) (by rfl) (by rfl) (hX19 (d := d + 0) hA hL x2_2 (by omega) (by omega)) ?_
          rintro _ _ ⟨rfl, z3, rfl, fz3⟩
          refine hxj_zne (by rfl) rfl (fun q4 => ?_) (fun q4 => ?_)
          ·
            refine hxj_iinc (by rfl) rfl rfl hk_1 (by omega) (by omega) (fun _ => rfl) (fun z5 ez5 => ?_)
            refine hxa_goto (by rfl) ?_
            exact ih2 z5 (by omega) (by omega) (by omega)
          ·
            refine hxa_iload_n (by rfl) rfl ?_
            exact hxa_ireturn (by rfl) rfl (hP _ _ ⟨rfl, _, rfl⟩)
  refine hxa_iconst (by rfl) rfl ?_
  refine hxa_s1 (by rfl) (Or.inl ⟨_, rfl, rfl⟩) rfl ?_
  exact L2 (Int.toNat (10 - 0) + 1) (Int32.ofNat 0) (by omega) (by omega) (by omega)
theorem hX20 {d : Nat} {Bn Br : Int} {A0 A : hs_A} (hA : hJ 0 Bn Br A0 A)  {L : Nat} (hL : hLL L) (a1 : Int32) : hxC (d + 3) 20 hm_m20 [.ref (L + 1), .int a1] A (fun r A' => A = A' ∧ ∃ z : Int32, r = some (.int z)) := hxC.of (by rfl) (hY20 hA hL a1 (fun r A' h => h))
theorem hY21 {d : Nat} {Bn Br : Int} {A0 A : hs_A} (hA : hJ 0 Bn Br A0 A)  {L : Nat} (hL : hLL L) (a1 : Int32) (p1 : 0 ≤ a1.toInt) (q1 : a1.toInt ≤ 9) {P : Option Value → hs_A → Prop} (hP : ∀ (r : Option Value) (A' : hs_A), (A = A' ∧ ∃ z : Int32, r = some (.int z)) → P r A') : hxa (d + 0) (some (.int)) hm_t21 0 [.ref (L + 1), .int a1] [] A P := by
  refine hxa_aload_n (by rfl) rfl ?_
  refine hxa_get (v := .ref (L + 2)) (by rfl) (hsL hL) (by rfl) (hvL hL (by omega)) ?_
  refine hxa_iload_n (by rfl) rfl ?_
  refine hxj_iald (by rfl) (hsLa hL (by omega) (by omega)) rfl (by omega) (by omega) (fun z1 ez1 => ?_)
  refine hxa_aload_n (by rfl) rfl ?_
  refine hxa_get (v := .ref (L + 4)) (by rfl) (hsL hL) (by rfl) (hvL hL (by omega)) ?_
  refine hxa_iload_n (by rfl) rfl ?_
  refine hxj_iald (by rfl) (hsLa hL (by omega) (by omega)) rfl (by omega) (by omega) (fun z2 ez2 => ?_)
  refine hxa_iconst (by rfl) rfl ?_
  refine hxj_ixorU (by rfl) (fun z3 => ?_)
  refine hxj_iandU (by rfl) (fun z4 => ?_)
  exact hxa_ireturn (by rfl) rfl (hP _ _ ⟨rfl, _, rfl⟩)
theorem hX21 {d : Nat} {Bn Br : Int} {A0 A : hs_A} (hA : hJ 0 Bn Br A0 A)  {L : Nat} (hL : hLL L) (a1 : Int32) (p1 : 0 ≤ a1.toInt) (q1 : a1.toInt ≤ 9) : hxC (d + 1) 21 hm_m21 [.ref (L + 1), .int a1] A (fun r A' => A = A' ∧ ∃ z : Int32, r = some (.int z)) := hxC.of (by rfl) (hY21 hA hL a1 p1 q1 (fun r A' h => h))
theorem hY22 {d : Nat} {Bn Br : Int} {A0 A : hs_A} (hA : hJ 0 Bn Br A0 A)  {L : Nat} (hL : hLL L) {T : Nat} (hT : hTT T) (eT : A0.2.2.2 0 3 = T + 1) {P : Option Value → hs_A → Prop} (hP : ∀ (r : Option Value) (A' : hs_A), (A = A' ∧ ∃ z : Int32, r = some (.int z) ∧ ((0 ≤ z.toInt ∧ z.toInt ≤ 255))) → P r A') : hxa (d + 1) (some (.int)) hm_t22 0 [.ref (L + 1), .ref (T + 1)] [] A P := by
  have k24 := hk_24
  refine hxa_aload_n (by rfl) rfl ?_
  refine hxj_getB (by rfl) (hsL hL) (by rfl) hA (hbL_8 hL) (fun z1 ez1 fz1 gz1 => ?_)
  refine hxa_iconst (by rfl) rfl ?_
  refine hxj_cne (by rfl) rfl hk_4294967295 (fun q2 => ?_) (fun q2 => ?_)
  ·
    refine hxa_aload_n (by rfl) rfl ?_
    refine hxj_getK (by rfl) (hsL hL) (by rfl) ez1 ?_
    exact hxa_ireturn (by rfl) rfl (hP _ _ ⟨rfl, _, rfl, by omega⟩)
  ·
    refine hxa_aload_n (by rfl) rfl ?_
    refine hxa_get (v := .ref (T + 4)) (by rfl) (hsT hT) (by rfl) (hvT hT (by omega)) ?_
    refine hxa_aload_n (by rfl) rfl ?_
    refine hxj_getI (by rfl) (hsL hL) (by rfl) (fun z3 ez3 => ?_)
    refine hxa_bipush (by rfl) rfl ?_
    refine hxa_call2 (by rfl) (by decide) (by rfl) (by rfl) (by rfl) (hX243 (d := d + 0)  z3 (Int32.ofNat 24) (by omega)) ?_
    rintro _ _ ⟨rfl, z4, rfl, fz4⟩
    refine hxj_iald (by rfl) (hsT3 hT) rfl (by omega) (by omega) (fun z5 ez5 => ?_)
    obtain ⟨fz5, gz5⟩ := hA.prog hT eT z4.toNatClampNeg (hn_lt24 rfl (by omega) (by omega))
    rw [ez5] at fz5 gz5
    refine hxa_goto (by rfl) ?_
    exact hxa_ireturn (by rfl) rfl (hP _ _ ⟨rfl, _, rfl, by omega⟩)
theorem hX22 {d : Nat} {Bn Br : Int} {A0 A : hs_A} (hA : hJ 0 Bn Br A0 A)  {L : Nat} (hL : hLL L) {T : Nat} (hT : hTT T) (eT : A0.2.2.2 0 3 = T + 1) : hxC (d + 2) 22 hm_m22 [.ref (L + 1), .ref (T + 1)] A (fun r A' => A = A' ∧ ∃ z : Int32, r = some (.int z) ∧ ((0 ≤ z.toInt ∧ z.toInt ≤ 255))) := hxC.of (by rfl) (hY22 hA hL hT eT (fun r A' h => h))
theorem hY23 {d : Nat} {Bn Br : Int} {A0 A : hs_A} (hA : hJ 0 Bn Br A0 A)  {L : Nat} (hL : hLL L) (a1 : Int32) (p1 : 0 ≤ a1.toInt) (q1 : a1.toInt ≤ 9) (a2 : Int32) (p2 : 0 ≤ a2.toInt) (q2 : a2.toInt ≤ 255) {P : Option Value → hs_A → Prop} (hP : ∀ (r : Option Value) (A' : hs_A), (hJ 0 Bn Br A0 A' ∧ r = none) → P r A') : hxa (d + 0) none hm_t23 0 [.ref (L + 1), .int a1, .int a2] [] A P := by
  refine hxa_aload_n (by rfl) rfl ?_
  refine hxa_get (v := .ref (L + 6)) (by rfl) (hsL hL) (by rfl) (hvL hL (by omega)) ?_
  refine hxa_iload_n (by rfl) rfl ?_
  refine hxa_iload_n (by rfl) rfl ?_
  refine hxj_iast (by rfl) (hsLa hL (by omega) (by omega)) rfl (by omega) (by omega) hA (hbok (haL5 hL) rfl (by omega) (by omega)) (hrLa hL (by omega) (by omega)) (hqL hL (by omega)) (fun A1 hA1 eA1 fA1 gA1 => ?_)
  refine hxa_aload_n (by rfl) rfl ?_
  refine hxa_get (v := .ref (L + 4)) (by rfl) (hsL hL) (by rfl) (hvL hL (by omega)) ?_
  refine hxa_iload_n (by rfl) rfl ?_
  refine hxa_dup2IR (by rfl) ?_
  refine hxj_iald (by rfl) (hsLa hL (by omega) (by omega)) rfl (by omega) (by omega) (fun z2 ez2 => ?_)
  refine hxa_iload_n (by rfl) rfl ?_
  refine hxa_aload_n (by rfl) rfl ?_
  refine hxa_get (v := .ref (L + 2)) (by rfl) (hsL hL) (by rfl) (hvL hL (by omega)) ?_
  refine hxa_iload_n (by rfl) rfl ?_
  refine hxj_iald (by rfl) (hsLa hL (by omega) (by omega)) rfl (by omega) (by omega) (fun z3 ez3 => ?_)
  refine hxj_iandL (by rfl) rfl (by omega) (fun z4 ez4 fz4 => ?_)
  refine hxj_iorU (by rfl) (fun z5 => ?_)
  refine hxj_iast (by rfl) (hsLa hL (by omega) (by omega)) rfl (by omega) (by omega) hA1 (hbokN (haL3 hL)) (hrLa hL (by omega) (by omega)) (hqL hL (by omega)) (fun A6 hA6 eA6 fA6 gA6 => ?_)
  exact hxa_return (by rfl) rfl (hP _ _ ⟨hA6, rfl⟩)
theorem hX23 {d : Nat} {Bn Br : Int} {A0 A : hs_A} (hA : hJ 0 Bn Br A0 A)  {L : Nat} (hL : hLL L) (a1 : Int32) (p1 : 0 ≤ a1.toInt) (q1 : a1.toInt ≤ 9) (a2 : Int32) (p2 : 0 ≤ a2.toInt) (q2 : a2.toInt ≤ 255) : hxC (d + 1) 23 hm_m23 [.ref (L + 1), .int a1, .int a2] A (fun r A' => hJ 0 Bn Br A0 A' ∧ r = none) := hxC.of (by rfl) (hY23 hA hL a1 p1 q1 a2 p2 q2 (fun r A' h => h))
theorem hY25 {d : Nat} {Bn Br : Int} {A0 A : hs_A} (hA : hJ 0 Bn Br A0 A)  {C1 : Nat} (hC1 : hc_get hs_sh C1 = some (0, 1, [10])) (nC1 : hb_a C1 = none) (rC1 : hr_a 0 C1 = true) (gC1 : hq 0 C1 = true) (a2 : Int32) (p2 : 0 ≤ a2.toInt) (q2 : a2.toInt ≤ 9) (a3 : Int32) (p3 : 0 ≤ a3.toInt) (q3 : a3.toInt ≤ 9) {P : Option Value → hs_A → Prop} (hP : ∀ (r : Option Value) (A' : hs_A), (hJ 0 Bn Br A0 A' ∧ r = none) → P r A') : hxa (d + 0) none hm_t25 0 [.ref (C1 + 1), .int a2, .int a3, .retAddr 0] [] A P := by
  refine hxa_aload_n (by rfl) rfl ?_
  refine hxa_iload_n (by rfl) rfl ?_
  refine hxj_iald (by rfl) hC1 rfl (by omega) (by omega) (fun z1 ez1 => ?_)
  refine hxa_s1 (by rfl) (Or.inl ⟨_, rfl, rfl⟩) rfl ?_
  refine hxa_aload_n (by rfl) rfl ?_
  refine hxa_iload_n (by rfl) rfl ?_
  refine hxa_aload_n (by rfl) rfl ?_
  refine hxa_iload_n (by rfl) rfl ?_
  refine hxj_iald (by rfl) hC1 rfl (by omega) (by omega) (fun z2 ez2 => ?_)
  refine hxj_iast (by rfl) hC1 rfl (by omega) (by omega) hA (hbokN nC1) rC1 gC1 (fun A3 hA3 eA3 fA3 gA3 => ?_)
  refine hxa_aload_n (by rfl) rfl ?_
  refine hxa_iload_n (by rfl) rfl ?_
  refine hxa_iload_n (by rfl) rfl ?_
  refine hxj_iast (by rfl) hC1 rfl (by omega) (by omega) hA3 (hbokN nC1) rC1 gC1 (fun A4 hA4 eA4 fA4 gA4 => ?_)
  exact hxa_return (by rfl) rfl (hP _ _ ⟨hA4, rfl⟩)
theorem hX25 {d : Nat} {Bn Br : Int} {A0 A : hs_A} (hA : hJ 0 Bn Br A0 A)  {C1 : Nat} (hC1 : hc_get hs_sh C1 = some (0, 1, [10])) (nC1 : hb_a C1 = none) (rC1 : hr_a 0 C1 = true) (gC1 : hq 0 C1 = true) (a2 : Int32) (p2 : 0 ≤ a2.toInt) (q2 : a2.toInt ≤ 9) (a3 : Int32) (p3 : 0 ≤ a3.toInt) (q3 : a3.toInt ≤ 9) : hxC (d + 1) 25 hm_m25 [.ref (C1 + 1), .int a2, .int a3] A (fun r A' => hJ 0 Bn Br A0 A' ∧ r = none) := hxC.of (by rfl) (hY25 hA hC1 nC1 rC1 gC1 a2 p2 q2 a3 p3 q3 (fun r A' h => h))
theorem hY24 {d : Nat} {Bn Br : Int} {A0 A : hs_A} (hA : hJ 0 Bn Br A0 A)  {L : Nat} (hL : hLL L) (a1 : Int32) (p1 : 0 ≤ a1.toInt) (q1 : a1.toInt ≤ 9) (a2 : Int32) (p2 : 0 ≤ a2.toInt) (q2 : a2.toInt ≤ 9) {P : Option Value → hs_A → Prop} (hP : ∀ (r : Option Value) (A' : hs_A), (hJ 0 Bn Br A0 A' ∧ r = none) → P r A') : hxa (d + 1) none hm_t24 0 [.ref (L + 1), .int a1, .int a2] [] A P := by
  refine hxa_aload_n (by rfl) rfl ?_
  refine hxa_get (v := .ref (L + 2)) (by rfl) (hsL hL) (by rfl) (hvL hL (by omega)) ?_
  refine hxa_iload_n (by rfl) rfl ?_
  refine hxa_iload_n (by rfl) rfl ?_
  refine hxa_call2 (by rfl) (by decide) (by rfl) (by rfl) (by rfl) (hX25 (d := d + 0) hA (C1 := (L + 1)) (hsLa hL (by omega) (by omega)) (haL1 hL) (hrLa hL (by omega) (by omega)) (hqL hL (by omega)) a1 (by omega) (by omega) a2 (by omega) (by omega)) ?_
  rintro _ A1 ⟨hA1, rfl⟩
  refine hxa_aload_n (by rfl) rfl ?_
  refine hxa_get (v := .ref (L + 3)) (by rfl) (hsL hL) (by rfl) (hvL hL (by omega)) ?_
  refine hxa_iload_n (by rfl) rfl ?_
  refine hxa_iload_n (by rfl) rfl ?_
  refine hxa_call2 (by rfl) (by decide) (by rfl) (by rfl) (by rfl) (hX25 (d := d + 0) hA1 (C1 := (L + 2)) (hsLa hL (by omega) (by omega)) (haL2 hL) (hrLa hL (by omega) (by omega)) (hqL hL (by omega)) a1 (by omega) (by omega) a2 (by omega) (by omega)) ?_
  rintro _ A2 ⟨hA2, rfl⟩
  refine hxa_aload_n (by rfl) rfl ?_
  refine hxa_get (v := .ref (L + 4)) (by rfl) (hsL hL) (by rfl) (hvL hL (by omega)) ?_
  refine hxa_iload_n (by rfl) rfl ?_
  refine hxa_iload_n (by rfl) rfl ?_
  refine hxa_call2 (by rfl) (by decide) (by rfl) (by rfl) (by rfl) (hX25 (d := d + 0) hA2 (C1 := (L + 3)) (hsLa hL (by omega) (by omega)) (haL3 hL) (hrLa hL (by omega) (by omega)) (hqL hL (by omega)) a1 (by omega) (by omega) a2 (by omega) (by omega)) ?_
  rintro _ A3 ⟨hA3, rfl⟩
  refine hxa_aload_n (by rfl) rfl ?_
  refine hxa_get (v := .ref (L + 5)) (by rfl) (hsL hL) (by rfl) (hvL hL (by omega)) ?_
  refine hxa_iload_n (by rfl) rfl ?_
  refine hxa_iload_n (by rfl) rfl ?_
  refine hxa_call2 (by rfl) (by decide) (by rfl) (by rfl) (by rfl) (hX25 (d := d + 0) hA3 (C1 := (L + 4)) (hsLa hL (by omega) (by omega)) (haL4 hL) (hrLa hL (by omega) (by omega)) (hqL hL (by omega)) a1 (by omega) (by omega) a2 (by omega) (by omega)) ?_
  rintro _ A4 ⟨hA4, rfl⟩
  exact hxa_return (by rfl) rfl (hP _ _ ⟨hA4, rfl⟩)
theorem hX24 {d : Nat} {Bn Br : Int} {A0 A : hs_A} (hA : hJ 0 Bn Br A0 A)  {L : Nat} (hL : hLL L) (a1 : Int32) (p1 : 0 ≤ a1.toInt) (q1 : a1.toInt ≤ 9) (a2 : Int32) (p2 : 0 ≤ a2.toInt) (q2 : a2.toInt ≤ 9) : hxC (d + 2) 24 hm_m24 [.ref (L + 1), .int a1, .int a2] A (fun r A' => hJ 0 Bn Br A0 A' ∧ r = none) := hxC.of (by rfl) (hY24 hA hL a1 p1 q1 a2 p2 q2 (fun r A' h => h))
theorem hY28 {d : Nat} {A : hs_A} (a1 : Int32) (a2 : Int32) {P : Option Value → hs_A → Prop} (hP : ∀ (r : Option Value) (A' : hs_A), (A = A' ∧ ∃ z : Int32, r = some (.int z)) → P r A') : hxa (d + 0) (some (.int)) hm_t28 0 [.int a1, .int a2, .retAddr 0] [] A P := by
  refine hxa_iload_n (by rfl) rfl ?_
  refine hxa_iload_n (by rfl) rfl ?_
  refine hxj_ixorU (by rfl) (fun z1 => ?_)
  refine hxa_ldc (by rfl) rfl ?_
  refine hxj_imulU (by rfl) (fun z2 => ?_)
  refine hxa_sipush (by rfl) rfl ?_
  refine hxj_iaddU (by rfl) (fun z3 => ?_)
  refine hxa_s1 (by rfl) (Or.inl ⟨_, rfl, rfl⟩) rfl ?_
  refine hxa_iload_n (by rfl) rfl ?_
  refine hxa_iload_n (by rfl) rfl ?_
  refine hxa_bipush (by rfl) rfl ?_
  refine hxj_iushrU (by rfl) (fun z4 => ?_)
  refine hxj_ixorU (by rfl) (fun z5 => ?_)
  exact hxa_ireturn (by rfl) rfl (hP _ _ ⟨rfl, _, rfl⟩)
theorem hX28 {d : Nat} {A : hs_A} (a1 : Int32) (a2 : Int32) : hxC (d + 1) 28 hm_m28 [.int a1, .int a2] A (fun r A' => A = A' ∧ ∃ z : Int32, r = some (.int z)) := hxC.of (by rfl) (hY28 a1 a2 (fun r A' h => h))
theorem hY27 {d : Nat} {A : hs_A} (a1 : Int32) (a2 : Int32) {P : Option Value → hs_A → Prop} (hP : ∀ (r : Option Value) (A' : hs_A), (A = A' ∧ ∃ z : Int32, r = some (.int z)) → P r A') : hxa (d + 1) (some (.int)) hm_t27 0 [.int a1, .int a2, .retAddr 0] [] A P := by
  have k137 := hk_137
  refine hxa_iload_n (by rfl) rfl ?_
  refine hxa_sipush (by rfl) rfl ?_
  refine hxa_call2 (by rfl) (by decide) (by rfl) (by rfl) (by rfl) (hX28 (d := d + 0)  a1 (Int32.ofNat 137)) ?_
  rintro _ _ ⟨rfl, z1, rfl⟩
  refine hxa_iload_n (by rfl) rfl ?_
  refine hxa_call2 (by rfl) (by decide) (by rfl) (by rfl) (by rfl) (hX28 (d := d + 0)  z1 a2) ?_
  rintro _ _ ⟨rfl, z2, rfl⟩
  refine hxa_s1 (by rfl) (Or.inl ⟨_, rfl, rfl⟩) rfl ?_
  refine hxa_iload_n (by rfl) rfl ?_
  refine hxa_iconst (by rfl) rfl ?_
  refine hxj_iushrU (by rfl) (fun z3 => ?_)
  refine hxa_bipush (by rfl) rfl ?_
  refine hxj_iremU (by rfl) hk_100 (by omega) (fun z4 => ?_)
  exact hxa_ireturn (by rfl) rfl (hP _ _ ⟨rfl, _, rfl⟩)
theorem hX27 {d : Nat} {A : hs_A} (a1 : Int32) (a2 : Int32) : hxC (d + 2) 27 hm_m27 [.int a1, .int a2] A (fun r A' => A = A' ∧ ∃ z : Int32, r = some (.int z)) := hxC.of (by rfl) (hY27 a1 a2 (fun r A' h => h))
theorem hY26 {d : Nat} {Bn Br : Int} {A0 A : hs_A} (hA : hJ 0 Bn Br A0 A)  {L : Nat} (hL : hLL L) {T : Nat} (hT : hTT T) (eT : A0.2.2.2 0 3 = T + 1) (a3 : Int32) (p3 : 0 ≤ a3.toInt) (q3 : a3.toInt ≤ 1) (a4 : Int32) {P : Option Value → hs_A → Prop} (hP : ∀ (r : Option Value) (A' : hs_A), (hJ 0 Bn Br A0 A' ∧ r = none) → P r A') : hxa (d + 3) none hm_t26 0 [.ref (L + 1), .ref (T + 1), .ref 324, .int a3, .int a4, .retAddr 0, .retAddr 0, .retAddr 0] [] A P := by
  have k0 := hk_0
  have L15 : ∀ (m15 : Nat) (x15_5 : Int32) (x15_6 : Int32) (x15_7 : Value) (Ac15 : hs_A) (hAc15 : hJ 0 Bn Br A0 Ac15) (bx15_5 : 0 ≤ x15_5.toInt) (cx15_5 : x15_5.toInt ≤ 255) (bx15_6 : -1 ≤ x15_6.toInt) (cx15_6 : x15_6.toInt ≤ 9) (hm15 : x15_6.toInt - (-1) < (m15 : Int)), hxa (d + 3) none hm_t26 15 [.ref (L + 1), .ref (T + 1), .ref 324, .int a3, .int a4, .int x15_5, .int x15_6, x15_7] [] Ac15 P := by
    intro m15
    induction m15 with
    | zero => intro x15_5 x15_6 x15_7 Ac15 hAc15 bx15_5 cx15_5 bx15_6 cx15_6 hm15;  exact False.elim (by omega)
    | succ m15 ih15 =>
      intro x15_5 x15_6 x15_7 Ac15 hAc15 bx15_5 cx15_5 bx15_6 cx15_6 hm15
      have L69 : ∀ (x69_7 : Int32) (Ac69 : hs_A) (hAc69 : hJ 0 Bn Br A0 Ac69) (bx69_7 : 0 ≤ x69_7.toInt) (cx69_7 : x69_7.toInt ≤ 255) (bx15_6 : 0 ≤ x15_6.toInt), hxa (d + 3) none hm_t26 69 [.ref (L + 1), .ref (T + 1), .ref 324, .int a3, .int a4, .int x15_5, .int x15_6, .int x69_7] [] Ac69 P := by
        intro x69_7 Ac69 hAc69 bx69_7 cx69_7 bx15_6
        refine hxa_aload_n (by rfl) rfl ?_
        refine hxa_get (v := .ref (L + 7)) (by rfl) (hsL hL) (by rfl) (hvL hL (by omega)) ?_
        refine hxa_iload (by rfl) rfl ?_
        refine hxj_iald (by rfl) (hsLa hL (by omega) (by omega)) rfl (by omega) (by omega) (fun z1 ez1 => ?_)
        refine hxj_zle (by rfl) rfl (fun q2 => ?_) (fun q2 => ?_)
        ·
          refine hxa_iload_n (by rfl) rfl ?_
          refine hxj_zeq (by rfl) rfl (fun q3 => ?_) (fun q3 => ?_)
          ·
            refine hxa_aload_n (by rfl) rfl ?_
            refine hxa_iload (by rfl) rfl ?_
            refine hxa_iload (by rfl) rfl ?_
            refine hxa_call0 (by rfl) (by rfl) (by rfl) (hsL hL) (by rfl) (by rfl) (hX23 (d := d + 2) hAc69 hL x15_6 (by omega) (by omega) x69_7 (by omega) (by omega)) ?_
            rintro _ A4 ⟨hA4, rfl⟩
            refine hxj_iinc (by rfl) rfl rfl hk_4294967295 (by omega) (by omega) (fun _ => rfl) (fun z5 ez5 => ?_)
            refine hxa_goto (by rfl) ?_
            exact ih15 x15_5 z5 (.int x69_7) A4 hA4 (by omega) (by omega) (by omega) (by omega) (by omega)
          ·
            refine hxa_iload (by rfl) rfl ?_
            refine hxa_bipush (by rfl) rfl ?_
            refine hxa_aload_n (by rfl) rfl ?_
            refine hxj_getI (by rfl) (hsL hL) (by rfl) (fun z6 ez6 => ?_)
            refine hxj_imulU (by rfl) (fun z7 => ?_)
            refine hxa_iload (by rfl) rfl ?_
            refine hxj_iaddU (by rfl) (fun z8 => ?_)
            refine hxa_call2 (by rfl) (by decide) (by rfl) (by rfl) (by rfl) (hX27 (d := d + 1)  a4 z8) ?_
            rintro _ _ ⟨rfl, z9, rfl⟩
            refine hxa_aload_n (by rfl) rfl ?_
            refine hxa_call0 (by rfl) (by rfl) (by rfl) (by rfl) (by rfl) (by rfl) (hX4 (d := d + 1) hAc69 ) ?_
            rintro _ A10 ⟨hA10, z11, rfl⟩
            have rgz9 := hn_rng z9
            have rgz11 := hn_rng z11
            refine hxj_cge (by rfl) rfl rfl (fun q12 => ?_) (fun q12 => ?_)
            ·
              refine hxa_aload_n (by rfl) rfl ?_
              refine hxa_iload (by rfl) rfl ?_
              refine hxa_iload (by rfl) rfl ?_
              refine hxa_call0 (by rfl) (by rfl) (by rfl) (hsL hL) (by rfl) (by rfl) (hX23 (d := d + 2) hA10 hL x15_6 (by omega) (by omega) x69_7 (by omega) (by omega)) ?_
              rintro _ A13 ⟨hA13, rfl⟩
              refine hxj_iinc (by rfl) rfl rfl hk_4294967295 (by omega) (by omega) (fun _ => rfl) (fun z14 ez14 => ?_)
              refine hxa_goto (by rfl) ?_
              exact ih15 x15_5 z14 (.int x69_7) A13 hA13 (by omega) (by omega) (by omega) (by omega) (by omega)
            ·
              refine hxa_aload_n (by rfl) rfl ?_
              refine hxa_get (v := .ref (L + 7)) (by rfl) (hsL hL) (by rfl) (hvL hL (by omega)) ?_
              refine hxa_iload (by rfl) rfl ?_
              refine hxa_aload_n (by rfl) rfl ?_
              refine hxj_getI (by rfl) (hsT hT) (by rfl) (fun z15 ez15 => ?_)
              refine hxj_iast (by rfl) (hsLa hL (by omega) (by omega)) rfl (by omega) (by omega) hA10 (hbokN (haL6 hL)) (hrLa hL (by omega) (by omega)) (hqL hL (by omega)) (fun A16 hA16 eA16 fA16 gA16 => ?_)
              refine hxa_aload_n (by rfl) rfl ?_
              refine hxa_dupR (by rfl) ?_
              refine hxj_getI (by rfl) (hsL hL) (by rfl) (fun z17 ez17 => ?_)
              refine hxa_iconst (by rfl) rfl ?_
              refine hxj_iaddU (by rfl) (fun z18 => ?_)
              refine hxj_putI (by rfl) (hsL hL) (by rfl) (by rfl) hA16 (hbokN (hbL_10 hL)) (hrL_10 hL) (by rfl) (fun A19 hA19 eA19 fA19 => ?_)
              refine hxa_aload_n (by rfl) rfl ?_
              refine hxa_iload (by rfl) rfl ?_
              refine hxa_iload (by rfl) rfl ?_
              refine hxa_call0 (by rfl) (by rfl) (by rfl) (hsL hL) (by rfl) (by rfl) (hX23 (d := d + 2) hA19 hL x15_6 (by omega) (by omega) x69_7 (by omega) (by omega)) ?_
              rintro _ A20 ⟨hA20, rfl⟩
              refine hxj_iinc (by rfl) rfl rfl hk_4294967295 (by omega) (by omega) (fun _ => rfl) (fun z21 ez21 => ?_)
              refine hxa_goto (by rfl) ?_
              exact ih15 x15_5 z21 (.int x69_7) A20 hA20 (by omega) (by omega) (by omega) (by omega) (by omega)
        ·
          refine hxa_aload_n (by rfl) rfl ?_
          refine hxa_get (v := .ref (L + 7)) (by rfl) (hsL hL) (by rfl) (hvL hL (by omega)) ?_
          refine hxa_iload (by rfl) rfl ?_
          refine hxa_dup2IR (by rfl) ?_
          refine hxj_iald (by rfl) (hsLa hL (by omega) (by omega)) rfl (by omega) (by omega) (fun z22 ez22 => ?_)
          refine hxa_iconst (by rfl) rfl ?_
          refine hxj_isubU (by rfl) (fun z23 => ?_)
          refine hxj_iast (by rfl) (hsLa hL (by omega) (by omega)) rfl (by omega) (by omega) hAc69 (hbokN (haL6 hL)) (hrLa hL (by omega) (by omega)) (hqL hL (by omega)) (fun A24 hA24 eA24 fA24 gA24 => ?_)
          refine hxa_goto (by rfl) ?_
          refine hxa_aload_n (by rfl) rfl ?_
          refine hxa_iload (by rfl) rfl ?_
          refine hxa_iload (by rfl) rfl ?_
          refine hxa_call0 (by rfl) (by rfl) (by rfl) (hsL hL) (by rfl) (by rfl) (hX23 (d := d + 2) hA24 hL x15_6 (by omega) (by omega) x69_7 (by omega) (by omega)) ?_
          rintro _ A25 ⟨hA25, rfl⟩
          refine hxj_iinc (by rfl) rfl rfl hk_4294967295 (by omega) (by omega) (fun _ => rfl) (fun z26 ez26 => ?_)
          refine hxa_goto (by rfl) ?_
          exact ih15 x15_5 z26 (.int x69_7) A25 hA25 (by omega) (by omega) (by omega) (by omega) (by omega)
      refine hxa_iload (by rfl) rfl ?_
      refine hxj_zlt (by rfl) rfl (fun q27 => ?_) (fun q27 => ?_)
      ·
        refine hxa_aload_n (by rfl) rfl ?_
        refine hxa_iconst (by rfl) rfl ?_
        refine hxj_putI (by rfl) (hsL hL) (by rfl) (by rfl) hAc15 (hbok (hbL_8 hL) hk_4294967295 (by omega) (by omega)) (hrL_8 hL) (by rfl) (fun A28 hA28 eA28 fA28 => ?_)
        refine hxa_aload_n (by rfl) rfl ?_
        refine hxa_dupR (by rfl) ?_
        refine hxj_getI (by rfl) (hsL hL) (by rfl) (fun z29 ez29 => ?_)
        refine hxa_iconst (by rfl) rfl ?_
        refine hxj_iaddU (by rfl) (fun z30 => ?_)
        refine hxj_putI (by rfl) (hsL hL) (by rfl) (by rfl) hA28 (hbokN (hbL_7 hL)) (hrL_7 hL) (by rfl) (fun A31 hA31 eA31 fA31 => ?_)
        exact hxa_return (by rfl) rfl (hP _ _ ⟨hA31, rfl⟩)
      ·
        refine hxa_aload_n (by rfl) rfl ?_
        refine hxa_aload_n (by rfl) rfl ?_
        refine hxa_aload_n (by rfl) rfl ?_
        refine hxa_iload (by rfl) rfl ?_
        refine hxa_aload_n (by rfl) rfl ?_
        refine hxj_getI (by rfl) (hsL hL) (by rfl) (fun z32 ez32 => ?_)
        refine hxa_call0 (by rfl) (by rfl) (by rfl) (by rfl) (by rfl) (by rfl) (hX1 (d := d + 1) hAc15 hT eT hL x15_6 (by omega) (by omega) z32) ?_
        rintro _ A33 ⟨hA33, rfl⟩
        refine hxa_iconst (by rfl) rfl ?_
        refine hxa_s1 (by rfl) (Or.inr ⟨_, rfl, rfl⟩) rfl ?_
        refine hxa_aload_n (by rfl) rfl ?_
        refine hxa_iload (by rfl) rfl ?_
        refine hxa_call0 (by rfl) (by rfl) (by rfl) (hsL hL) (by rfl) (by rfl) (hX19 (d := d + 1) hA33 hL x15_6 (by omega) (by omega)) ?_
        rintro _ _ ⟨rfl, z34, rfl, fz34⟩
        refine hxj_zeq (by rfl) rfl (fun q35 => ?_) (fun q35 => ?_)
        ·
          exact L69 (Int32.ofNat 0) A33 hA33 (by omega) (by omega) (by omega)
        ·
          refine hxa_iload (by rfl) rfl ?_
          refine hxj_zne (by rfl) rfl (fun q36 => ?_) (fun q36 => ?_)
          ·
            refine hxa_aload_n (by rfl) rfl ?_
            refine hxa_aload_n (by rfl) rfl ?_
            refine hxa_get (v := .ref (L + 6)) (by rfl) (hsL hL) (by rfl) (hvL hL (by omega)) ?_
            refine hxa_iload (by rfl) rfl ?_
            refine hxa_iconst (by rfl) rfl ?_
            refine hxj_isub (by rfl) rfl hk_1 (by omega) (by omega) (fun z37 ez37 => ?_)
            refine hxj_ialdB (by rfl) (hsLa hL (by omega) (by omega)) rfl (by omega) (by omega) hA33 (haL5 hL) (fun z38 ez38 fz38 gz38 => ?_)
            refine hxa_call0 (by rfl) (by rfl) (by rfl) (by rfl) (by rfl) (by rfl) (hX5 (d := d + 0) hA33 z38) ?_
            rintro _ A39 ⟨hA39, z40, rfl, fz40⟩
            refine hxa_s1 (by rfl) (Or.inr ⟨_, rfl, rfl⟩) rfl ?_
            exact L69 z40 A39 hA39 (by omega) (by omega) (by omega)
          ·
            refine hxa_iload (by rfl) rfl ?_
            refine hxa_goto (by rfl) ?_
            refine hxa_s1 (by rfl) (Or.inr ⟨_, rfl, rfl⟩) rfl ?_
            exact L69 x15_5 A33 hA33 (by omega) (by omega) (by omega)
  refine hxa_aload_n (by rfl) rfl ?_
  refine hxa_aload_n (by rfl) rfl ?_
  refine hxa_call0 (by rfl) (by rfl) (by rfl) (hsL hL) (by rfl) (by rfl) (hX22 (d := d + 1) hA hL hT eT) ?_
  rintro _ _ ⟨rfl, z41, rfl, fz41⟩
  refine hxa_s1 (by rfl) (Or.inr ⟨_, rfl, rfl⟩) rfl ?_
  refine hxa_aload_n (by rfl) rfl ?_
  refine hxj_getB (by rfl) (hsL hL) (by rfl) hA (hbL_6 hL) (fun z42 ez42 fz42 gz42 => ?_)
  refine hxa_iconst (by rfl) rfl ?_
  refine hxj_isub (by rfl) rfl hk_1 (by omega) (by omega) (fun z43 ez43 => ?_)
  refine hxa_s1 (by rfl) (Or.inr ⟨_, rfl, rfl⟩) rfl ?_
  exact L15 (Int.toNat (z43.toInt - (-1)) + 1) z41 z43 (.retAddr 0) A hA (by omega) (by omega) (by omega) (by omega) (by omega)
theorem hX26 {d : Nat} {Bn Br : Int} {A0 A : hs_A} (hA : hJ 0 Bn Br A0 A)  {L : Nat} (hL : hLL L) {T : Nat} (hT : hTT T) (eT : A0.2.2.2 0 3 = T + 1) (a3 : Int32) (p3 : 0 ≤ a3.toInt) (q3 : a3.toInt ≤ 1) (a4 : Int32) : hxC (d + 4) 26 hm_m26 [.ref (L + 1), .ref (T + 1), .ref 324, .int a3, .int a4] A (fun r A' => hJ 0 Bn Br A0 A' ∧ r = none) := hxC.of (by rfl) (hY26 hA hL hT eT a3 p3 q3 a4 (fun r A' h => h))
theorem hY29 {d : Nat} {Bn Br : Int} {A0 A : hs_A} (hA : hJ 0 Bn Br A0 A)  {L : Nat} (hL : hLL L) {P : Option Value → hs_A → Prop} (hP : ∀ (r : Option Value) (A' : hs_A), (A = A' ∧ ∃ z : Int32, r = some (.int z)) → P r A') : hxa (d + 0) (some (.int)) hm_t29 0 [.ref (L + 1), .retAddr 0, .retAddr 0] [] A P := by
  have k0 := hk_0
  have L4 : ∀ (m4 : Nat) (x4_1 : Int32) (x4_2 : Int32) (bx4_2 : 0 ≤ x4_2.toInt) (cx4_2 : x4_2.toInt ≤ 10) (hm4 : 10 - x4_2.toInt < (m4 : Int)), hxa (d + 0) (some (.int)) hm_t29 4 [.ref (L + 1), .int x4_1, .int x4_2] [] A P := by
    intro m4
    induction m4 with
    | zero => intro x4_1 x4_2 bx4_2 cx4_2 hm4; have := hn_rng x4_1; exact False.elim (by omega)
    | succ m4 ih4 =>
      intro x4_1 x4_2 bx4_2 cx4_2 hm4
      refine hxa_iload_n (by rfl) rfl ?_
      refine hxa_aload_n (by rfl) rfl ?_
      refine hxj_getB (by rfl) (hsL hL) (by rfl) hA (hbL_6 hL) (fun z1 ez1 fz1 gz1 => ?_)
      refine hxj_cge (by rfl) rfl rfl (fun q2 => ?_) (fun q2 => ?_)
      ·
        refine hxa_iload_n (by rfl) rfl ?_
        exact hxa_ireturn (by rfl) rfl (hP _ _ ⟨rfl, _, rfl⟩)
      ·
        refine hxa_aload_n (by rfl) rfl ?_
        refine hxa_get (v := .ref (L + 7)) (by rfl) (hsL hL) (by rfl) (hvL hL (by omega)) ?_
        refine hxa_iload_n (by rfl) rfl ?_
        refine hxj_iald (by rfl) (hsLa hL (by omega) (by omega)) rfl (by omega) (by omega) (fun z3 ez3 => ?_)
        refine hxj_zle (by rfl) rfl (fun q4 => ?_) (fun q4 => ?_)
        ·
          refine hxj_iinc (by rfl) rfl rfl hk_1 (by omega) (by omega) (fun _ => rfl) (fun z5 ez5 => ?_)
          refine hxa_goto (by rfl) ?_
          exact ih4 x4_1 z5 (by omega) (by omega) (by omega)
        ·
          refine hxa_iload_n (by rfl) rfl ?_
          refine hxa_iconst (by rfl) rfl ?_
          refine hxa_iload_n (by rfl) rfl ?_
          refine hxj_ishlU (by rfl) (fun z6 => ?_)
          refine hxj_iorU (by rfl) (fun z7 => ?_)
          refine hxa_s1 (by rfl) (Or.inl ⟨_, rfl, rfl⟩) rfl ?_
          refine hxj_iinc (by rfl) rfl rfl hk_1 (by omega) (by omega) (fun _ => rfl) (fun z8 ez8 => ?_)
          refine hxa_goto (by rfl) ?_
          exact ih4 z7 z8 (by omega) (by omega) (by omega)
  refine hxa_iconst (by rfl) rfl ?_
  refine hxa_s1 (by rfl) (Or.inl ⟨_, rfl, rfl⟩) rfl ?_
  refine hxa_iconst (by rfl) rfl ?_
  refine hxa_s1 (by rfl) (Or.inl ⟨_, rfl, rfl⟩) rfl ?_
  exact L4 (Int.toNat (10 - 0) + 1) (Int32.ofNat 0) (Int32.ofNat 0) (by omega) (by omega) (by omega)
theorem hX29 {d : Nat} {Bn Br : Int} {A0 A : hs_A} (hA : hJ 0 Bn Br A0 A)  {L : Nat} (hL : hLL L) : hxC (d + 1) 29 hm_m29 [.ref (L + 1)] A (fun r A' => A = A' ∧ ∃ z : Int32, r = some (.int z)) := hxC.of (by rfl) (hY29 hA hL (fun r A' h => h))
theorem hY30 {d : Nat} {Bn Br : Int} {A0 A : hs_A} (hA : hJ 0 Bn Br A0 A)  {L : Nat} (hL : hLL L) {P : Option Value → hs_A → Prop} (hP : ∀ (r : Option Value) (A' : hs_A), (A = A' ∧ ∃ z : Int32, r = some (.int z)) → P r A') : hxa (d + 1) (some (.int)) hm_t30 0 [.ref (L + 1), .retAddr 0, .retAddr 0] [] A P := by
  have k0 := hk_0
  have L4 : ∀ (m4 : Nat) (x4_1 : Int32) (x4_2 : Int32) (bx4_2 : 0 ≤ x4_2.toInt) (cx4_2 : x4_2.toInt ≤ 10) (hm4 : 10 - x4_2.toInt < (m4 : Int)), hxa (d + 1) (some (.int)) hm_t30 4 [.ref (L + 1), .int x4_1, .int x4_2] [] A P := by
    intro m4
    induction m4 with
    | zero => intro x4_1 x4_2 bx4_2 cx4_2 hm4; have := hn_rng x4_1; exact False.elim (by omega)
    | succ m4 ih4 =>
      intro x4_1 x4_2 bx4_2 cx4_2 hm4
      refine hxa_iload_n (by rfl) rfl ?_
      refine hxa_aload_n (by rfl) rfl ?_
      refine hxj_getB (by rfl) (hsL hL) (by rfl) hA (hbL_6 hL) (fun z1 ez1 fz1 gz1 => ?_)
      refine hxj_cge (by rfl) rfl rfl (fun q2 => ?_) (fun q2 => ?_)
      ·
        refine hxa_iload_n (by rfl) rfl ?_
        exact hxa_ireturn (by rfl) rfl (hP _ _ ⟨rfl, _, rfl⟩)
      ·
        refine hxa_aload_n (by rfl) rfl ?_
        refine hxa_iload_n (by rfl) rfl ?_
        refine hxa_call0 (by rfl) (by rfl) (by rfl) (hsL hL) (by rfl) (by rfl) (hX21 (d := d + 0) hA hL x4_2 (by omega) (by omega)) ?_
        rintro _ _ ⟨rfl, z3, rfl⟩
        refine hxj_zne (by rfl) rfl (fun q4 => ?_) (fun q4 => ?_)
        ·
          refine hxj_iinc (by rfl) rfl rfl hk_1 (by omega) (by omega) (fun _ => rfl) (fun z5 ez5 => ?_)
          refine hxa_goto (by rfl) ?_
          exact ih4 x4_1 z5 (by omega) (by omega) (by omega)
        ·
          refine hxa_iload_n (by rfl) rfl ?_
          refine hxa_iconst (by rfl) rfl ?_
          refine hxa_iload_n (by rfl) rfl ?_
          refine hxj_ishlU (by rfl) (fun z6 => ?_)
          refine hxj_iorU (by rfl) (fun z7 => ?_)
          refine hxa_s1 (by rfl) (Or.inl ⟨_, rfl, rfl⟩) rfl ?_
          refine hxj_iinc (by rfl) rfl rfl hk_1 (by omega) (by omega) (fun _ => rfl) (fun z8 ez8 => ?_)
          refine hxa_goto (by rfl) ?_
          exact ih4 z7 z8 (by omega) (by omega) (by omega)
  refine hxa_iconst (by rfl) rfl ?_
  refine hxa_s1 (by rfl) (Or.inl ⟨_, rfl, rfl⟩) rfl ?_
  refine hxa_iconst (by rfl) rfl ?_
  refine hxa_s1 (by rfl) (Or.inl ⟨_, rfl, rfl⟩) rfl ?_
  exact L4 (Int.toNat (10 - 0) + 1) (Int32.ofNat 0) (Int32.ofNat 0) (by omega) (by omega) (by omega)
theorem hX30 {d : Nat} {Bn Br : Int} {A0 A : hs_A} (hA : hJ 0 Bn Br A0 A)  {L : Nat} (hL : hLL L) : hxC (d + 2) 30 hm_m30 [.ref (L + 1)] A (fun r A' => A = A' ∧ ∃ z : Int32, r = some (.int z)) := hxC.of (by rfl) (hY30 hA hL (fun r A' h => h))
theorem hY31 {d : Nat} {Bn Br : Int} {A0 A : hs_A} (hA : hJ 0 Bn Br A0 A)  {L : Nat} (hL : hLL L) {P : Option Value → hs_A → Prop} (hP : ∀ (r : Option Value) (A' : hs_A), (A = A' ∧ ∃ z : Int32, r = some (.int z)) → P r A') : hxa (d + 0) (some (.int)) hm_t31 0 [.ref (L + 1), .retAddr 0, .retAddr 0] [] A P := by
  have k0 := hk_0
  have L4 : ∀ (m4 : Nat) (x4_1 : Int32) (x4_2 : Int32) (bx4_2 : 0 ≤ x4_2.toInt) (cx4_2 : x4_2.toInt ≤ 10) (hm4 : 10 - x4_2.toInt < (m4 : Int)), hxa (d + 0) (some (.int)) hm_t31 4 [.ref (L + 1), .int x4_1, .int x4_2] [] A P := by
    intro m4
    induction m4 with
    | zero => intro x4_1 x4_2 bx4_2 cx4_2 hm4; have := hn_rng x4_1; exact False.elim (by omega)
    | succ m4 ih4 =>
      intro x4_1 x4_2 bx4_2 cx4_2 hm4
      refine hxa_iload_n (by rfl) rfl ?_
      refine hxa_aload_n (by rfl) rfl ?_
      refine hxj_getB (by rfl) (hsL hL) (by rfl) hA (hbL_6 hL) (fun z1 ez1 fz1 gz1 => ?_)
      refine hxj_cge (by rfl) rfl rfl (fun q2 => ?_) (fun q2 => ?_)
      ·
        refine hxa_iload_n (by rfl) rfl ?_
        exact hxa_ireturn (by rfl) rfl (hP _ _ ⟨rfl, _, rfl⟩)
      ·
        refine hxa_aload_n (by rfl) rfl ?_
        refine hxa_get (v := .ref (L + 6)) (by rfl) (hsL hL) (by rfl) (hvL hL (by omega)) ?_
        refine hxa_iload_n (by rfl) rfl ?_
        refine hxj_ialdB (by rfl) (hsLa hL (by omega) (by omega)) rfl (by omega) (by omega) hA (haL5 hL) (fun z3 ez3 fz3 gz3 => ?_)
        refine hxj_zeq (by rfl) rfl (fun q4 => ?_) (fun q4 => ?_)
        ·
          refine hxj_iinc (by rfl) rfl rfl hk_1 (by omega) (by omega) (fun _ => rfl) (fun z5 ez5 => ?_)
          refine hxa_goto (by rfl) ?_
          exact ih4 x4_1 z5 (by omega) (by omega) (by omega)
        ·
          refine hxa_iload_n (by rfl) rfl ?_
          refine hxa_iconst (by rfl) rfl ?_
          refine hxa_iload_n (by rfl) rfl ?_
          refine hxj_ishlU (by rfl) (fun z6 => ?_)
          refine hxj_iorU (by rfl) (fun z7 => ?_)
          refine hxa_s1 (by rfl) (Or.inl ⟨_, rfl, rfl⟩) rfl ?_
          refine hxj_iinc (by rfl) rfl rfl hk_1 (by omega) (by omega) (fun _ => rfl) (fun z8 ez8 => ?_)
          refine hxa_goto (by rfl) ?_
          exact ih4 z7 z8 (by omega) (by omega) (by omega)
  refine hxa_iconst (by rfl) rfl ?_
  refine hxa_s1 (by rfl) (Or.inl ⟨_, rfl, rfl⟩) rfl ?_
  refine hxa_iconst (by rfl) rfl ?_
  refine hxa_s1 (by rfl) (Or.inl ⟨_, rfl, rfl⟩) rfl ?_
  exact L4 (Int.toNat (10 - 0) + 1) (Int32.ofNat 0) (Int32.ofNat 0) (by omega) (by omega) (by omega)
theorem hX31 {d : Nat} {Bn Br : Int} {A0 A : hs_A} (hA : hJ 0 Bn Br A0 A)  {L : Nat} (hL : hLL L) : hxC (d + 1) 31 hm_m31 [.ref (L + 1)] A (fun r A' => A = A' ∧ ∃ z : Int32, r = some (.int z)) := hxC.of (by rfl) (hY31 hA hL (fun r A' h => h))
theorem hY32 {d : Nat} {Bn Br : Int} {A0 A : hs_A} (hA : hJ 0 Bn Br A0 A)  {L : Nat} (hL : hLL L) {P : Option Value → hs_A → Prop} (hP : ∀ (r : Option Value) (A' : hs_A), (A = A' ∧ ∃ z : Int32, r = some (.int z)) → P r A') : hxa (d + 0) (some (.int)) hm_t32 0 [.ref (L + 1), .retAddr 0, .retAddr 0] [] A P := by
  have k0 := hk_0
  have L4 : ∀ (m4 : Nat) (x4_1 : Int32) (x4_2 : Int32) (bx4_2 : 0 ≤ x4_2.toInt) (cx4_2 : x4_2.toInt ≤ 10) (hm4 : 10 - x4_2.toInt < (m4 : Int)), hxa (d + 0) (some (.int)) hm_t32 4 [.ref (L + 1), .int x4_1, .int x4_2] [] A P := by
    intro m4
    induction m4 with
    | zero => intro x4_1 x4_2 bx4_2 cx4_2 hm4; have := hn_rng x4_1; exact False.elim (by omega)
    | succ m4 ih4 =>
      intro x4_1 x4_2 bx4_2 cx4_2 hm4
      refine hxa_iload_n (by rfl) rfl ?_
      refine hxa_aload_n (by rfl) rfl ?_
      refine hxj_getB (by rfl) (hsL hL) (by rfl) hA (hbL_6 hL) (fun z1 ez1 fz1 gz1 => ?_)
      refine hxj_cge (by rfl) rfl rfl (fun q2 => ?_) (fun q2 => ?_)
      ·
        refine hxa_iload_n (by rfl) rfl ?_
        exact hxa_ireturn (by rfl) rfl (hP _ _ ⟨rfl, _, rfl⟩)
      ·
        refine hxa_aload_n (by rfl) rfl ?_
        refine hxa_get (v := .ref (L + 5)) (by rfl) (hsL hL) (by rfl) (hvL hL (by omega)) ?_
        refine hxa_iload_n (by rfl) rfl ?_
        refine hxj_iald (by rfl) (hsLa hL (by omega) (by omega)) rfl (by omega) (by omega) (fun z3 ez3 => ?_)
        refine hxa_iload_n (by rfl) rfl ?_
        refine hxj_ceq (by rfl) rfl rfl (fun q4 => ?_) (fun q4 => ?_)
        ·
          refine hxj_iinc (by rfl) rfl rfl hk_1 (by omega) (by omega) (fun _ => rfl) (fun z5 ez5 => ?_)
          refine hxa_goto (by rfl) ?_
          exact ih4 x4_1 z5 (by omega) (by omega) (by omega)
        ·
          refine hxa_iload_n (by rfl) rfl ?_
          refine hxa_iconst (by rfl) rfl ?_
          refine hxa_iload_n (by rfl) rfl ?_
          refine hxj_ishlU (by rfl) (fun z6 => ?_)
          refine hxj_iorU (by rfl) (fun z7 => ?_)
          refine hxa_s1 (by rfl) (Or.inl ⟨_, rfl, rfl⟩) rfl ?_
          refine hxj_iinc (by rfl) rfl rfl hk_1 (by omega) (by omega) (fun _ => rfl) (fun z8 ez8 => ?_)
          refine hxa_goto (by rfl) ?_
          exact ih4 z7 z8 (by omega) (by omega) (by omega)
  refine hxa_iconst (by rfl) rfl ?_
  refine hxa_s1 (by rfl) (Or.inl ⟨_, rfl, rfl⟩) rfl ?_
  refine hxa_iconst (by rfl) rfl ?_
  refine hxa_s1 (by rfl) (Or.inl ⟨_, rfl, rfl⟩) rfl ?_
  exact L4 (Int.toNat (10 - 0) + 1) (Int32.ofNat 0) (Int32.ofNat 0) (by omega) (by omega) (by omega)
theorem hX32 {d : Nat} {Bn Br : Int} {A0 A : hs_A} (hA : hJ 0 Bn Br A0 A)  {L : Nat} (hL : hLL L) : hxC (d + 1) 32 hm_m32 [.ref (L + 1)] A (fun r A' => A = A' ∧ ∃ z : Int32, r = some (.int z)) := hxC.of (by rfl) (hY32 hA hL (fun r A' h => h))
theorem hY34 {d : Nat} {Bn Br : Int} {A0 A : hs_A} (hA : hJ 0 Bn Br A0 A)  {L : Nat} (hL : hLL L) {P : Option Value → hs_A → Prop} (hP : ∀ (r : Option Value) (A' : hs_A), (hJ 0 Bn Br A0 A' ∧ r = none) → P r A') : hxa (d + 1) none hm_t34 0 [.ref 41, .ref (L + 1)] [] A P := by
  refine hxa_aload_n (by rfl) rfl ?_
  refine hxa_get (v := .ref 42) (by rfl) (by rfl) (by rfl) rfl ?_
  refine hxa_aload_n (by rfl) rfl ?_
  refine hxj_getB (by rfl) (by rfl) (by rfl) hA (by rfl) (fun z1 ez1 fz1 gz1 => ?_)
  refine hxa_aload_n (by rfl) rfl ?_
  refine hxj_getB (by rfl) (by rfl) (by rfl) hA (by rfl) (fun z2 ez2 fz2 gz2 => ?_)
  refine hxj_iadd (by rfl) rfl rfl (by omega) (by omega) (fun z3 ez3 => ?_)
  refine hxa_bipush (by rfl) rfl ?_
  refine hxj_iremP (by rfl) rfl hk_40 (by omega) (by omega) (fun z4 ez4 => ?_)
  obtain ⟨L5, hL5, eL5⟩ := haa_lives (j := z4) rfl (by omega) (by omega)
  refine hxa_aald (by rfl) (Or.inl rfl) (by rfl) (hn_ix0 rfl (by omega)) eL5 ?_
  refine hxa_aload_n (by rfl) rfl ?_
  refine hxa_call0 (by rfl) (by rfl) (by rfl) (hsL hL5) (by rfl) (by rfl) (hX17 (d := d + 0) hA hL5 hL) ?_
  rintro _ A6 ⟨hA6, rfl⟩
  refine hxa_aload_n (by rfl) rfl ?_
  refine hxj_getB (by rfl) (by rfl) (by rfl) hA6 (by rfl) (fun z7 ez7 fz7 gz7 => ?_)
  refine hxa_bipush (by rfl) rfl ?_
  refine hxj_cge (by rfl) rfl hk_40 (fun q8 => ?_) (fun q8 => ?_)
  ·
    refine hxa_aload_n (by rfl) rfl ?_
    refine hxa_aload_n (by rfl) rfl ?_
    refine hxj_getB (by rfl) (by rfl) (by rfl) hA6 (by rfl) (fun z9 ez9 fz9 gz9 => ?_)
    refine hxa_iconst (by rfl) rfl ?_
    refine hxj_iadd (by rfl) rfl hk_1 (by omega) (by omega) (fun z10 ez10 => ?_)
    refine hxa_bipush (by rfl) rfl ?_
    refine hxj_iremP (by rfl) rfl hk_40 (by omega) (by omega) (fun z11 ez11 => ?_)
    refine hxj_putI (by rfl) (by rfl) (by rfl) (by rfl) hA6 (hbok (by rfl) rfl (by omega) (by omega)) (by rfl) (by rfl) (fun A12 hA12 eA12 fA12 => ?_)
    exact hxa_return (by rfl) rfl (hP _ _ ⟨hA12, rfl⟩)
  ·
    refine hxa_aload_n (by rfl) rfl ?_
    refine hxa_dupR (by rfl) ?_
    refine hxj_getK (by rfl) (by rfl) (by rfl) ez7 ?_
    refine hxa_iconst (by rfl) rfl ?_
    refine hxj_iadd (by rfl) rfl hk_1 (by omega) (by omega) (fun z13 ez13 => ?_)
    refine hxj_putI (by rfl) (by rfl) (by rfl) (by rfl) hA6 (hbok (by rfl) rfl (by omega) (by omega)) (by rfl) (by rfl) (fun A14 hA14 eA14 fA14 => ?_)
    refine hxa_goto (by rfl) ?_
    exact hxa_return (by rfl) rfl (hP _ _ ⟨hA14, rfl⟩)
theorem hX34 {d : Nat} {Bn Br : Int} {A0 A : hs_A} (hA : hJ 0 Bn Br A0 A)  {L : Nat} (hL : hLL L) : hxC (d + 2) 34 hm_m34 [.ref 41, .ref (L + 1)] A (fun r A' => hJ 0 Bn Br A0 A' ∧ r = none) := hxC.of (by rfl) (hY34 hA hL (fun r A' h => h))
