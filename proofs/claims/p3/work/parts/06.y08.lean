theorem hY196 {d : Nat} {A : hs_A} (a1 : Int32) {P : Option Value → hs_A → Prop} (hP : ∀ (r : Option Value) (A' : hs_A), (A = A' ∧ ∃ z : Int32, r = some (.int z) ∧ ((z.toInt = 1 ∧ 0 ≤ a1.toInt ∧ a1.toInt ≤ 72) ∨ (z.toInt = 0))) → P r A') : hxa (d + 1) (some (.boolean)) hm_t196 0 [.int a1] [] A P := by
  have k0 := hk_0
  have k72 := hk_72
  refine hxa_iload_n (by rfl) rfl ?_
  refine hxa_iconst (by rfl) rfl ?_
  refine hxa_bipush (by rfl) rfl ?_
  refine hxa_call2 (by rfl) (by decide) (by rfl) (by rfl) (by rfl) (hX164 (d := d + 0)  a1 (Int32.ofNat 0) (Int32.ofNat 72)) ?_
  rintro _ _ ⟨rfl, z1, rfl, fz1⟩
  rcases fz1 with fz1 | fz1
  ·
    exact hxa_ireturn (by rfl) (hn_fitB (by omega) (by omega)) (hP _ _ ⟨rfl, _, rfl, by omega⟩)
  ·
    exact hxa_ireturn (by rfl) (hn_fitB (by omega) (by omega)) (hP _ _ ⟨rfl, _, rfl, by omega⟩)
theorem hX196 {d : Nat} {A : hs_A} (a1 : Int32) : hxC (d + 2) 196 hm_m196 [.int a1] A (fun r A' => A = A' ∧ ∃ z : Int32, r = some (.int z) ∧ ((z.toInt = 1 ∧ 0 ≤ a1.toInt ∧ a1.toInt ≤ 72) ∨ (z.toInt = 0))) := hxC.of (by rfl) (hY196 a1 (fun r A' h => h))
theorem hY197 {d : Nat} {A : hs_A} (a1 : Int32) {P : Option Value → hs_A → Prop} (hP : ∀ (r : Option Value) (A' : hs_A), (A = A' ∧ ∃ z : Int32, r = some (.int z) ∧ ((z.toInt = 1 ∧ 1 ≤ a1.toInt ∧ a1.toInt ≤ 72) ∨ (z.toInt = 0))) → P r A') : hxa (d + 1) (some (.boolean)) hm_t197 0 [.int a1] [] A P := by
  have k1 := hk_1
  have k72 := hk_72
  refine hxa_iload_n (by rfl) rfl ?_
  refine hxa_iconst (by rfl) rfl ?_
  refine hxa_bipush (by rfl) rfl ?_
  refine hxa_call2 (by rfl) (by decide) (by rfl) (by rfl) (by rfl) (hX164 (d := d + 0)  a1 (Int32.ofNat 1) (Int32.ofNat 72)) ?_
  rintro _ _ ⟨rfl, z1, rfl, fz1⟩
  rcases fz1 with fz1 | fz1
  ·
    exact hxa_ireturn (by rfl) (hn_fitB (by omega) (by omega)) (hP _ _ ⟨rfl, _, rfl, by omega⟩)
  ·
    exact hxa_ireturn (by rfl) (hn_fitB (by omega) (by omega)) (hP _ _ ⟨rfl, _, rfl, by omega⟩)
theorem hX197 {d : Nat} {A : hs_A} (a1 : Int32) : hxC (d + 2) 197 hm_m197 [.int a1] A (fun r A' => A = A' ∧ ∃ z : Int32, r = some (.int z) ∧ ((z.toInt = 1 ∧ 1 ≤ a1.toInt ∧ a1.toInt ≤ 72) ∨ (z.toInt = 0))) := hxC.of (by rfl) (hY197 a1 (fun r A' h => h))
theorem hY199 {d : Nat} {N : Int} {A0 A : hs_A} (hA : hJ N (N + 72) A0 A) (hN : N ≤ 900000)  {P : Option Value → hs_A → Prop} (hP : ∀ (r : Option Value) (A' : hs_A), (hJ (N + 72) (N + 144) A0 A' ∧ ∃ z : Int32, r = some (.int z) ∧ ((0 ≤ z.toInt ∧ z.toInt ≤ 1))) → P r A') : hxa (d + 0) (some (.boolean)) hm_t199 0 [.ref 368, .retAddr 0] [] A P := by
  have k0 := hk_0
  have k1 := hk_1
  have L21 : ∀ (m21 : Nat) (w21_0 : Int32) (x21_1 : Int32) (A21 : hs_A) (hA21 : hJ N (N + 72) A0 A21) (ek21_0 : A21.1 367 51 = w21_0) (bx21_1 : 0 ≤ x21_1.toInt) (cx21_1 : x21_1.toInt ≤ 73) (bw21_0 : 0 ≤ w21_0.toInt) (cw21_0 : w21_0.toInt ≤ 39) (hm21 : 73 - x21_1.toInt < (m21 : Int)), hxa (d + 0) (some (.boolean)) hm_t199 21 [.ref 368, .int x21_1] [] A21 P := by
    intro m21
    induction m21 with
    | zero => intro w21_0 x21_1 A21 hA21 ek21_0 bx21_1 cx21_1 bw21_0 cw21_0 hm21;  exact False.elim (by omega)
    | succ m21 ih21 =>
      intro w21_0 x21_1 A21 hA21 ek21_0 bx21_1 cx21_1 bw21_0 cw21_0 hm21
      refine hxa_iload_n (by rfl) rfl ?_
      refine hxa_bipush (by rfl) rfl ?_
      refine hxj_cge (by rfl) rfl hk_73 (fun q1 => ?_) (fun q1 => ?_)
      ·
        refine hxa_iconst (by rfl) rfl ?_
        exact hxa_ireturn (by rfl) (by rfl) (hP _ _ ⟨(hJ.mono hA21 (by omega) (by omega)), _, rfl, by omega⟩)
      ·
        refine hxa_aload_n (by rfl) rfl ?_
        refine hxa_get (v := .ref 396) (by rfl) (by rfl) (by rfl) rfl ?_
        refine hxa_iload_n (by rfl) rfl ?_
        refine hxa_aload_n (by rfl) rfl ?_
        refine hxa_get (v := .ref 400) (by rfl) (by rfl) (by rfl) rfl ?_
        refine hxa_bipush (by rfl) rfl ?_
        refine hxa_aload_n (by rfl) rfl ?_
        refine hxj_getK (by rfl) (by rfl) (by rfl) ek21_0 ?_
        refine hxj_imul (by rfl) hk_73 rfl (by omega) (by omega) (fun z2 ez2 => ?_)
        refine hxa_iload_n (by rfl) rfl ?_
        refine hxj_iadd (by rfl) rfl rfl (by omega) (by omega) (fun z3 ez3 => ?_)
        refine hxj_iald399 (by rfl) rfl (by omega) (by omega) hA21 (fun z4 ez4 fz4 => ?_)
        refine hxj_iast395 (by rfl) rfl (by omega) (by omega) rfl hA21 (by omega) (fun A5 hA5 eA5 fA5 gA5 => ?_)
        refine hxj_iinc (by rfl) rfl rfl hk_1 (by omega) (by omega) (fun _ => rfl) (fun z6 ez6 => ?_)
        refine hxa_goto (by rfl) ?_
        exact ih21 w21_0 z6 A5 hA5 (hkA eA5 ek21_0) (by omega) (by omega) (by omega) (by omega) (by omega)
  refine hxa_aload_n (by rfl) rfl ?_
  refine hxj_getB (by rfl) (by rfl) (by rfl) hA (by rfl) (fun z7 ez7 fz7 gz7 => ?_)
  refine hxj_zne (by rfl) rfl (fun q8 => ?_) (fun q8 => ?_)
  ·
    refine hxa_aload_n (by rfl) rfl ?_
    refine hxa_dupR (by rfl) ?_
    refine hxj_getK (by rfl) (by rfl) (by rfl) ez7 ?_
    refine hxa_iconst (by rfl) rfl ?_
    refine hxj_isub (by rfl) rfl hk_1 (by omega) (by omega) (fun z9 ez9 => ?_)
    refine hxj_putI (by rfl) (by rfl) (by rfl) (by rfl) hA (hbok (by rfl) rfl (by omega) (by omega)) (by rfl) (fun A10 hA10 eA10 fA10 => ?_)
    refine hxa_iconst (by rfl) rfl ?_
    refine hxa_s1 (by rfl) (Or.inl ⟨_, rfl, rfl⟩) rfl ?_
    exact L21 (Int.toNat (73 - 0) + 1) z9 (Int32.ofNat 0) A10 hA10 (hkS eA10) (by omega) (by omega) (by omega) (by omega) (by omega)
  ·
    refine hxa_iconst (by rfl) rfl ?_
    exact hxa_ireturn (by rfl) (by rfl) (hP _ _ ⟨(hJ.mono hA (by omega) (by omega)), _, rfl, by omega⟩)
theorem hX199 {d : Nat} {N : Int} {A0 A : hs_A} (hA : hJ N (N + 72) A0 A) (hN : N ≤ 900000)  : hxC (d + 1) 199 hm_m199 [.ref 368] A (fun r A' => hJ (N + 72) (N + 144) A0 A' ∧ ∃ z : Int32, r = some (.int z) ∧ ((0 ≤ z.toInt ∧ z.toInt ≤ 1))) := hxC.of (by rfl) (hY199 hA hN (fun r A' h => h))
theorem hY200 {d : Nat} {Bn Br : Int} {A0 A : hs_A} (hA : hJ Bn Br A0 A)  (a1 : Int32) (q1 : a1.toInt ≤ 9) {P : Option Value → hs_A → Prop} (hP : ∀ (r : Option Value) (A' : hs_A), (A = A' ∧ ∃ z : Int32, r = some (.int z)) → P r A') : hxa (d + 1) (some (.int)) hm_t200 0 [.ref 368, .int a1, .retAddr 0] [] A P := by
  have k0 := hk_0
  have k4294967294 := hk_4294967294
  have L2 : ∀ (m2 : Nat) (x2_2 : Int32) (bx2_2 : 0 ≤ x2_2.toInt) (cx2_2 : x2_2.toInt ≤ 10) (hm2 : 10 - x2_2.toInt < (m2 : Int)), hxa (d + 1) (some (.int)) hm_t200 2 [.ref 368, .int a1, .int x2_2] [] A P := by
    intro m2
    induction m2 with
    | zero => intro x2_2 bx2_2 cx2_2 hm2;  exact False.elim (by omega)
    | succ m2 ih2 =>
      intro x2_2 bx2_2 cx2_2 hm2
      refine hxa_iload_n (by rfl) rfl ?_
      refine hxa_iload_n (by rfl) rfl ?_
      have rga1 := hn_rng a1
      refine hxj_cgt (by rfl) rfl rfl (fun q1 => ?_) (fun q1 => ?_)
      ·
        refine hxa_bipush (by rfl) rfl ?_
        exact hxa_ireturn (by rfl) rfl (hP _ _ ⟨rfl, _, rfl⟩)
      ·
        refine hxa_aload_n (by rfl) rfl ?_
        refine hxa_iload_n (by rfl) rfl ?_
        refine hxa_call0 (by rfl) (by rfl) (by rfl) (by rfl) (by rfl) (by rfl) (hX182 (d := d + 0) hA x2_2 (by omega) (by omega)) ?_
        rintro _ _ ⟨rfl, z2, rfl, fz2⟩
        refine hxj_zne (by rfl) rfl (fun q3 => ?_) (fun q3 => ?_)
        ·
          refine hxj_iinc (by rfl) rfl rfl hk_1 (by omega) (by omega) (fun _ => rfl) (fun z4 ez4 => ?_)
          refine hxa_goto (by rfl) ?_
          exact ih2 z4 (by omega) (by omega) (by omega)
        ·
          refine hxa_iload_n (by rfl) rfl ?_
          exact hxa_ireturn (by rfl) rfl (hP _ _ ⟨rfl, _, rfl⟩)
  refine hxa_iconst (by rfl) rfl ?_
  refine hxa_s1 (by rfl) (Or.inl ⟨_, rfl, rfl⟩) rfl ?_
  exact L2 (Int.toNat (10 - 0) + 1) (Int32.ofNat 0) (by omega) (by omega) (by omega)
theorem hX200 {d : Nat} {Bn Br : Int} {A0 A : hs_A} (hA : hJ Bn Br A0 A)  (a1 : Int32) (q1 : a1.toInt ≤ 9) : hxC (d + 2) 200 hm_m200 [.ref 368, .int a1] A (fun r A' => A = A' ∧ ∃ z : Int32, r = some (.int z)) := hxC.of (by rfl) (hY200 hA a1 q1 (fun r A' h => h))
theorem hY215 {d : Nat} {Bn Br : Int} {A0 A : hs_A} (hA : hJ Bn Br A0 A)  (a1 : Int32) {P : Option Value → hs_A → Prop} (hP : ∀ (r : Option Value) (A' : hs_A), (hJ Bn Br A0 A' ∧ ∃ z : Int32, r = some (.int z) ∧ ((0 ≤ z.toInt ∧ z.toInt ≤ 4))) → P r A') : hxa (d + 0) (some (.int)) hm_t215 0 [.ref 368, .int a1, .retAddr 0, .retAddr 0] [] A P := by
  have k0 := hk_0
  have k1 := hk_1
  have k2 := hk_2
  have k3 := hk_3
  have k4 := hk_4
  have L112 : ∀ (m112 : Nat) (x112_2 : Int32) (A112 : hs_A) (hA112 : hJ Bn Br A0 A112) (bx112_2 : 0 ≤ x112_2.toInt) (cx112_2 : x112_2.toInt ≤ 13824) (hm112 : 13824 - x112_2.toInt < (m112 : Int)), hxa (d + 0) (some (.int)) hm_t215 112 [.ref 368, .int a1, .int x112_2, x44_3] [] A112 P := by
    intro m112
    induction m112 with
    | zero => intro x112_2 A112 hA112 bx112_2 cx112_2 hm112;  exact False.elim (by omega)
    | succ m112 ih112 =>
      intro x112_2 A112 hA112 bx112_2 cx112_2 hm112
      refine hxa_iload_n (by rfl) rfl ?_
      refine hxa_sipush (by rfl) rfl ?_
      refine hxj_cge (by rfl) rfl hk_13824 (fun q1 => ?_) (fun q1 => ?_)
      ·
        refine hxa_iconst (by rfl) rfl ?_
        exact hxa_ireturn (by rfl) rfl (hP _ _ ⟨hA112, _, rfl, by omega⟩)
      ·
        refine hxa_aload_n (by rfl) rfl ?_
        refine hxa_get (v := .ref 405) (by rfl) (by rfl) (by rfl) rfl ?_
        refine hxa_iconst (by rfl) rfl ?_
        refine hxa_iload_n (by rfl) rfl ?_
        refine hxa_sipush (by rfl) rfl ?_
        refine hxj_idivP (by rfl) rfl hk_576 (by omega) (by omega) (fun z2 ez2 => ?_)
        refine hxj_iast (by rfl) (by rfl) hk_0 (by omega) (by omega) hA112 (hbok (by rfl) rfl (by omega) (by omega)) (by rfl) (by rfl) (fun A3 hA3 eA3 fA3 gA3 => ?_)
        refine hxa_aload_n (by rfl) rfl ?_
        refine hxa_get (v := .ref 405) (by rfl) (by rfl) (by rfl) rfl ?_
        refine hxa_iconst (by rfl) rfl ?_
        refine hxa_iload_n (by rfl) rfl ?_
        refine hxa_bipush (by rfl) rfl ?_
        refine hxj_idivP (by rfl) rfl hk_24 (by omega) (by omega) (fun z4 ez4 => ?_)
        refine hxa_bipush (by rfl) rfl ?_
        refine hxj_iremP (by rfl) rfl hk_24 (by omega) (by omega) (fun z5 ez5 => ?_)
        refine hxj_iast (by rfl) (by rfl) hk_1 (by omega) (by omega) hA3 (hbok (by rfl) rfl (by omega) (by omega)) (by rfl) (by rfl) (fun A6 hA6 eA6 fA6 gA6 => ?_)
        refine hxa_aload_n (by rfl) rfl ?_
        refine hxa_get (v := .ref 405) (by rfl) (by rfl) (by rfl) rfl ?_
        refine hxa_iconst (by rfl) rfl ?_
        refine hxa_iload_n (by rfl) rfl ?_
        refine hxa_bipush (by rfl) rfl ?_
        refine hxj_iremP (by rfl) rfl hk_24 (by omega) (by omega) (fun z7 ez7 => ?_)
        refine hxj_iast (by rfl) (by rfl) hk_2 (by omega) (by omega) hA6 (hbok (by rfl) rfl (by omega) (by omega)) (by rfl) (by rfl) (fun A8 hA8 eA8 fA8 gA8 => ?_)
        refine hxa_aload_n (by rfl) rfl ?_
        refine hxa_get (v := .ref 405) (by rfl) (by rfl) (by rfl) rfl ?_
        refine hxa_iconst (by rfl) rfl ?_
        refine hxj_ialdB (by rfl) (by rfl) hk_0 (by omega) (by omega) hA8 (by rfl) (fun z9 ez9 fz9 gz9 => ?_)
        refine hxa_aload_n (by rfl) rfl ?_
        refine hxa_get (v := .ref 405) (by rfl) (by rfl) (by rfl) rfl ?_
        refine hxa_iconst (by rfl) rfl ?_
        refine hxj_ialdB (by rfl) (by rfl) hk_1 (by omega) (by omega) hA8 (by rfl) (fun z10 ez10 fz10 gz10 => ?_)
        refine hxj_cge (by rfl) rfl rfl (fun q11 => ?_) (fun q11 => ?_)
        ·
          refine hxj_iinc (by rfl) rfl rfl hk_1 (by omega) (by omega) (fun _ => rfl) (fun z12 ez12 => ?_)
          refine hxa_goto (by rfl) ?_
          exact ih112 z12 A8 hA8 (by omega) (by omega) (by omega)
        ·
          refine hxa_aload_n (by rfl) rfl ?_
          refine hxa_get (v := .ref 405) (by rfl) (by rfl) (by rfl) rfl ?_
          refine hxa_iconst (by rfl) rfl ?_
          refine hxj_ialdB (by rfl) (by rfl) hk_1 (by omega) (by omega) hA8 (by rfl) (fun z13 ez13 fz13 gz13 => ?_)
          refine hxa_aload_n (by rfl) rfl ?_
          refine hxa_get (v := .ref 405) (by rfl) (by rfl) (by rfl) rfl ?_
          refine hxa_iconst (by rfl) rfl ?_
          refine hxj_ialdB (by rfl) (by rfl) hk_2 (by omega) (by omega) hA8 (by rfl) (fun z14 ez14 fz14 gz14 => ?_)
          refine hxj_cge (by rfl) rfl rfl (fun q15 => ?_) (fun q15 => ?_)
          ·
            refine hxj_iinc (by rfl) rfl rfl hk_1 (by omega) (by omega) (fun _ => rfl) (fun z16 ez16 => ?_)
            refine hxa_goto (by rfl) ?_
            exact ih112 z16 A8 hA8 (by omega) (by omega) (by omega)
          ·
            refine hxa_iload_n (by rfl) rfl ?_
            refine hxa_aload_n (by rfl) rfl ?_
            refine hxa_get (v := .ref 404) (by rfl) (by rfl) (by rfl) rfl ?_
            refine hxa_aload_n (by rfl) rfl ?_
            refine hxa_get (v := .ref 405) (by rfl) (by rfl) (by rfl) rfl ?_
            refine hxa_iconst (by rfl) rfl ?_
            refine hxj_ialdB (by rfl) (by rfl) hk_0 (by omega) (by omega) hA8 (by rfl) (fun z17 ez17 fz17 gz17 => ?_)
            refine hxj_iald (by rfl) (by rfl) rfl (by omega) (by omega) (fun z18 ez18 => ?_)
            refine hxa_iconst (by rfl) rfl ?_
            refine hxj_ixorU (by rfl) (fun z19 => ?_)
            refine hxj_iandU (by rfl) (fun z20 => ?_)
            refine hxa_aload_n (by rfl) rfl ?_
            refine hxa_get (v := .ref 404) (by rfl) (by rfl) (by rfl) rfl ?_
            refine hxa_aload_n (by rfl) rfl ?_
            refine hxa_get (v := .ref 405) (by rfl) (by rfl) (by rfl) rfl ?_
            refine hxa_iconst (by rfl) rfl ?_
            refine hxj_ialdB (by rfl) (by rfl) hk_1 (by omega) (by omega) hA8 (by rfl) (fun z21 ez21 fz21 gz21 => ?_)
            refine hxj_iald (by rfl) (by rfl) rfl (by omega) (by omega) (fun z22 ez22 => ?_)
            refine hxa_iconst (by rfl) rfl ?_
            refine hxj_ixorU (by rfl) (fun z23 => ?_)
            refine hxj_iandU (by rfl) (fun z24 => ?_)
            refine hxa_aload_n (by rfl) rfl ?_
            refine hxa_get (v := .ref 404) (by rfl) (by rfl) (by rfl) rfl ?_
            refine hxa_aload_n (by rfl) rfl ?_
            refine hxa_get (v := .ref 405) (by rfl) (by rfl) (by rfl) rfl ?_
            refine hxa_iconst (by rfl) rfl ?_
            refine hxj_ialdB (by rfl) (by rfl) hk_2 (by omega) (by omega) hA8 (by rfl) (fun z25 ez25 fz25 gz25 => ?_)
            refine hxj_iald (by rfl) (by rfl) rfl (by omega) (by omega) (fun z26 ez26 => ?_)
            refine hxa_iconst (by rfl) rfl ?_
            refine hxj_ixorU (by rfl) (fun z27 => ?_)
            refine hxj_iandU (by rfl) (fun z28 => ?_)
            refine hxj_zne (by rfl) rfl (fun q29 => ?_) (fun q29 => ?_)
            ·
              refine hxj_iinc (by rfl) rfl rfl hk_1 (by omega) (by omega) (fun _ => rfl) (fun z30 ez30 => ?_)
              refine hxa_goto (by rfl) ?_
              exact ih112 z30 A8 hA8 (by omega) (by omega) (by omega)
            ·
              refine hxa_iconst (by rfl) rfl ?_
              exact hxa_ireturn (by rfl) rfl (hP _ _ ⟨hA8, _, rfl, by omega⟩)
  have L44 : ∀ (m44 : Nat) (x44_2 : Int32) (x44_3 : Value) (A44 : hs_A) (hx44_3 : hc_two (some x44_3) = false) (hA44 : hJ Bn Br A0 A44) (bx44_2 : 0 ≤ x44_2.toInt) (cx44_2 : x44_2.toInt ≤ 24) (hm44 : 24 - x44_2.toInt < (m44 : Int)), hxa (d + 0) (some (.int)) hm_t215 44 [.ref 368, .int a1, .int x44_2, x44_3] [] A44 P := by
    intro m44
    induction m44 with
    | zero => intro x44_2 x44_3 A44 hx44_3 hA44 bx44_2 cx44_2 hm44;  exact False.elim (by omega)
    | succ m44 ih44 =>
      intro x44_2 x44_3 A44 hx44_3 hA44 bx44_2 cx44_2 hm44
      have L54 : ∀ (m54 : Nat) (x54_3 : Int32) (A54 : hs_A) (hA54 : hJ Bn Br A0 A54) (bx54_3 : 1 ≤ x54_3.toInt) (cx54_3 : x54_3.toInt ≤ 24) (cx44_2 : x44_2.toInt ≤ 23) (hm54 : 24 - x54_3.toInt < (m54 : Int)), hxa (d + 0) (some (.int)) hm_t215 54 [.ref 368, .int a1, .int x44_2, .int x54_3] [] A54 P := by
        intro m54
        induction m54 with
        | zero => intro x54_3 A54 hA54 bx54_3 cx54_3 cx44_2 hm54;  exact False.elim (by omega)
        | succ m54 ih54 =>
          intro x54_3 A54 hA54 bx54_3 cx54_3 cx44_2 hm54
          refine hxa_iload_n (by rfl) rfl ?_
          refine hxa_bipush (by rfl) rfl ?_
          refine hxj_cge (by rfl) rfl hk_24 (fun q31 => ?_) (fun q31 => ?_)
          ·
            refine hxj_iinc (by rfl) rfl rfl hk_1 (by omega) (by omega) (fun _ => rfl) (fun z32 ez32 => ?_)
            refine hxa_goto (by rfl) ?_
            exact ih44 z32 (.int x54_3) A54 rfl hA54 (by omega) (by omega) (by omega)
          ·
            refine hxa_aload_n (by rfl) rfl ?_
            refine hxa_get (v := .ref 405) (by rfl) (by rfl) (by rfl) rfl ?_
            refine hxa_iconst (by rfl) rfl ?_
            refine hxa_iload_n (by rfl) rfl ?_
            refine hxj_iast (by rfl) (by rfl) hk_0 (by omega) (by omega) hA54 (hbok (by rfl) rfl (by omega) (by omega)) (by rfl) (by rfl) (fun A33 hA33 eA33 fA33 gA33 => ?_)
            refine hxa_aload_n (by rfl) rfl ?_
            refine hxa_get (v := .ref 405) (by rfl) (by rfl) (by rfl) rfl ?_
            refine hxa_iconst (by rfl) rfl ?_
            refine hxa_iload_n (by rfl) rfl ?_
            refine hxj_iast (by rfl) (by rfl) hk_1 (by omega) (by omega) hA33 (hbok (by rfl) rfl (by omega) (by omega)) (by rfl) (by rfl) (fun A34 hA34 eA34 fA34 gA34 => ?_)
            refine hxa_iload_n (by rfl) rfl ?_
            refine hxa_aload_n (by rfl) rfl ?_
            refine hxa_get (v := .ref 404) (by rfl) (by rfl) (by rfl) rfl ?_
            refine hxa_iload_n (by rfl) rfl ?_
            refine hxj_iald (by rfl) (by rfl) rfl (by omega) (by omega) (fun z35 ez35 => ?_)
            refine hxa_iconst (by rfl) rfl ?_
            refine hxj_ixorU (by rfl) (fun z36 => ?_)
            refine hxj_iandU (by rfl) (fun z37 => ?_)
            refine hxa_aload_n (by rfl) rfl ?_
            refine hxa_get (v := .ref 404) (by rfl) (by rfl) (by rfl) rfl ?_
            refine hxa_iload_n (by rfl) rfl ?_
            refine hxj_iald (by rfl) (by rfl) rfl (by omega) (by omega) (fun z38 ez38 => ?_)
            refine hxa_iconst (by rfl) rfl ?_
            refine hxj_ixorU (by rfl) (fun z39 => ?_)
            refine hxj_iandU (by rfl) (fun z40 => ?_)
            refine hxj_zne (by rfl) rfl (fun q41 => ?_) (fun q41 => ?_)
            ·
              refine hxj_iinc (by rfl) rfl rfl hk_1 (by omega) (by omega) (fun _ => rfl) (fun z42 ez42 => ?_)
              refine hxa_goto (by rfl) ?_
              exact ih54 z42 A34 hA34 (by omega) (by omega) (by omega) (by omega)
            ·
              refine hxa_iconst (by rfl) rfl ?_
              exact hxa_ireturn (by rfl) rfl (hP _ _ ⟨hA34, _, rfl, by omega⟩)
      refine hxa_iload_n (by rfl) rfl ?_
      refine hxa_bipush (by rfl) rfl ?_
      refine hxj_cge (by rfl) rfl hk_24 (fun q43 => ?_) (fun q43 => ?_)
      ·
        refine hxa_iconst (by rfl) rfl ?_
        refine hxa_s1 (by rfl) (Or.inl ⟨_, rfl, rfl⟩) rfl ?_
        exact L112 (Int.toNat (13824 - 0) + 1) (Int32.ofNat 0) A44 hA44 (by omega) (by omega) (by omega)
      ·
        refine hxa_iload_n (by rfl) rfl ?_
        refine hxa_iconst (by rfl) rfl ?_
        refine hxj_iadd (by rfl) rfl hk_1 (by omega) (by omega) (fun z44 ez44 => ?_)
        refine hxa_s1 (by rfl) (Or.inl ⟨_, rfl, rfl⟩) rfl ?_
        exact L54 (Int.toNat (24 - z44.toInt) + 1) z44 A44 hA44 (by omega) (by omega) (by omega) (by omega)
  have L8 : ∀ (m8 : Nat) (x8_2 : Int32) (A8 : hs_A) (hA8 : hJ Bn Br A0 A8) (bx8_2 : 0 ≤ x8_2.toInt) (cx8_2 : x8_2.toInt ≤ 24) (hm8 : 24 - x8_2.toInt < (m8 : Int)), hxa (d + 0) (some (.int)) hm_t215 8 [.ref 368, .int a1, .int x8_2, .retAddr 0] [] A8 P := by
    intro m8
    induction m8 with
    | zero => intro x8_2 A8 hA8 bx8_2 cx8_2 hm8;  exact False.elim (by omega)
    | succ m8 ih8 =>
      intro x8_2 A8 hA8 bx8_2 cx8_2 hm8
      refine hxa_iload_n (by rfl) rfl ?_
      refine hxa_bipush (by rfl) rfl ?_
      refine hxj_cge (by rfl) rfl hk_24 (fun q45 => ?_) (fun q45 => ?_)
      ·
        refine hxa_iconst (by rfl) rfl ?_
        refine hxa_s1 (by rfl) (Or.inl ⟨_, rfl, rfl⟩) rfl ?_
        exact L44 (Int.toNat (24 - 0) + 1) (Int32.ofNat 0) (.retAddr 0) A8 rfl hA8 (by omega) (by omega) (by omega)
      ·
        refine hxa_aload_n (by rfl) rfl ?_
        refine hxa_get (v := .ref 405) (by rfl) (by rfl) (by rfl) rfl ?_
        refine hxa_iconst (by rfl) rfl ?_
        refine hxa_iload_n (by rfl) rfl ?_
        refine hxj_iast (by rfl) (by rfl) hk_0 (by omega) (by omega) hA8 (hbok (by rfl) rfl (by omega) (by omega)) (by rfl) (by rfl) (fun A46 hA46 eA46 fA46 gA46 => ?_)
        refine hxa_iload_n (by rfl) rfl ?_
        refine hxa_aload_n (by rfl) rfl ?_
        refine hxa_get (v := .ref 404) (by rfl) (by rfl) (by rfl) rfl ?_
        refine hxa_iload_n (by rfl) rfl ?_
        refine hxj_iald (by rfl) (by rfl) rfl (by omega) (by omega) (fun z47 ez47 => ?_)
        refine hxa_iconst (by rfl) rfl ?_
        refine hxj_ixorU (by rfl) (fun z48 => ?_)
        refine hxj_iandU (by rfl) (fun z49 => ?_)
        refine hxj_zne (by rfl) rfl (fun q50 => ?_) (fun q50 => ?_)
        ·
          refine hxj_iinc (by rfl) rfl rfl hk_1 (by omega) (by omega) (fun _ => rfl) (fun z51 ez51 => ?_)
          refine hxa_goto (by rfl) ?_
          exact ih8 z51 A46 hA46 (by omega) (by omega) (by omega)
        ·
          refine hxa_iconst (by rfl) rfl ?_
          exact hxa_ireturn (by rfl) rfl (hP _ _ ⟨hA46, _, rfl, by omega⟩)
  refine hxa_iload_n (by rfl) rfl ?_
  refine hxj_zne (by rfl) rfl (fun q52 => ?_) (fun q52 => ?_)
  ·
    refine hxa_iconst (by rfl) rfl ?_
    refine hxa_s1 (by rfl) (Or.inl ⟨_, rfl, rfl⟩) rfl ?_
    exact L8 (Int.toNat (24 - 0) + 1) (Int32.ofNat 0) A hA (by omega) (by omega) (by omega)
  ·
    refine hxa_iconst (by rfl) rfl ?_
    exact hxa_ireturn (by rfl) rfl (hP _ _ ⟨hA, _, rfl, by omega⟩)
theorem hX215 {d : Nat} {Bn Br : Int} {A0 A : hs_A} (hA : hJ Bn Br A0 A)  (a1 : Int32) : hxC (d + 1) 215 hm_m215 [.ref 368, .int a1] A (fun r A' => hJ Bn Br A0 A' ∧ ∃ z : Int32, r = some (.int z) ∧ ((0 ≤ z.toInt ∧ z.toInt ≤ 4))) := hxC.of (by rfl) (hY215 hA a1 (fun r A' h => h))
theorem hY218 {d : Nat} {N : Int} {A0 A : hs_A} (hA : hJ N (N + 72) A0 A) (hN : N ≤ 900000) (a1 : Int32) {P : Option Value → hs_A → Prop} (hP : ∀ (r : Option Value) (A' : hs_A), (hJ (N + 72) (N + 144) A0 A' ∧ ∃ z : Int32, r = some (.int z)) → P r A') : hxa (d + 2) (some (.int)) hm_t218 0 [.ref 368, .int a1] [] A P := by
  have k4294967295 := hk_4294967295
  refine hxa_aload_n (by rfl) rfl ?_
  refine hxa_iload_n (by rfl) rfl ?_
  refine hxa_call0 (by rfl) (by rfl) (by rfl) (by rfl) (by rfl) (by rfl) (hX167 (d := d + 0) hA a1) ?_
  rintro _ _ ⟨rfl, z1, rfl, fz1⟩
  rcases fz1 with fz1 | fz1
  ·
    refine hxj_zne (by rfl) rfl (fun q2 => ?_) (fun q2 => False.elim (by omega))
    refine hxa_aload_n (by rfl) rfl ?_
    refine hxa_call0 (by rfl) (by rfl) (by rfl) (by rfl) (by rfl) (by rfl) (hX171 (d := d + 1) hA ) ?_
    rintro _ A3 ⟨hA3, rfl⟩
    refine hxa_aload_n (by rfl) rfl ?_
    refine hxa_iload_n (by rfl) rfl ?_
    refine hxa_call0 (by rfl) (by rfl) (by rfl) (by rfl) (by rfl) (by rfl) (hX200 (d := d + 0) hA3 a1 (by omega)) ?_
    rintro _ _ ⟨rfl, z4, rfl⟩
    exact hxa_ireturn (by rfl) rfl (hP _ _ ⟨(hJ.mono hA3 (by omega) (by omega)), _, rfl⟩)
  ·
    refine hxj_zne (by rfl) rfl (fun q5 => False.elim (by omega)) (fun q5 => ?_)
    refine hxa_iconst (by rfl) rfl ?_
    exact hxa_ireturn (by rfl) rfl (hP _ _ ⟨(hJ.mono hA (by omega) (by omega)), _, rfl⟩)
theorem hX218 {d : Nat} {N : Int} {A0 A : hs_A} (hA : hJ N (N + 72) A0 A) (hN : N ≤ 900000) (a1 : Int32) : hxC (d + 3) 218 hm_m218 [.ref 368, .int a1] A (fun r A' => hJ (N + 72) (N + 144) A0 A' ∧ ∃ z : Int32, r = some (.int z)) := hxC.of (by rfl) (hY218 hA hN a1 (fun r A' h => h))
theorem hY221 {d : Nat} {Bn Br : Int} {A0 A : hs_A} (hA : hJ Bn Br A0 A)  (a1 : Int32) {P : Option Value → hs_A → Prop} (hP : ∀ (r : Option Value) (A' : hs_A), (A = A' ∧ ∃ z : Int32, r = some (.int z)) → P r A') : hxa (d + 0) (some (.int)) hm_t221 0 [.ref 368, .int a1, .retAddr 0] [] A P := by
  have k0 := hk_0
  have k4294967295 := hk_4294967295
  have L2 : ∀ (m2 : Nat) (x2_2 : Int32) (bx2_2 : 0 ≤ x2_2.toInt) (cx2_2 : x2_2.toInt ≤ 10) (hm2 : 10 - x2_2.toInt < (m2 : Int)), hxa (d + 0) (some (.int)) hm_t221 2 [.ref 368, .int a1, .int x2_2] [] A P := by
    intro m2
    induction m2 with
    | zero => intro x2_2 bx2_2 cx2_2 hm2;  exact False.elim (by omega)
    | succ m2 ih2 =>
      intro x2_2 bx2_2 cx2_2 hm2
      refine hxa_iload_n (by rfl) rfl ?_
      refine hxa_aload_n (by rfl) rfl ?_
      refine hxa_get (v := .ref 377) (by rfl) (by rfl) (by rfl) rfl ?_
      refine hxa_aload_n (by rfl) rfl ?_
      refine hxj_getB (by rfl) (by rfl) (by rfl) hA (by rfl) (fun z1 ez1 fz1 gz1 => ?_)
      refine hxj_ialdB (by rfl) (by rfl) rfl (by omega) (by omega) hA (by rfl) (fun z2 ez2 fz2 gz2 => ?_)
      refine hxj_cge (by rfl) rfl rfl (fun q3 => ?_) (fun q3 => ?_)
      ·
        refine hxa_iconst (by rfl) rfl ?_
        exact hxa_ireturn (by rfl) rfl (hP _ _ ⟨rfl, _, rfl⟩)
      ·
        refine hxa_aload_n (by rfl) rfl ?_
        refine hxa_get (v := .ref 396) (by rfl) (by rfl) (by rfl) rfl ?_
        refine hxa_bipush (by rfl) rfl ?_
        refine hxa_iload_n (by rfl) rfl ?_
        refine hxj_iadd (by rfl) hk_20 rfl (by omega) (by omega) (fun z4 ez4 => ?_)
        refine hxj_iald395 (by rfl) rfl (by omega) (by omega) hA (fun z5 ez5 fz5 => ?_)
        refine hxa_iload_n (by rfl) rfl ?_
        refine hxj_cne (by rfl) rfl rfl (fun q6 => ?_) (fun q6 => ?_)
        ·
          refine hxj_iinc (by rfl) rfl rfl hk_1 (by omega) (by omega) (fun _ => rfl) (fun z7 ez7 => ?_)
          refine hxa_goto (by rfl) ?_
          exact ih2 z7 (by omega) (by omega) (by omega)
        ·
          refine hxa_iload_n (by rfl) rfl ?_
          exact hxa_ireturn (by rfl) rfl (hP _ _ ⟨rfl, _, rfl⟩)
  refine hxa_iconst (by rfl) rfl ?_
  refine hxa_s1 (by rfl) (Or.inl ⟨_, rfl, rfl⟩) rfl ?_
  exact L2 (Int.toNat (10 - 0) + 1) (Int32.ofNat 0) (by omega) (by omega) (by omega)
theorem hX221 {d : Nat} {Bn Br : Int} {A0 A : hs_A} (hA : hJ Bn Br A0 A)  (a1 : Int32) : hxC (d + 1) 221 hm_m221 [.ref 368, .int a1] A (fun r A' => A = A' ∧ ∃ z : Int32, r = some (.int z)) := hxC.of (by rfl) (hY221 hA a1 (fun r A' h => h))
theorem hY225 {d : Nat} {Bn Br : Int} {A0 A : hs_A} (hA : hJ Bn Br A0 A)   {P : Option Value → hs_A → Prop} (hP : ∀ (r : Option Value) (A' : hs_A), (A = A' ∧ ∃ z : Int32, r = some (.int z)) → P r A') : hxa (d + 0) (some (.int)) hm_t225 0 [.ref 368, .retAddr 0, .retAddr 0] [] A P := by
  have k0 := hk_0
  have L4 : ∀ (m4 : Nat) (x4_1 : Int32) (x4_2 : Int32) (bx4_2 : 0 ≤ x4_2.toInt) (cx4_2 : x4_2.toInt ≤ 10) (hm4 : 10 - x4_2.toInt < (m4 : Int)), hxa (d + 0) (some (.int)) hm_t225 4 [.ref 368, .int x4_1, .int x4_2] [] A P := by
    intro m4
    induction m4 with
    | zero => intro x4_1 x4_2 bx4_2 cx4_2 hm4; have := hn_rng x4_1; exact False.elim (by omega)
    | succ m4 ih4 =>
      intro x4_1 x4_2 bx4_2 cx4_2 hm4
      refine hxa_iload_n (by rfl) rfl ?_
      refine hxa_aload_n (by rfl) rfl ?_
      refine hxa_get (v := .ref 377) (by rfl) (by rfl) (by rfl) rfl ?_
      refine hxa_aload_n (by rfl) rfl ?_
      refine hxj_getB (by rfl) (by rfl) (by rfl) hA (by rfl) (fun z1 ez1 fz1 gz1 => ?_)
      refine hxj_ialdB (by rfl) (by rfl) rfl (by omega) (by omega) hA (by rfl) (fun z2 ez2 fz2 gz2 => ?_)
      refine hxj_cge (by rfl) rfl rfl (fun q3 => ?_) (fun q3 => ?_)
      ·
        refine hxa_iload_n (by rfl) rfl ?_
        exact hxa_ireturn (by rfl) rfl (hP _ _ ⟨rfl, _, rfl⟩)
      ·
        refine hxa_aload_n (by rfl) rfl ?_
        refine hxa_get (v := .ref 397) (by rfl) (by rfl) (by rfl) rfl ?_
        refine hxa_bipush (by rfl) rfl ?_
        refine hxa_iload_n (by rfl) rfl ?_
        refine hxj_iadd (by rfl) hk_60 rfl (by omega) (by omega) (fun z4 ez4 => ?_)
        refine hxj_iald396 (by rfl) rfl (by omega) (by omega) hA (fun z5 ez5 fz5 => ?_)
        refine hxj_zle (by rfl) rfl (fun q6 => ?_) (fun q6 => ?_)
        ·
          refine hxj_iinc (by rfl) rfl rfl hk_1 (by omega) (by omega) (fun _ => rfl) (fun z7 ez7 => ?_)
          refine hxa_goto (by rfl) ?_
          exact ih4 x4_1 z7 (by omega) (by omega) (by omega)
        ·
          refine hxa_iload_n (by rfl) rfl ?_
          refine hxa_iconst (by rfl) rfl ?_
          refine hxa_iload_n (by rfl) rfl ?_
          refine hxj_ishlU (by rfl) (fun z8 => ?_)
          refine hxj_iorU (by rfl) (fun z9 => ?_)
          refine hxa_s1 (by rfl) (Or.inl ⟨_, rfl, rfl⟩) rfl ?_
          refine hxj_iinc (by rfl) rfl rfl hk_1 (by omega) (by omega) (fun _ => rfl) (fun z10 ez10 => ?_)
          refine hxa_goto (by rfl) ?_
          exact ih4 z9 z10 (by omega) (by omega) (by omega)
  refine hxa_iconst (by rfl) rfl ?_
  refine hxa_s1 (by rfl) (Or.inl ⟨_, rfl, rfl⟩) rfl ?_
  refine hxa_iconst (by rfl) rfl ?_
  refine hxa_s1 (by rfl) (Or.inl ⟨_, rfl, rfl⟩) rfl ?_
  exact L4 (Int.toNat (10 - 0) + 1) (Int32.ofNat 0) (Int32.ofNat 0) (by omega) (by omega) (by omega)
theorem hX225 {d : Nat} {Bn Br : Int} {A0 A : hs_A} (hA : hJ Bn Br A0 A)   : hxC (d + 1) 225 hm_m225 [.ref 368] A (fun r A' => A = A' ∧ ∃ z : Int32, r = some (.int z)) := hxC.of (by rfl) (hY225 hA  (fun r A' h => h))
theorem hY227 {d : Nat} {Bn Br : Int} {A0 A : hs_A} (hA : hJ Bn Br A0 A)  (a1 : Int32) {P : Option Value → hs_A → Prop} (hP : ∀ (r : Option Value) (A' : hs_A), (A = A' ∧ ∃ z : Int32, r = some (.int z)) → P r A') : hxa (d + 1) (some (.int)) hm_t227 0 [.ref 368, .int a1, .retAddr 0, .retAddr 0, .retAddr 0, .retAddr 0, .retAddr 0] [] A P := by
  have k0 := hk_0
  have k1 := hk_1
  have k4294967294 := hk_4294967294
  have k4294967295 := hk_4294967295
  have L19 : ∀ (m19 : Nat) (x19_2 : Int32) (x19_3 : Int32) (x19_4 : Int32) (x19_5 : Value) (x19_6 : Value) (hx19_5 : hc_two (some x19_5) = false) (hx19_6 : hc_two (some x19_6) = false) (bx19_2 : -2 ≤ x19_2.toInt) (cx19_2 : x19_2.toInt ≤ 255) (bx19_3 : 0 ≤ x19_3.toInt) (bx19_4 : 0 ≤ x19_4.toInt) (cx19_4 : x19_4.toInt ≤ 10) (ba1 : 0 ≤ a1.toInt) (ca1 : a1.toInt ≤ 1) (hm19 : 10 - x19_4.toInt < (m19 : Int)), hxa (d + 1) (some (.int)) hm_t227 19 [.ref 368, .int a1, .int x19_2, .int x19_3, .int x19_4, x19_5, x19_6] [] A P := by
    intro m19
    induction m19 with
    | zero => intro x19_2 x19_3 x19_4 x19_5 x19_6 hx19_5 hx19_6 bx19_2 cx19_2 bx19_3 bx19_4 cx19_4 ba1 ca1 hm19; have := hn_rng x19_3; exact False.elim (by omega)
    | succ m19 ih19 =>
      intro x19_2 x19_3 x19_4 x19_5 x19_6 hx19_5 hx19_6 bx19_2 cx19_2 bx19_3 bx19_4 cx19_4 ba1 ca1 hm19
      have L36 : ∀ (m36 : Nat) (x36_2 : Int32) (x36_3 : Int32) (x36_5 : Int32) (x36_6 : Value) (hx36_6 : hc_two (some x36_6) = false) (bx36_2 : -2 ≤ x36_2.toInt) (cx36_2 : x36_2.toInt ≤ 255) (bx36_3 : 0 ≤ x36_3.toInt) (bx36_5 : 0 ≤ x36_5.toInt) (cx36_5 : x36_5.toInt ≤ 10) (cx19_4 : x19_4.toInt ≤ 9) (hm36 : 10 - x36_5.toInt < (m36 : Int)), hxa (d + 1) (some (.int)) hm_t227 36 [.ref 368, .int a1, .int x36_2, .int x36_3, .int x19_4, .int x36_5, x36_6] [] A P := by
        intro m36
        induction m36 with
        | zero => intro x36_2 x36_3 x36_5 x36_6 hx36_6 bx36_2 cx36_2 bx36_3 bx36_5 cx36_5 cx19_4 hm36; have := hn_rng x36_3; exact False.elim (by omega)
        | succ m36 ih36 =>
          intro x36_2 x36_3 x36_5 x36_6 hx36_6 bx36_2 cx36_2 bx36_3 bx36_5 cx36_5 cx19_4 hm36
          refine hxa_iload (by rfl) rfl ?_
          refine hxa_aload_n (by rfl) rfl ?_
          refine hxa_get (v := .ref 377) (by rfl) (by rfl) (by rfl) rfl ?_
          refine hxa_aload_n (by rfl) rfl ?_
          refine hxj_getB (by rfl) (by rfl) (by rfl) hA (by rfl) (fun z1 ez1 fz1 gz1 => ?_)
          refine hxj_ialdB (by rfl) (by rfl) rfl (by omega) (by omega) hA (by rfl) (fun z2 ez2 fz2 gz2 => ?_)
          refine hxj_cge (by rfl) rfl rfl (fun q3 => ?_) (fun q3 => ?_)
          ·
            refine hxj_iinc (by rfl) rfl rfl hk_1 (by omega) (by omega) (fun _ => rfl) (fun z4 ez4 => ?_)
            refine hxa_goto (by rfl) ?_
            exact ih19 x36_2 x36_3 z4 (.int x36_5) (x36_6) rfl hx36_6 (by omega) (by omega) (by omega) (by omega) (by omega) (by omega) (by omega) (by omega)
          ·
            refine hxa_aload_n (by rfl) rfl ?_
            refine hxa_get (v := .ref 396) (by rfl) (by rfl) (by rfl) rfl ?_
            refine hxa_bipush (by rfl) rfl ?_
            refine hxa_iload (by rfl) rfl ?_
            refine hxj_iadd (by rfl) hk_30 rfl (by omega) (by omega) (fun z5 ez5 => ?_)
            refine hxj_iald395 (by rfl) rfl (by omega) (by omega) hA (fun z6 ez6 fz6 => ?_)
            refine hxa_aload_n (by rfl) rfl ?_
            refine hxa_get (v := .ref 396) (by rfl) (by rfl) (by rfl) rfl ?_
            refine hxa_iload (by rfl) rfl ?_
            refine hxj_iald395 (by rfl) rfl (by omega) (by omega) hA (fun z7 ez7 fz7 => ?_)
            refine hxj_iandU (by rfl) (fun z8 => ?_)
            refine hxa_aload_n (by rfl) rfl ?_
            refine hxa_get (v := .ref 396) (by rfl) (by rfl) (by rfl) rfl ?_
            refine hxa_bipush (by rfl) rfl ?_
            refine hxa_iload (by rfl) rfl ?_
            refine hxj_iadd (by rfl) hk_40 rfl (by omega) (by omega) (fun z9 ez9 => ?_)
            refine hxj_iald395 (by rfl) rfl (by omega) (by omega) hA (fun z10 ez10 fz10 => ?_)
            refine hxa_iconst (by rfl) rfl ?_
            refine hxj_ixorU (by rfl) (fun z11 => ?_)
            refine hxj_iandU (by rfl) (fun z12 => ?_)
            refine hxa_call2 (by rfl) (by decide) (by rfl) (by rfl) (by rfl) (hX166 (d := d + 0)  z12) ?_
            rintro _ _ ⟨rfl, z13, rfl⟩
            refine hxa_s1 (by rfl) (Or.inr ⟨_, rfl, rfl⟩) rfl ?_
            refine hxa_iload (by rfl) rfl ?_
            refine hxa_iload (by rfl) rfl ?_
            refine hxj_ceq (by rfl) rfl rfl (fun q14 => ?_) (fun q14 => ?_)
            ·
              refine hxj_iinc (by rfl) rfl rfl hk_1 (by omega) (by omega) (fun _ => rfl) (fun z15 ez15 => ?_)
              refine hxa_goto (by rfl) ?_
              exact ih36 x36_2 x36_3 z15 (.int z13) rfl (by omega) (by omega) (by omega) (by omega) (by omega) (by omega) (by omega)
            ·
              refine hxa_iload (by rfl) rfl ?_
              refine hxa_iload_n (by rfl) rfl ?_
              have rgz13 := hn_rng z13
              have rgx36_3 := hn_rng x36_3
              refine hxj_cgt (by rfl) rfl rfl (fun q16 => ?_) (fun q16 => ?_)
              ·
                refine hxa_bipush (by rfl) rfl ?_
                refine hxa_iload (by rfl) rfl ?_
                refine hxj_imul (by rfl) hk_10 rfl (by omega) (by omega) (fun z17 ez17 => ?_)
                refine hxa_iload (by rfl) rfl ?_
                refine hxj_iadd (by rfl) rfl rfl (by omega) (by omega) (fun z18 ez18 => ?_)
                refine hxa_s1 (by rfl) (Or.inl ⟨_, rfl, rfl⟩) rfl ?_
                refine hxa_iload (by rfl) rfl ?_
                refine hxa_s1 (by rfl) (Or.inl ⟨_, rfl, rfl⟩) rfl ?_
                refine hxj_iinc (by rfl) rfl rfl hk_1 (by omega) (by omega) (fun _ => rfl) (fun z19 ez19 => ?_)
                refine hxa_goto (by rfl) ?_
                exact ih36 z18 z13 z19 (.int z13) rfl (by omega) (by omega) (by omega) (by omega) (by omega) (by omega) (by omega)
              ·
                refine hxa_goto (by rfl) ?_
                refine hxj_iinc (by rfl) rfl rfl hk_1 (by omega) (by omega) (fun _ => rfl) (fun z20 ez20 => ?_)
                refine hxa_goto (by rfl) ?_
                exact ih36 x36_2 x36_3 z20 (.int z13) rfl (by omega) (by omega) (by omega) (by omega) (by omega) (by omega) (by omega)
      refine hxa_iload (by rfl) rfl ?_
      refine hxa_aload_n (by rfl) rfl ?_
      refine hxa_get (v := .ref 377) (by rfl) (by rfl) (by rfl) rfl ?_
      refine hxa_aload_n (by rfl) rfl ?_
      refine hxj_getB (by rfl) (by rfl) (by rfl) hA (by rfl) (fun z21 ez21 fz21 gz21 => ?_)
      refine hxj_ialdB (by rfl) (by rfl) rfl (by omega) (by omega) hA (by rfl) (fun z22 ez22 fz22 gz22 => ?_)
      refine hxj_cge (by rfl) rfl rfl (fun q23 => ?_) (fun q23 => ?_)
      ·
        refine hxa_iload_n (by rfl) rfl ?_
        refine hxj_zlt (by rfl) rfl (fun q24 => ?_) (fun q24 => ?_)
        ·
          refine hxa_iload_n (by rfl) rfl ?_
          refine hxa_goto (by rfl) ?_
          exact hxa_ireturn (by rfl) rfl (hP _ _ ⟨rfl, _, rfl⟩)
        ·
          refine hxa_iload_n (by rfl) rfl ?_
          refine hxj_zne (by rfl) rfl (fun q25 => ?_) (fun q25 => ?_)
          ·
            refine hxa_iload_n (by rfl) rfl ?_
            exact hxa_ireturn (by rfl) rfl (hP _ _ ⟨rfl, _, rfl⟩)
          ·
            refine hxa_iload_n (by rfl) rfl ?_
            refine hxa_goto (by rfl) ?_
            exact hxa_ireturn (by rfl) rfl (hP _ _ ⟨rfl, _, rfl⟩)
      ·
        refine hxa_iconst (by rfl) rfl ?_
        refine hxa_s1 (by rfl) (Or.inr ⟨_, rfl, rfl⟩) rfl ?_
        exact L36 (Int.toNat (10 - 0) + 1) x19_2 x19_3 (Int32.ofNat 0) (x19_6) hx19_6 (by omega) (by omega) (by omega) (by omega) (by omega) (by omega) (by omega)
  refine hxa_iload_n (by rfl) rfl ?_
  refine hxa_iconst (by rfl) rfl ?_
  refine hxa_iconst (by rfl) rfl ?_
  refine hxa_call2 (by rfl) (by decide) (by rfl) (by rfl) (by rfl) (hX164 (d := d + 0)  a1 (Int32.ofNat 0) (Int32.ofNat 1)) ?_
  rintro _ _ ⟨rfl, z26, rfl, fz26⟩
  rcases fz26 with fz26 | fz26
  ·
    refine hxj_zne (by rfl) rfl (fun q27 => ?_) (fun q27 => False.elim (by omega))
    refine hxa_bipush (by rfl) rfl ?_
    refine hxa_s1 (by rfl) (Or.inl ⟨_, rfl, rfl⟩) rfl ?_
    refine hxa_iconst (by rfl) rfl ?_
    refine hxa_s1 (by rfl) (Or.inl ⟨_, rfl, rfl⟩) rfl ?_
    refine hxa_iconst (by rfl) rfl ?_
    refine hxa_s1 (by rfl) (Or.inr ⟨_, rfl, rfl⟩) rfl ?_
    exact L19 (Int.toNat (10 - 0) + 1) (Int32.ofNat 4294967294) (Int32.ofNat 0) (Int32.ofNat 0) (.retAddr 0) (.retAddr 0) rfl rfl (by omega) (by omega) (by omega) (by omega) (by omega) (by omega) (by omega) (by omega)
  ·
    refine hxj_zne (by rfl) rfl (fun q28 => False.elim (by omega)) (fun q28 => ?_)
    refine hxa_iconst (by rfl) rfl ?_
    exact hxa_ireturn (by rfl) rfl (hP _ _ ⟨rfl, _, rfl⟩)
theorem hX227 {d : Nat} {Bn Br : Int} {A0 A : hs_A} (hA : hJ Bn Br A0 A)  (a1 : Int32) : hxC (d + 2) 227 hm_m227 [.ref 368, .int a1] A (fun r A' => A = A' ∧ ∃ z : Int32, r = some (.int z)) := hxC.of (by rfl) (hY227 hA a1 (fun r A' h => h))
theorem hY228 {d : Nat} {Bn Br : Int} {A0 A : hs_A} (hA : hJ Bn Br A0 A)  (a1 : Int32) {P : Option Value → hs_A → Prop} (hP : ∀ (r : Option Value) (A' : hs_A), (A = A' ∧ ∃ z : Int32, r = some (.int z)) → P r A') : hxa (d + 2) (some (.int)) hm_t228 0 [.ref 368, .int a1] [] A P := by
  have k4294967295 := hk_4294967295
  refine hxa_aload_n (by rfl) rfl ?_
  refine hxa_iload_n (by rfl) rfl ?_
  refine hxa_call0 (by rfl) (by rfl) (by rfl) (by rfl) (by rfl) (by rfl) (hX167 (d := d + 0) hA a1) ?_
  rintro _ _ ⟨rfl, z1, rfl, fz1⟩
  rcases fz1 with fz1 | fz1
  ·
    refine hxj_zeq (by rfl) rfl (fun q2 => False.elim (by omega)) (fun q2 => ?_)
    refine hxa_aload_n (by rfl) rfl ?_
    refine hxa_get (v := .ref 396) (by rfl) (by rfl) (by rfl) rfl ?_
    refine hxa_iload_n (by rfl) rfl ?_
    refine hxj_iald395 (by rfl) rfl (by omega) (by omega) hA (fun z3 ez3 fz3 => ?_)
    refine hxa_aload_n (by rfl) rfl ?_
    refine hxa_get (v := .ref 396) (by rfl) (by rfl) (by rfl) rfl ?_
    refine hxa_bipush (by rfl) rfl ?_
    refine hxa_iload_n (by rfl) rfl ?_
    refine hxj_iadd (by rfl) hk_40 rfl (by omega) (by omega) (fun z4 ez4 => ?_)
    refine hxj_iald395 (by rfl) rfl (by omega) (by omega) hA (fun z5 ez5 fz5 => ?_)
    refine hxa_iconst (by rfl) rfl ?_
    refine hxj_ixorU (by rfl) (fun z6 => ?_)
    refine hxj_iandU (by rfl) (fun z7 => ?_)
    refine hxa_goto (by rfl) ?_
    exact hxa_ireturn (by rfl) rfl (hP _ _ ⟨rfl, _, rfl⟩)
  ·
    refine hxj_zeq (by rfl) rfl (fun q8 => ?_) (fun q8 => False.elim (by omega))
    refine hxa_iconst (by rfl) rfl ?_
    exact hxa_ireturn (by rfl) rfl (hP _ _ ⟨rfl, _, rfl⟩)
theorem hX228 {d : Nat} {Bn Br : Int} {A0 A : hs_A} (hA : hJ Bn Br A0 A)  (a1 : Int32) : hxC (d + 3) 228 hm_m228 [.ref 368, .int a1] A (fun r A' => A = A' ∧ ∃ z : Int32, r = some (.int z)) := hxC.of (by rfl) (hY228 hA a1 (fun r A' h => h))
theorem hY230 {d : Nat} {Bn Br : Int} {A0 A : hs_A} (hA : hJ Bn Br A0 A)  (a1 : Int32) {P : Option Value → hs_A → Prop} (hP : ∀ (r : Option Value) (A' : hs_A), (A = A' ∧ ∃ z : Int32, r = some (.int z)) → P r A') : hxa (d + 2) (some (.int)) hm_t230 0 [.ref 368, .int a1, .retAddr 0, .retAddr 0] [] A P := by
  have k0 := hk_0
  have k4294967295 := hk_4294967295
  have L14 : ∀ (m14 : Nat) (x14_2 : Int32) (x14_3 : Int32) (bx14_3 : 0 ≤ x14_3.toInt) (cx14_3 : x14_3.toInt ≤ 10) (ba1 : 0 ≤ a1.toInt) (ca1 : a1.toInt ≤ 9) (hm14 : 10 - x14_3.toInt < (m14 : Int)), hxa (d + 2) (some (.int)) hm_t230 14 [.ref 368, .int a1, .int x14_2, .int x14_3] [] A P := by
    intro m14
    induction m14 with
    | zero => intro x14_2 x14_3 bx14_3 cx14_3 ba1 ca1 hm14; have := hn_rng x14_2; exact False.elim (by omega)
    | succ m14 ih14 =>
      intro x14_2 x14_3 bx14_3 cx14_3 ba1 ca1 hm14
      refine hxa_iload_n (by rfl) rfl ?_
      refine hxa_iload_n (by rfl) rfl ?_
      refine hxj_cgt (by rfl) rfl rfl (fun q1 => ?_) (fun q1 => ?_)
      ·
        refine hxa_iload_n (by rfl) rfl ?_
        exact hxa_ireturn (by rfl) rfl (hP _ _ ⟨rfl, _, rfl⟩)
      ·
        refine hxa_iload_n (by rfl) rfl ?_
        refine hxa_iconst (by rfl) rfl ?_
        refine hxa_aload_n (by rfl) rfl ?_
        refine hxa_get (v := .ref 396) (by rfl) (by rfl) (by rfl) rfl ?_
        refine hxa_bipush (by rfl) rfl ?_
        refine hxa_iload_n (by rfl) rfl ?_
        refine hxj_iadd (by rfl) hk_50 rfl (by omega) (by omega) (fun z2 ez2 => ?_)
        refine hxj_iald395 (by rfl) rfl (by omega) (by omega) hA (fun z3 ez3 fz3 => ?_)
        refine hxj_isubU (by rfl) (fun z4 => ?_)
        refine hxj_iaddU (by rfl) (fun z5 => ?_)
        refine hxa_s1 (by rfl) (Or.inl ⟨_, rfl, rfl⟩) rfl ?_
        refine hxj_iinc (by rfl) rfl rfl hk_1 (by omega) (by omega) (fun _ => rfl) (fun z6 ez6 => ?_)
        refine hxa_goto (by rfl) ?_
        exact ih14 z5 z6 (by omega) (by omega) (by omega) (by omega) (by omega)
  refine hxa_aload_n (by rfl) rfl ?_
  refine hxa_iload_n (by rfl) rfl ?_
  refine hxa_call0 (by rfl) (by rfl) (by rfl) (by rfl) (by rfl) (by rfl) (hX167 (d := d + 0) hA a1) ?_
  rintro _ _ ⟨rfl, z7, rfl, fz7⟩
  rcases fz7 with fz7 | fz7
  ·
    refine hxj_zne (by rfl) rfl (fun q8 => ?_) (fun q8 => False.elim (by omega))
    refine hxa_iconst (by rfl) rfl ?_
    refine hxa_s1 (by rfl) (Or.inl ⟨_, rfl, rfl⟩) rfl ?_
    refine hxa_iconst (by rfl) rfl ?_
    refine hxa_s1 (by rfl) (Or.inl ⟨_, rfl, rfl⟩) rfl ?_
    exact L14 (Int.toNat (10 - 0) + 1) (Int32.ofNat 0) (Int32.ofNat 0) (by omega) (by omega) (by omega) (by omega) (by omega)
  ·
    refine hxj_zne (by rfl) rfl (fun q9 => False.elim (by omega)) (fun q9 => ?_)
    refine hxa_iconst (by rfl) rfl ?_
    exact hxa_ireturn (by rfl) rfl (hP _ _ ⟨rfl, _, rfl⟩)
theorem hX230 {d : Nat} {Bn Br : Int} {A0 A : hs_A} (hA : hJ Bn Br A0 A)  (a1 : Int32) : hxC (d + 3) 230 hm_m230 [.ref 368, .int a1] A (fun r A' => A = A' ∧ ∃ z : Int32, r = some (.int z)) := hxC.of (by rfl) (hY230 hA a1 (fun r A' h => h))
theorem hY232 {d : Nat} {N : Int} {A0 A : hs_A} (hA : hJ N (N + 72) A0 A) (hN : N ≤ 900000) (a1 : Int32) (a2 : Int32) {P : Option Value → hs_A → Prop} (hP : ∀ (r : Option Value) (A' : hs_A), (hJ (N + 72) (N + 144) A0 A' ∧ ∃ z : Int32, r = some (.int z)) → P r A') : hxa (d + 2) (some (.int)) hm_t232 0 [.ref 368, .int a1, .int a2] [] A P := by
  have k4294967295 := hk_4294967295
  refine hxa_aload_n (by rfl) rfl ?_
  refine hxj_getB (by rfl) (by rfl) (by rfl) hA (by rfl) (fun z1 ez1 fz1 gz1 => ?_)
  refine hxa_bipush (by rfl) rfl ?_
  refine hxj_ceq (by rfl) rfl hk_20 (fun q2 => ?_) (fun q2 => ?_)
  ·
    refine hxa_iconst (by rfl) rfl ?_
    exact hxa_ireturn (by rfl) rfl (hP _ _ ⟨(hJ.mono hA (by omega) (by omega)), _, rfl⟩)
  ·
    refine hxa_aload_n (by rfl) rfl ?_
    refine hxa_iload_n (by rfl) rfl ?_
    refine hxa_call0 (by rfl) (by rfl) (by rfl) (by rfl) (by rfl) (by rfl) (hX167 (d := d + 0) hA a1) ?_
    rintro _ _ ⟨rfl, z3, rfl, fz3⟩
    rcases fz3 with fz3 | fz3
    ·
      refine hxj_zeq (by rfl) rfl (fun q4 => False.elim (by omega)) (fun q4 => ?_)
      refine hxa_iload_n (by rfl) rfl ?_
      refine hxa_call2 (by rfl) (by decide) (by rfl) (by rfl) (by rfl) (hX168 (d := d + 0)  a2) ?_
      rintro _ _ ⟨rfl, z5, rfl, fz5⟩
      rcases fz5 with fz5 | fz5
      ·
        refine hxj_zne (by rfl) rfl (fun q6 => ?_) (fun q6 => False.elim (by omega))
        refine hxa_aload_n (by rfl) rfl ?_
        refine hxa_get (v := .ref 407) (by rfl) (by rfl) (by rfl) rfl ?_
        refine hxa_aload_n (by rfl) rfl ?_
        refine hxj_getK (by rfl) (by rfl) (by rfl) ez1 ?_
        refine hxa_iload_n (by rfl) rfl ?_
        refine hxj_iast (by rfl) (by rfl) rfl (by omega) (by omega) hA (hbok (by rfl) rfl (by omega) (by omega)) (by rfl) (by rfl) (fun A7 hA7 eA7 fA7 gA7 => ?_)
        refine hxa_aload_n (by rfl) rfl ?_
        refine hxa_get (v := .ref 408) (by rfl) (by rfl) (by rfl) rfl ?_
        refine hxa_aload_n (by rfl) rfl ?_
        refine hxj_getK (by rfl) (by rfl) (by rfl) (hkA eA7 ez1) ?_
        refine hxa_iload_n (by rfl) rfl ?_
        refine hxj_iast (by rfl) (by rfl) rfl (by omega) (by omega) hA7 (hbokN (by rfl)) (by rfl) (by rfl) (fun A8 hA8 eA8 fA8 gA8 => ?_)
        refine hxa_aload_n (by rfl) rfl ?_
        refine hxa_dupR (by rfl) ?_
        refine hxj_getK (by rfl) (by rfl) (by rfl) (hkA eA8 (hkA eA7 ez1)) ?_
        refine hxa_iconst (by rfl) rfl ?_
        refine hxj_iadd (by rfl) rfl hk_1 (by omega) (by omega) (fun z9 ez9 => ?_)
        refine hxj_putI (by rfl) (by rfl) (by rfl) (by rfl) hA8 (hbok (by rfl) rfl (by omega) (by omega)) (by rfl) (fun A10 hA10 eA10 fA10 => ?_)
        refine hxa_aload_n (by rfl) rfl ?_
        refine hxj_getK (by rfl) (by rfl) (by rfl) (hkS eA10) ?_
        refine hxa_iconst (by rfl) rfl ?_
        refine hxj_isub (by rfl) rfl hk_1 (by omega) (by omega) (fun z11 ez11 => ?_)
        exact hxa_ireturn (by rfl) rfl (hP _ _ ⟨(hJ.mono hA10 (by omega) (by omega)), _, rfl⟩)
      ·
        refine hxj_zne (by rfl) rfl (fun q12 => False.elim (by omega)) (fun q12 => ?_)
        refine hxa_iconst (by rfl) rfl ?_
        exact hxa_ireturn (by rfl) rfl (hP _ _ ⟨(hJ.mono hA (by omega) (by omega)), _, rfl⟩)
    ·
      refine hxj_zeq (by rfl) rfl (fun q13 => ?_) (fun q13 => False.elim (by omega))
      refine hxa_iconst (by rfl) rfl ?_
      exact hxa_ireturn (by rfl) rfl (hP _ _ ⟨(hJ.mono hA (by omega) (by omega)), _, rfl⟩)
theorem hX232 {d : Nat} {N : Int} {A0 A : hs_A} (hA : hJ N (N + 72) A0 A) (hN : N ≤ 900000) (a1 : Int32) (a2 : Int32) : hxC (d + 3) 232 hm_m232 [.ref 368, .int a1, .int a2] A (fun r A' => hJ (N + 72) (N + 144) A0 A' ∧ ∃ z : Int32, r = some (.int z)) := hxC.of (by rfl) (hY232 hA hN a1 a2 (fun r A' h => h))
theorem hY233 {d : Nat} {N : Int} {A0 A : hs_A} (hA : hJ N (N + 72) A0 A) (hN : N ≤ 900000)  {P : Option Value → hs_A → Prop} (hP : ∀ (r : Option Value) (A' : hs_A), (hJ (N + 72) (N + 144) A0 A' ∧ ∃ z : Int32, r = some (.int z)) → P r A') : hxa (d + 0) (some (.int)) hm_t233 0 [.ref 368, .retAddr 0] [] A P := by
  refine hxa_aload_n (by rfl) rfl ?_
  refine hxj_getB (by rfl) (by rfl) (by rfl) hA (by rfl) (fun z1 ez1 fz1 gz1 => ?_)
  refine hxa_s1 (by rfl) (Or.inl ⟨_, rfl, rfl⟩) rfl ?_
  refine hxa_aload_n (by rfl) rfl ?_
  refine hxa_iconst (by rfl) rfl ?_
  refine hxj_putI (by rfl) (by rfl) (by rfl) (by rfl) hA (hbok (by rfl) hk_0 (by omega) (by omega)) (by rfl) (fun A2 hA2 eA2 fA2 => ?_)
  refine hxa_iload_n (by rfl) rfl ?_
  exact hxa_ireturn (by rfl) rfl (hP _ _ ⟨(hJ.mono hA2 (by omega) (by omega)), _, rfl⟩)
theorem hX233 {d : Nat} {N : Int} {A0 A : hs_A} (hA : hJ N (N + 72) A0 A) (hN : N ≤ 900000)  : hxC (d + 1) 233 hm_m233 [.ref 368] A (fun r A' => hJ (N + 72) (N + 144) A0 A' ∧ ∃ z : Int32, r = some (.int z)) := hxC.of (by rfl) (hY233 hA hN (fun r A' h => h))
theorem hY238 {d : Nat} {N : Int} {A0 A : hs_A} (hA : hJ N (N + 72) A0 A) (hN : N ≤ 900000) (a1 : Int32) {P : Option Value → hs_A → Prop} (hP : ∀ (r : Option Value) (A' : hs_A), (hJ (N + 72) (N + 144) A0 A' ∧ ∃ z : Int32, r = some (.int z) ∧ ((0 ≤ z.toInt ∧ z.toInt ≤ 1))) → P r A') : hxa (d + 1) (some (.boolean)) hm_t238 0 [.ref 368, .int a1, .retAddr 0] [] A P := by
  have k0 := hk_0
  have k1 := hk_1
  have k2 := hk_2
  have L20 : ∀ (m20 : Nat) (x20_2 : Int32) (A20 : hs_A) (hA20 : hJ N (N + 72) A0 A20) (bx20_2 : 0 ≤ x20_2.toInt) (cx20_2 : x20_2.toInt ≤ 73) (ba1 : 0 ≤ a1.toInt) (ca1 : a1.toInt ≤ 2) (hm20 : 73 - x20_2.toInt < (m20 : Int)), hxa (d + 1) (some (.boolean)) hm_t238 20 [.ref 368, .int a1, .int x20_2] [] A20 P := by
    intro m20
    induction m20 with
    | zero => intro x20_2 A20 hA20 bx20_2 cx20_2 ba1 ca1 hm20;  exact False.elim (by omega)
    | succ m20 ih20 =>
      intro x20_2 A20 hA20 bx20_2 cx20_2 ba1 ca1 hm20
      refine hxa_iload_n (by rfl) rfl ?_
      refine hxa_bipush (by rfl) rfl ?_
      refine hxj_cge (by rfl) rfl hk_73 (fun q1 => ?_) (fun q1 => ?_)
      ·
        refine hxa_iconst (by rfl) rfl ?_
        exact hxa_ireturn (by rfl) (by rfl) (hP _ _ ⟨(hJ.mono hA20 (by omega) (by omega)), _, rfl, by omega⟩)
      ·
        refine hxa_aload_n (by rfl) rfl ?_
        refine hxa_get (v := .ref 410) (by rfl) (by rfl) (by rfl) rfl ?_
        refine hxa_bipush (by rfl) rfl ?_
        refine hxa_iload_n (by rfl) rfl ?_
        refine hxj_imul (by rfl) hk_73 rfl (by omega) (by omega) (fun z2 ez2 => ?_)
        refine hxa_iload_n (by rfl) rfl ?_
        refine hxj_iadd (by rfl) rfl rfl (by omega) (by omega) (fun z3 ez3 => ?_)
        refine hxa_aload_n (by rfl) rfl ?_
        refine hxa_get (v := .ref 396) (by rfl) (by rfl) (by rfl) rfl ?_
        refine hxa_iload_n (by rfl) rfl ?_
        refine hxj_iald395 (by rfl) rfl (by omega) (by omega) hA20 (fun z4 ez4 fz4 => ?_)
        refine hxj_iast409 (by rfl) rfl (by omega) (by omega) rfl hA20 (by omega) (fun A5 hA5 eA5 fA5 gA5 => ?_)
        refine hxj_iinc (by rfl) rfl rfl hk_1 (by omega) (by omega) (fun _ => rfl) (fun z6 ez6 => ?_)
        refine hxa_goto (by rfl) ?_
        exact ih20 z6 A5 hA5 (by omega) (by omega) (by omega) (by omega) (by omega)
  refine hxa_iload_n (by rfl) rfl ?_
  refine hxa_iconst (by rfl) rfl ?_
  refine hxa_iconst (by rfl) rfl ?_
  refine hxa_call2 (by rfl) (by decide) (by rfl) (by rfl) (by rfl) (hX164 (d := d + 0)  a1 (Int32.ofNat 0) (Int32.ofNat 2)) ?_
  rintro _ _ ⟨rfl, z7, rfl, fz7⟩
  rcases fz7 with fz7 | fz7
  ·
    refine hxj_zne (by rfl) rfl (fun q8 => ?_) (fun q8 => False.elim (by omega))
    refine hxa_aload_n (by rfl) rfl ?_
    refine hxa_get (v := .ref 409) (by rfl) (by rfl) (by rfl) rfl ?_
    refine hxa_iload_n (by rfl) rfl ?_
    refine hxa_iconst (by rfl) rfl ?_
    refine hxj_zast (by rfl) (by rfl) rfl (by omega) (by omega) hk_1 (by omega) (by omega) hA (hbokN (by rfl)) (by rfl) (by rfl) (fun A9 hA9 eA9 fA9 gA9 => ?_)
    refine hxa_iconst (by rfl) rfl ?_
    refine hxa_s1 (by rfl) (Or.inl ⟨_, rfl, rfl⟩) rfl ?_
    exact L20 (Int.toNat (73 - 0) + 1) (Int32.ofNat 0) A9 hA9 (by omega) (by omega) (by omega) (by omega) (by omega)
  ·
    refine hxj_zne (by rfl) rfl (fun q10 => False.elim (by omega)) (fun q10 => ?_)
    refine hxa_iconst (by rfl) rfl ?_
    exact hxa_ireturn (by rfl) (by rfl) (hP _ _ ⟨(hJ.mono hA (by omega) (by omega)), _, rfl, by omega⟩)
theorem hX238 {d : Nat} {N : Int} {A0 A : hs_A} (hA : hJ N (N + 72) A0 A) (hN : N ≤ 900000) (a1 : Int32) : hxC (d + 2) 238 hm_m238 [.ref 368, .int a1] A (fun r A' => hJ (N + 72) (N + 144) A0 A' ∧ ∃ z : Int32, r = some (.int z) ∧ ((0 ≤ z.toInt ∧ z.toInt ≤ 1))) := hxC.of (by rfl) (hY238 hA hN a1 (fun r A' h => h))
