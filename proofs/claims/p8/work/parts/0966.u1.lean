theorem hW136 {g d f : Nat} {A : hs_A} {B : Nat → Int} {n i : Nat} (a1 : Int32) (hA : hmTp B n A) (hBr : ∀ i, i < n → -128 ≤ B i ∧ B i ≤ 127) (h1 : a1.toInt = (i : Int)) {P : Option Value → hs_A → Prop} (hP : ∀ (r : Option Value) (A' : hs_A), (A = A' ∧ ∃ z : Int32, r = some (.int z) ∧ ((i < n ∧ ((0 ≤ B i ∧ z.toInt = B i) ∨ (B i < 0 ∧ -128 ≤ B i ∧ z.toInt = B i + 256))) ∨ (n ≤ i ∧ z.toInt = 0))) → P r A') : hpa (f, g) d (some (.int)) hm_t136 0 [.ref 368, .int a1] [] A P := by
  have k0 := hk_0
  have k255 := hk_255
  have hsz := hA.1
  refine hpa_iload_n (by rfl) rfl ?_
  refine hpa_aload_n (by rfl) rfl ?_
  refine hpj_getK (by rfl) (by rfl) (by rfl) rfl ?_
  refine hpj_cge (by rfl) rfl rfl (fun q1 => ?_) (fun q1 => ?_)
  ·
    refine hpa_iconst (by rfl) rfl ?_
    exact hpa_ireturn (by rfl) rfl (hP _ _ ⟨rfl, _, rfl, Or.inr ⟨by omega, hk_0⟩⟩)
  ·
    refine hpa_aload_n (by rfl) rfl ?_
    refine hpa_get (v := .ref 370) (by rfl) (by rfl) (by rfl) rfl ?_
    refine hpa_iload_n (by rfl) rfl ?_
    refine hpx_bald (by rfl) (by rfl) (fun h0v2 h1v2 v2 ev2 => ?_)
    have tv2 : v2.toInt = B i := by rw [← ev2]; exact (hA.2 (a1.toInt).toNat (by omega)).trans (by rw [show a1.toInt.toNat = i by omega])
    have hbr := hBr i (by omega)
    have ha := hand255 (x := v2) (by omega) (by omega)
    refine hpa_sipush (by rfl) rfl ?_
    refine hpa_iand (by rfl) ?_
    refine hpa_goto (by rfl) ?_
    exact hpa_ireturn (by rfl) rfl (hP _ _ ⟨rfl, _, rfl, Or.inl ⟨by omega, by omega⟩⟩)
theorem hP136 {g d : Nat} {A : hs_A} {B : Nat → Int} {n i : Nat} (a1 : Int32) (hA : hmTp B n A) (hBr : ∀ i, i < n → -128 ≤ B i ∧ B i ≤ 127) (h1 : a1.toInt = (i : Int)) : hpC g d 136 hm_m136 [.ref 368, .int a1] A (fun r A' => A = A' ∧ ∃ z : Int32, r = some (.int z) ∧ ((i < n ∧ ((0 ≤ B i ∧ z.toInt = B i) ∨ (B i < 0 ∧ -128 ≤ B i ∧ z.toInt = B i + 256))) ∨ (n ≤ i ∧ z.toInt = 0))) := hpC.all (fun f d => hW136 a1 hA hBr h1 (fun r A' h => h))
theorem hW137 {g d f : Nat} {A : hs_A} (a1 : Int32) {P : Option Value → hs_A → Prop} (hP : ∀ (r : Option Value) (A' : hs_A), (A = A' ∧ ∃ z : Int32, r = some (.int z) ∧ ((z.toInt = 1 ∧ 48 ≤ a1.toInt ∧ a1.toInt ≤ 57) ∨ (z.toInt = 0 ∧ ¬ (48 ≤ a1.toInt ∧ a1.toInt ≤ 57)))) → P r A') : hpa (f, g) d (some (.boolean)) hm_t137 0 [.int a1] [] A P := by
  have k0 := hk_0
  have k1 := hk_1
  have k48 := hk_48
  have k57 := hk_57
  refine hpa_iload_n (by rfl) rfl ?_
  refine hpa_bipush (by rfl) rfl ?_
  refine hpj_clt (by rfl) rfl hk_48 (fun q1 => ?_) (fun q1 => ?_)
  ·
    refine hpa_iconst (by rfl) rfl ?_
    exact hpa_ireturn (by rfl) (by rfl) (hP _ _ ⟨rfl, _, rfl, Or.inr ⟨hk_0, by omega⟩⟩)
  ·
    refine hpa_iload_n (by rfl) rfl ?_
    refine hpa_bipush (by rfl) rfl ?_
    refine hpj_cgt (by rfl) rfl hk_57 (fun q2 => ?_) (fun q2 => ?_)
    ·
      refine hpa_iconst (by rfl) rfl ?_
      exact hpa_ireturn (by rfl) (by rfl) (hP _ _ ⟨rfl, _, rfl, Or.inr ⟨hk_0, by omega⟩⟩)
    ·
      refine hpa_iconst (by rfl) rfl ?_
      refine hpa_goto (by rfl) ?_
      exact hpa_ireturn (by rfl) (by rfl) (hP _ _ ⟨rfl, _, rfl, Or.inl ⟨hk_1, by omega, by omega⟩⟩)
theorem hP137 {g d : Nat} {A : hs_A} (a1 : Int32) : hpC g d 137 hm_m137 [.int a1] A (fun r A' => A = A' ∧ ∃ z : Int32, r = some (.int z) ∧ ((z.toInt = 1 ∧ 48 ≤ a1.toInt ∧ a1.toInt ≤ 57) ∨ (z.toInt = 0 ∧ ¬ (48 ≤ a1.toInt ∧ a1.toInt ≤ 57)))) := hpC.all (fun f d => hW137 a1 (fun r A' h => h))
theorem hW138 {g d f : Nat} {A : hs_A} (a1 : Int32) {P : Option Value → hs_A → Prop} (hP : ∀ (r : Option Value) (A' : hs_A), (A = A' ∧ ∃ z : Int32, r = some (.int z) ∧ ((z.toInt = 1 ∧ 97 ≤ a1.toInt ∧ a1.toInt ≤ 122) ∨ (z.toInt = 0 ∧ ¬ (97 ≤ a1.toInt ∧ a1.toInt ≤ 122)))) → P r A') : hpa (f, g) d (some (.boolean)) hm_t138 0 [.int a1] [] A P := by
  have k0 := hk_0
  have k1 := hk_1
  have k122 := hk_122
  have k97 := hk_97
  refine hpa_iload_n (by rfl) rfl ?_
  refine hpa_bipush (by rfl) rfl ?_
  refine hpj_clt (by rfl) rfl hk_97 (fun q1 => ?_) (fun q1 => ?_)
  ·
    refine hpa_iconst (by rfl) rfl ?_
    exact hpa_ireturn (by rfl) (by rfl) (hP _ _ ⟨rfl, _, rfl, Or.inr ⟨hk_0, by omega⟩⟩)
  ·
    refine hpa_iload_n (by rfl) rfl ?_
    refine hpa_bipush (by rfl) rfl ?_
    refine hpj_cgt (by rfl) rfl hk_122 (fun q2 => ?_) (fun q2 => ?_)
    ·
      refine hpa_iconst (by rfl) rfl ?_
      exact hpa_ireturn (by rfl) (by rfl) (hP _ _ ⟨rfl, _, rfl, Or.inr ⟨hk_0, by omega⟩⟩)
    ·
      refine hpa_iconst (by rfl) rfl ?_
      refine hpa_goto (by rfl) ?_
      exact hpa_ireturn (by rfl) (by rfl) (hP _ _ ⟨rfl, _, rfl, Or.inl ⟨hk_1, by omega, by omega⟩⟩)
theorem hP138 {g d : Nat} {A : hs_A} (a1 : Int32) : hpC g d 138 hm_m138 [.int a1] A (fun r A' => A = A' ∧ ∃ z : Int32, r = some (.int z) ∧ ((z.toInt = 1 ∧ 97 ≤ a1.toInt ∧ a1.toInt ≤ 122) ∨ (z.toInt = 0 ∧ ¬ (97 ≤ a1.toInt ∧ a1.toInt ≤ 122)))) := hpC.all (fun f d => hW138 a1 (fun r A' h => h))
theorem hW139 {g d f : Nat} {A : hs_A} (a1 : Int64) (a2 : Int32) (hx0 : 0 ≤ a1.toInt) (hx1 : a1.toInt < 1099511627776) (hy0 : 97 ≤ a2.toInt) (hy1 : a2.toInt ≤ 122) {P : Option Value → hs_A → Prop} (hP : ∀ (r : Option Value) (A' : hs_A), (A = A' ∧ ∃ z : Int64, r = some (.long z) ∧ z.toInt = 27 * a1.toInt + (a2.toInt - 96)) → P r A') : hpa (f, g) d (some (.long)) hm_t139 0 [.long a1, .double 0, .int a2] [] A P := by
  have k1 := hk_1
  have k97 := hk_97
  refine hpa_iload_n (by rfl) rfl ?_
  refine hpj_zne (by rfl) rfl (fun q1 => ?_) (fun q1 => False.elim (by omega))
  refine hpa_ldc2_w (by rfl) rfl ?_
  refine hpa_lload_n (by rfl) rfl ?_
  refine hpa_lmul (by rfl) ?_
  refine hpa_iload_n (by rfl) rfl ?_
  refine hpa_bipush (by rfl) rfl ?_
  refine hpj_isub (by rfl) rfl hk_97 (by omega) (by omega) (fun z2 ez2 => ?_)
  refine hpa_iconst (by rfl) rfl ?_
  refine hpj_iadd (by rfl) rfl hk_1 (by omega) (by omega) (fun z3 ez3 => ?_)
  refine hpa_i2l (by rfl) ?_
  refine hpa_ladd (by rfl) ?_
  exact hpa_lreturn (by rfl) rfl (hP _ _ ⟨rfl, _, rfl, by have := h64app (x := a1) (y := z3) hx0 hx1 (by omega) (by omega); omega⟩)
theorem hP139 {g d : Nat} {A : hs_A} (a1 : Int64) (a2 : Int32) (hx0 : 0 ≤ a1.toInt) (hx1 : a1.toInt < 1099511627776) (hy0 : 97 ≤ a2.toInt) (hy1 : a2.toInt ≤ 122) : hpC g d 139 hm_m139 [.long a1, .int a2] A (fun r A' => A = A' ∧ ∃ z : Int64, r = some (.long z) ∧ z.toInt = 27 * a1.toInt + (a2.toInt - 96)) := hpC.all (fun f d => hW139 a1 a2 hx0 hx1 hy0 hy1 (fun r A' h => h))
theorem hW141 {g d f : Nat} {A : hs_A} {j : Nat} (a1 a2 a3 : Int32) (a4 : Int64) (hj : (A.1 367 10).toInt = (j : Int)) (hj4 : j ≤ 500) {P : Option Value → hs_A → Prop} (hP : ∀ (r : Option Value) (A' : hs_A), (r = none ∧ (hmG A A' j a1 a2 a3 a4)) → P r A') : hpa (f, g) d none hm_t141 0 [.ref 368, .int a1, .int a2, .int a3, .long a4, .double 0] [] A P := by
  have k1 := hk_1
  have hij : (A.1 367 10).toNatClampNeg = j := by have := hn_cn (j := A.1 367 10) (by omega); omega
  refine hpa_aload_n (by rfl) rfl ?_
  refine hpa_get (v := .ref 371) (by rfl) (by rfl) (by rfl) rfl ?_
  refine hpa_aload_n (by rfl) rfl ?_
  refine hpj_getK (by rfl) (by rfl) (by rfl) rfl ?_
  refine hpa_iload_n (by rfl) rfl ?_
  refine hpx_iast (by rfl) (by rfl) (fun A1 h0A1 h1A1 eA1 fA1 gA1 => ?_)
  rw [hij] at fA1
  refine hpa_aload_n (by rfl) rfl ?_
  refine hpa_get (v := .ref 372) (by rfl) (by rfl) (by rfl) rfl ?_
  refine hpa_aload_n (by rfl) rfl ?_
  refine hpj_getK (by rfl) (by rfl) (by rfl) (hkA eA1 rfl) ?_
  refine hpa_iload_n (by rfl) rfl ?_
  refine hpx_iast (by rfl) (by rfl) (fun A2 h0A2 h1A2 eA2 fA2 gA2 => ?_)
  rw [hij] at fA2
  refine hpa_aload_n (by rfl) rfl ?_
  refine hpa_get (v := .ref 373) (by rfl) (by rfl) (by rfl) rfl ?_
  refine hpa_aload_n (by rfl) rfl ?_
  refine hpj_getK (by rfl) (by rfl) (by rfl) (hkA eA2 (hkA eA1 rfl)) ?_
  refine hpa_iload_n (by rfl) rfl ?_
  refine hpx_iast (by rfl) (by rfl) (fun A3 h0A3 h1A3 eA3 fA3 gA3 => ?_)
  rw [hij] at fA3
  refine hpa_aload_n (by rfl) rfl ?_
  refine hpa_get (v := .ref 374) (by rfl) (by rfl) (by rfl) rfl ?_
  refine hpa_aload_n (by rfl) rfl ?_
  refine hpj_getK (by rfl) (by rfl) (by rfl) (hkA eA3 (hkA eA2 (hkA eA1 rfl))) ?_
  refine hpa_lload (by rfl) rfl ?_
  refine hpx_last (by rfl) (by rfl) (fun A4 h0A4 h1A4 eA4 fA4 gA4 iA4 => ?_)
  rw [hij] at gA4
  refine hpa_aload_n (by rfl) rfl ?_
  refine hpa_dupR (by rfl) ?_
  refine hpj_getK (by rfl) (by rfl) (by rfl) (hkA eA4 (hkA eA3 (hkA eA2 (hkA eA1 rfl)))) ?_
  refine hpa_iconst (by rfl) rfl ?_
  refine hpj_iadd (by rfl) rfl hk_1 (by omega) (by omega) (fun z5 ez5 => ?_)
  refine hpj_putI (by rfl) (by rfl) (by rfl) (by rfl) (fun A6 eA6 fA6 => ?_)
  exact hpa_return (by rfl) rfl (hP _ _ ⟨rfl, hmG.of eA1 fA1 gA1 eA2 fA2 gA2 eA3 fA3 gA3 eA4 fA4 gA4 iA4 eA6 fA6 (by omega)⟩)
theorem hP141 {g d : Nat} {A : hs_A} {j : Nat} (a1 a2 a3 : Int32) (a4 : Int64) (hj : (A.1 367 10).toInt = (j : Int)) (hj4 : j ≤ 500) : hpC g d 141 hm_m141 [.ref 368, .int a1, .int a2, .int a3, .long a4] A (fun r A' => r = none ∧ (hmG A A' j a1 a2 a3 a4)) := hpC.all (fun f d => hW141 a1 a2 a3 a4 hj hj4 (fun r A' h => h))
theorem hW143 {g d f : Nat} {A : hs_A} {j : Nat} {b : Int} (a1 a2 a3 : Int32) (hj : (A.1 367 10).toInt = (j : Int)) (hj4 : j ≤ 500) (hcb : (0 ≤ b ∧ b ≤ 127 ∧ a2.toInt = b) ∨ (b < 0 ∧ -128 ≤ b ∧ a2.toInt = b + 256)) {P : Option Value → hs_A → Prop} (hP : ∀ (r : Option Value) (A' : hs_A), (∃ z : Int32, r = some (.int z) ∧ z.toInt = 1 ∧ ∃ k : Int32, hmK k.toInt (ht_sg b) ∧ hmG A A' j k a1 (Int32.ofNat 0) (Int64.ofNat 0)) → P r A') : hpa (f, g) d (some (.int)) hm_t143 0 [.ref 368, .int a1, .int a2, .int a3, .retAddr 0] [] A P := by
  have k0 := hk_0
  have k1 := hk_1
  have k10 := hk_10
  have k13 := hk_13
  have k15 := hk_15
  have k3 := hk_3
  have k4 := hk_4
  have k40 := hk_40
  have k41 := hk_41
  have k42 := hk_42
  have k43 := hk_43
  have k45 := hk_45
  have k47 := hk_47
  have k5 := hk_5
  have k59 := hk_59
  have k6 := hk_6
  have k60 := hk_60
  have k61 := hk_61
  have k7 := hk_7
  have k8 := hk_8
  have k9 := hk_9
  refine hpa_iload_n (by rfl) rfl ?_
  refine hpa_bipush (by rfl) rfl ?_
  refine hpj_cne (by rfl) rfl hk_59 (fun q1 => ?_) (fun q1 => ?_)
  ·
    refine hpa_iload_n (by rfl) rfl ?_
    refine hpa_bipush (by rfl) rfl ?_
    refine hpj_cne (by rfl) rfl hk_61 (fun q2 => ?_) (fun q2 => ?_)
    ·
      refine hpa_iload_n (by rfl) rfl ?_
      refine hpa_bipush (by rfl) rfl ?_
      refine hpj_cne (by rfl) rfl hk_40 (fun q3 => ?_) (fun q3 => ?_)
      ·
        refine hpa_iload_n (by rfl) rfl ?_
        refine hpa_bipush (by rfl) rfl ?_
        refine hpj_cne (by rfl) rfl hk_41 (fun q4 => ?_) (fun q4 => ?_)
        ·
          refine hpa_iconst (by rfl) rfl ?_
          refine hpa_s1 (by rfl) (Or.inr ⟨_, rfl, rfl⟩) rfl ?_
          refine hpa_iload_n (by rfl) rfl ?_
          refine hpa_bipush (by rfl) rfl ?_
          refine hpj_cne (by rfl) rfl hk_43 (fun q5 => ?_) (fun q5 => ?_)
          ·
            refine hpa_iload_n (by rfl) rfl ?_
            refine hpa_bipush (by rfl) rfl ?_
            refine hpj_cne (by rfl) rfl hk_45 (fun q6 => ?_) (fun q6 => ?_)
            ·
              refine hpa_iload_n (by rfl) rfl ?_
              refine hpa_bipush (by rfl) rfl ?_
              refine hpj_cne (by rfl) rfl hk_42 (fun q7 => ?_) (fun q7 => ?_)
              ·
                refine hpa_iload_n (by rfl) rfl ?_
                refine hpa_bipush (by rfl) rfl ?_
                refine hpj_cne (by rfl) rfl hk_47 (fun q8 => ?_) (fun q8 => ?_)
                ·
                  refine hpa_iload_n (by rfl) rfl ?_
                  refine hpa_bipush (by rfl) rfl ?_
                  refine hpj_cne (by rfl) rfl hk_60 (fun q9 => ?_) (fun q9 => ?_)
                  ·
                    refine hpa_aload_n (by rfl) rfl ?_
                    refine hpa_iload (by rfl) rfl ?_
                    refine hpa_iload_n (by rfl) rfl ?_
                    refine hpa_iconst (by rfl) rfl ?_
                    refine hpa_lconst (by rfl) rfl ?_
                    refine hpa_call0 (by rfl) (by rfl) (by rfl) (by rfl) (by rfl) (by rfl) (hP141 (Int32.ofNat 3) a1 (Int32.ofNat 0) (Int64.ofNat 0) hj (by omega)) ?_
                    rintro _ A10 ⟨rfl, G_A10⟩
                    refine hpa_iconst (by rfl) rfl ?_
                    have hsb : ht_sg b = 23 := hsg_no (by omega) (by omega) (by omega) (by omega) (by omega) (by omega) (by omega) (by omega) (by omega)
                    exact hpa_ireturn (by rfl) rfl (hP _ _ ⟨_, rfl, hk_1, (Int32.ofNat 3), by rw [hsb, hk_3]; unfold hmK; omega, G_A10⟩)
                  ·
                    refine hpa_bipush (by rfl) rfl ?_
                    refine hpa_s1 (by rfl) (Or.inr ⟨_, rfl, rfl⟩) rfl ?_
                    refine hpa_aload_n (by rfl) rfl ?_
                    refine hpa_iload (by rfl) rfl ?_
                    refine hpa_iload_n (by rfl) rfl ?_
                    refine hpa_iconst (by rfl) rfl ?_
                    refine hpa_lconst (by rfl) rfl ?_
                    refine hpa_call0 (by rfl) (by rfl) (by rfl) (by rfl) (by rfl) (by rfl) (hP141 (Int32.ofNat 13) a1 (Int32.ofNat 0) (Int64.ofNat 0) hj (by omega)) ?_
                    rintro _ A11 ⟨rfl, G_A11⟩
                    refine hpa_iconst (by rfl) rfl ?_
                    have hsb : ht_sg b = 30 := (hsg_one (b := b)).2.2.2.2.2.2.1 (by omega)
                    exact hpa_ireturn (by rfl) rfl (hP _ _ ⟨_, rfl, hk_1, (Int32.ofNat 13), by rw [hsb, hk_13]; unfold hmK; omega, G_A11⟩)
                ·
                  refine hpa_bipush (by rfl) rfl ?_
                  refine hpa_s1 (by rfl) (Or.inr ⟨_, rfl, rfl⟩) rfl ?_
                  refine hpa_iload_n (by rfl) rfl ?_
                  refine hpa_bipush (by rfl) rfl ?_
                  refine hpj_cne (by rfl) rfl hk_60 (fun q12 => ?_) (fun q12 => False.elim (by omega))
                  refine hpa_aload_n (by rfl) rfl ?_
                  refine hpa_iload (by rfl) rfl ?_
                  refine hpa_iload_n (by rfl) rfl ?_
                  refine hpa_iconst (by rfl) rfl ?_
                  refine hpa_lconst (by rfl) rfl ?_
                  refine hpa_call0 (by rfl) (by rfl) (by rfl) (by rfl) (by rfl) (by rfl) (hP141 (Int32.ofNat 15) a1 (Int32.ofNat 0) (Int64.ofNat 0) hj (by omega)) ?_
                  rintro _ A13 ⟨rfl, G_A13⟩
                  refine hpa_iconst (by rfl) rfl ?_
                  have hsb : ht_sg b = 29 := (hsg_one (b := b)).2.2.2.2.2.1 (by omega)
                  exact hpa_ireturn (by rfl) rfl (hP _ _ ⟨_, rfl, hk_1, (Int32.ofNat 15), by rw [hsb, hk_15]; unfold hmK; omega, G_A13⟩)
              ·
                refine hpa_bipush (by rfl) rfl ?_
                refine hpa_s1 (by rfl) (Or.inr ⟨_, rfl, rfl⟩) rfl ?_
                refine hpa_iload_n (by rfl) rfl ?_
                refine hpa_bipush (by rfl) rfl ?_
                refine hpj_cne (by rfl) rfl hk_47 (fun q14 => ?_) (fun q14 => False.elim (by omega))
                refine hpa_iload_n (by rfl) rfl ?_
                refine hpa_bipush (by rfl) rfl ?_
                refine hpj_cne (by rfl) rfl hk_60 (fun q15 => ?_) (fun q15 => False.elim (by omega))
                refine hpa_aload_n (by rfl) rfl ?_
                refine hpa_iload (by rfl) rfl ?_
                refine hpa_iload_n (by rfl) rfl ?_
                refine hpa_iconst (by rfl) rfl ?_
                refine hpa_lconst (by rfl) rfl ?_
                refine hpa_call0 (by rfl) (by rfl) (by rfl) (by rfl) (by rfl) (by rfl) (hP141 (Int32.ofNat 10) a1 (Int32.ofNat 0) (Int64.ofNat 0) hj (by omega)) ?_
                rintro _ A16 ⟨rfl, G_A16⟩
                refine hpa_iconst (by rfl) rfl ?_
                have hsb : ht_sg b = 28 := (hsg_one (b := b)).2.2.2.2.1 (by omega)
                exact hpa_ireturn (by rfl) rfl (hP _ _ ⟨_, rfl, hk_1, (Int32.ofNat 10), by rw [hsb, hk_10]; unfold hmK; omega, G_A16⟩)
            ·
              refine hpa_bipush (by rfl) rfl ?_
              refine hpa_s1 (by rfl) (Or.inr ⟨_, rfl, rfl⟩) rfl ?_
              refine hpa_iload_n (by rfl) rfl ?_
              refine hpa_bipush (by rfl) rfl ?_
              refine hpj_cne (by rfl) rfl hk_42 (fun q17 => ?_) (fun q17 => False.elim (by omega))
              refine hpa_iload_n (by rfl) rfl ?_
              refine hpa_bipush (by rfl) rfl ?_
              refine hpj_cne (by rfl) rfl hk_47 (fun q18 => ?_) (fun q18 => False.elim (by omega))
              refine hpa_iload_n (by rfl) rfl ?_
              refine hpa_bipush (by rfl) rfl ?_
              refine hpj_cne (by rfl) rfl hk_60 (fun q19 => ?_) (fun q19 => False.elim (by omega))
              refine hpa_aload_n (by rfl) rfl ?_
              refine hpa_iload (by rfl) rfl ?_
              refine hpa_iload_n (by rfl) rfl ?_
              refine hpa_iconst (by rfl) rfl ?_
              refine hpa_lconst (by rfl) rfl ?_
              refine hpa_call0 (by rfl) (by rfl) (by rfl) (by rfl) (by rfl) (by rfl) (hP141 (Int32.ofNat 9) a1 (Int32.ofNat 0) (Int64.ofNat 0) hj (by omega)) ?_
              rintro _ A20 ⟨rfl, G_A20⟩
              refine hpa_iconst (by rfl) rfl ?_
              have hsb : ht_sg b = 27 := (hsg_one (b := b)).2.2.2.1 (by omega)
              exact hpa_ireturn (by rfl) rfl (hP _ _ ⟨_, rfl, hk_1, (Int32.ofNat 9), by rw [hsb, hk_9]; unfold hmK; omega, G_A20⟩)
          ·
            refine hpa_bipush (by rfl) rfl ?_
            refine hpa_s1 (by rfl) (Or.inr ⟨_, rfl, rfl⟩) rfl ?_
            refine hpa_iload_n (by rfl) rfl ?_
            refine hpa_bipush (by rfl) rfl ?_
            refine hpj_cne (by rfl) rfl hk_45 (fun q21 => ?_) (fun q21 => False.elim (by omega))
            refine hpa_iload_n (by rfl) rfl ?_
            refine hpa_bipush (by rfl) rfl ?_
            refine hpj_cne (by rfl) rfl hk_42 (fun q22 => ?_) (fun q22 => False.elim (by omega))
            refine hpa_iload_n (by rfl) rfl ?_
            refine hpa_bipush (by rfl) rfl ?_
            refine hpj_cne (by rfl) rfl hk_47 (fun q23 => ?_) (fun q23 => False.elim (by omega))
            refine hpa_iload_n (by rfl) rfl ?_
            refine hpa_bipush (by rfl) rfl ?_
            refine hpj_cne (by rfl) rfl hk_60 (fun q24 => ?_) (fun q24 => False.elim (by omega))
            refine hpa_aload_n (by rfl) rfl ?_
            refine hpa_iload (by rfl) rfl ?_
            refine hpa_iload_n (by rfl) rfl ?_
            refine hpa_iconst (by rfl) rfl ?_
            refine hpa_lconst (by rfl) rfl ?_
            refine hpa_call0 (by rfl) (by rfl) (by rfl) (by rfl) (by rfl) (by rfl) (hP141 (Int32.ofNat 8) a1 (Int32.ofNat 0) (Int64.ofNat 0) hj (by omega)) ?_
            rintro _ A25 ⟨rfl, G_A25⟩
            refine hpa_iconst (by rfl) rfl ?_
            have hsb : ht_sg b = 26 := (hsg_one (b := b)).2.2.1 (by omega)
            exact hpa_ireturn (by rfl) rfl (hP _ _ ⟨_, rfl, hk_1, (Int32.ofNat 8), by rw [hsb, hk_8]; unfold hmK; omega, G_A25⟩)
        ·
          refine hpa_bipush (by rfl) rfl ?_
          refine hpa_goto (by rfl) ?_
          refine hpa_s1 (by rfl) (Or.inr ⟨_, rfl, rfl⟩) rfl ?_
          refine hpa_iload_n (by rfl) rfl ?_
          refine hpa_bipush (by rfl) rfl ?_
          refine hpj_cne (by rfl) rfl hk_43 (fun q26 => ?_) (fun q26 => False.elim (by omega))
          refine hpa_iload_n (by rfl) rfl ?_
          refine hpa_bipush (by rfl) rfl ?_
          refine hpj_cne (by rfl) rfl hk_45 (fun q27 => ?_) (fun q27 => False.elim (by omega))
          refine hpa_iload_n (by rfl) rfl ?_
          refine hpa_bipush (by rfl) rfl ?_
          refine hpj_cne (by rfl) rfl hk_42 (fun q28 => ?_) (fun q28 => False.elim (by omega))
          refine hpa_iload_n (by rfl) rfl ?_
          refine hpa_bipush (by rfl) rfl ?_
          refine hpj_cne (by rfl) rfl hk_47 (fun q29 => ?_) (fun q29 => False.elim (by omega))
          refine hpa_iload_n (by rfl) rfl ?_
          refine hpa_bipush (by rfl) rfl ?_
          refine hpj_cne (by rfl) rfl hk_60 (fun q30 => ?_) (fun q30 => False.elim (by omega))
          refine hpa_aload_n (by rfl) rfl ?_
          refine hpa_iload (by rfl) rfl ?_
          refine hpa_iload_n (by rfl) rfl ?_
          refine hpa_iconst (by rfl) rfl ?_
          refine hpa_lconst (by rfl) rfl ?_
          refine hpa_call0 (by rfl) (by rfl) (by rfl) (by rfl) (by rfl) (by rfl) (hP141 (Int32.ofNat 7) a1 (Int32.ofNat 0) (Int64.ofNat 0) hj (by omega)) ?_
          rintro _ A31 ⟨rfl, G_A31⟩
          refine hpa_iconst (by rfl) rfl ?_
          have hsb : ht_sg b = 32 := (hsg_one (b := b)).2.2.2.2.2.2.2.2 (by omega)
          exact hpa_ireturn (by rfl) rfl (hP _ _ ⟨_, rfl, hk_1, (Int32.ofNat 7), by rw [hsb, hk_7]; unfold hmK; omega, G_A31⟩)
      ·
        refine hpa_bipush (by rfl) rfl ?_
        refine hpa_goto (by rfl) ?_
        refine hpa_s1 (by rfl) (Or.inr ⟨_, rfl, rfl⟩) rfl ?_
        refine hpa_iload_n (by rfl) rfl ?_
        refine hpa_bipush (by rfl) rfl ?_
        refine hpj_cne (by rfl) rfl hk_43 (fun q32 => ?_) (fun q32 => False.elim (by omega))
        refine hpa_iload_n (by rfl) rfl ?_
        refine hpa_bipush (by rfl) rfl ?_
        refine hpj_cne (by rfl) rfl hk_45 (fun q33 => ?_) (fun q33 => False.elim (by omega))
        refine hpa_iload_n (by rfl) rfl ?_
        refine hpa_bipush (by rfl) rfl ?_
        refine hpj_cne (by rfl) rfl hk_42 (fun q34 => ?_) (fun q34 => False.elim (by omega))
        refine hpa_iload_n (by rfl) rfl ?_
        refine hpa_bipush (by rfl) rfl ?_
        refine hpj_cne (by rfl) rfl hk_47 (fun q35 => ?_) (fun q35 => False.elim (by omega))
        refine hpa_iload_n (by rfl) rfl ?_
        refine hpa_bipush (by rfl) rfl ?_
        refine hpj_cne (by rfl) rfl hk_60 (fun q36 => ?_) (fun q36 => False.elim (by omega))
        refine hpa_aload_n (by rfl) rfl ?_
        refine hpa_iload (by rfl) rfl ?_
        refine hpa_iload_n (by rfl) rfl ?_
        refine hpa_iconst (by rfl) rfl ?_
        refine hpa_lconst (by rfl) rfl ?_
        refine hpa_call0 (by rfl) (by rfl) (by rfl) (by rfl) (by rfl) (by rfl) (hP141 (Int32.ofNat 6) a1 (Int32.ofNat 0) (Int64.ofNat 0) hj (by omega)) ?_
        rintro _ A37 ⟨rfl, G_A37⟩
        refine hpa_iconst (by rfl) rfl ?_
        have hsb : ht_sg b = 31 := (hsg_one (b := b)).2.2.2.2.2.2.2.1 (by omega)
        exact hpa_ireturn (by rfl) rfl (hP _ _ ⟨_, rfl, hk_1, (Int32.ofNat 6), by rw [hsb, hk_6]; unfold hmK; omega, G_A37⟩)
    ·
      refine hpa_iconst (by rfl) rfl ?_
      refine hpa_goto (by rfl) ?_
      refine hpa_s1 (by rfl) (Or.inr ⟨_, rfl, rfl⟩) rfl ?_
      refine hpa_iload_n (by rfl) rfl ?_
      refine hpa_bipush (by rfl) rfl ?_
      refine hpj_cne (by rfl) rfl hk_43 (fun q38 => ?_) (fun q38 => False.elim (by omega))
      refine hpa_iload_n (by rfl) rfl ?_
      refine hpa_bipush (by rfl) rfl ?_
      refine hpj_cne (by rfl) rfl hk_45 (fun q39 => ?_) (fun q39 => False.elim (by omega))
      refine hpa_iload_n (by rfl) rfl ?_
      refine hpa_bipush (by rfl) rfl ?_
      refine hpj_cne (by rfl) rfl hk_42 (fun q40 => ?_) (fun q40 => False.elim (by omega))
      refine hpa_iload_n (by rfl) rfl ?_
      refine hpa_bipush (by rfl) rfl ?_
      refine hpj_cne (by rfl) rfl hk_47 (fun q41 => ?_) (fun q41 => False.elim (by omega))
      refine hpa_iload_n (by rfl) rfl ?_
      refine hpa_bipush (by rfl) rfl ?_
      refine hpj_cne (by rfl) rfl hk_60 (fun q42 => ?_) (fun q42 => False.elim (by omega))
      refine hpa_aload_n (by rfl) rfl ?_
      refine hpa_iload (by rfl) rfl ?_
      refine hpa_iload_n (by rfl) rfl ?_
      refine hpa_iconst (by rfl) rfl ?_
      refine hpa_lconst (by rfl) rfl ?_
      refine hpa_call0 (by rfl) (by rfl) (by rfl) (by rfl) (by rfl) (by rfl) (hP141 (Int32.ofNat 5) a1 (Int32.ofNat 0) (Int64.ofNat 0) hj (by omega)) ?_
      rintro _ A43 ⟨rfl, G_A43⟩
      refine hpa_iconst (by rfl) rfl ?_
      have hsb : ht_sg b = 25 := (hsg_one (b := b)).2.1 (by omega)
      exact hpa_ireturn (by rfl) rfl (hP _ _ ⟨_, rfl, hk_1, (Int32.ofNat 5), by rw [hsb, hk_5]; unfold hmK; omega, G_A43⟩)
  ·
    refine hpa_iconst (by rfl) rfl ?_
    refine hpa_goto (by rfl) ?_
    refine hpa_s1 (by rfl) (Or.inr ⟨_, rfl, rfl⟩) rfl ?_
    refine hpa_iload_n (by rfl) rfl ?_
    refine hpa_bipush (by rfl) rfl ?_
    refine hpj_cne (by rfl) rfl hk_43 (fun q44 => ?_) (fun q44 => False.elim (by omega))
    refine hpa_iload_n (by rfl) rfl ?_
    refine hpa_bipush (by rfl) rfl ?_
    refine hpj_cne (by rfl) rfl hk_45 (fun q45 => ?_) (fun q45 => False.elim (by omega))
    refine hpa_iload_n (by rfl) rfl ?_
    refine hpa_bipush (by rfl) rfl ?_
    refine hpj_cne (by rfl) rfl hk_42 (fun q46 => ?_) (fun q46 => False.elim (by omega))
    refine hpa_iload_n (by rfl) rfl ?_
    refine hpa_bipush (by rfl) rfl ?_
    refine hpj_cne (by rfl) rfl hk_47 (fun q47 => ?_) (fun q47 => False.elim (by omega))
    refine hpa_iload_n (by rfl) rfl ?_
    refine hpa_bipush (by rfl) rfl ?_
    refine hpj_cne (by rfl) rfl hk_60 (fun q48 => ?_) (fun q48 => False.elim (by omega))
    refine hpa_aload_n (by rfl) rfl ?_
    refine hpa_iload (by rfl) rfl ?_
    refine hpa_iload_n (by rfl) rfl ?_
    refine hpa_iconst (by rfl) rfl ?_
    refine hpa_lconst (by rfl) rfl ?_
    refine hpa_call0 (by rfl) (by rfl) (by rfl) (by rfl) (by rfl) (by rfl) (hP141 (Int32.ofNat 4) a1 (Int32.ofNat 0) (Int64.ofNat 0) hj (by omega)) ?_
    rintro _ A49 ⟨rfl, G_A49⟩
    refine hpa_iconst (by rfl) rfl ?_
    have hsb : ht_sg b = 24 := (hsg_one (b := b)).1 (by omega)
    exact hpa_ireturn (by rfl) rfl (hP _ _ ⟨_, rfl, hk_1, (Int32.ofNat 4), by rw [hsb, hk_4]; unfold hmK; omega, G_A49⟩)
theorem hP143 {g d : Nat} {A : hs_A} {j : Nat} {b : Int} (a1 a2 a3 : Int32) (hj : (A.1 367 10).toInt = (j : Int)) (hj4 : j ≤ 500) (hcb : (0 ≤ b ∧ b ≤ 127 ∧ a2.toInt = b) ∨ (b < 0 ∧ -128 ≤ b ∧ a2.toInt = b + 256)) : hpC g d 143 hm_m143 [.ref 368, .int a1, .int a2, .int a3] A (fun r A' => ∃ z : Int32, r = some (.int z) ∧ z.toInt = 1 ∧ ∃ k : Int32, hmK k.toInt (ht_sg b) ∧ hmG A A' j k a1 (Int32.ofNat 0) (Int64.ofNat 0)) := hpC.all (fun f d => hW143 a1 a2 a3 hj hj4 hcb (fun r A' h => h))
theorem hW142 {g d f : Nat} {A : hs_A} {B : Nat → Int} {n : Nat} (hA : hmTp B n A) (hn : n ≤ 2000) (hBr : ∀ i, i < n → -128 ≤ B i ∧ B i ≤ 127) (hU : hcU A) {P : Option Value → hs_A → Prop} (hP : ∀ (r : Option Value) (A' : hs_A), (r = none ∧ (hmC A A' ∧ (hmT (ht_K B n) (ht_W B n) (fun u => (ht_S B n u : Int)) A' ∧ hmE (ht_K B n) (ht_E B n) A'))) → P r A') : hpa (f, g) d none hm_t142 0 [.ref 368, .retAddr 0, .retAddr 0, .retAddr 0, .retAddr 0, .retAddr 0, .retAddr 0, .retAddr 0] [] A P := by
  have k0 := hk_0
  have k1 := hk_1
  have k10 := hk_10
  have k13 := hk_13
  have k2 := hk_2
  have k20 := hk_20
  have k3 := hk_3
  have k32 := hk_32
  have k4 := hk_4
  have k400 := hk_400
  have k48 := hk_48
  have k8 := hk_8
  have k9 := hk_9
  have LL : ∀ f : Nat, (∀ (x7_1 : Int32) (x7_2 : Value) (x7_3 : Value) (x7_4 : Value) (x7_5 : Value) (x7_6 : Value) (x7_7 : Value) (A7 : hs_A) (j : Nat) (i : Nat) (li : x7_1.toInt = (i : Int)) (hi : i ≤ n) (run : ht_run B n ht_bl i = (ht_S B n j)) (tk : (A7.1 367 10).toInt = (j : Int)) (j401 : j ≤ 401) (fr : hmC A A7) (dn : ∀ u, u < j → hmD B n A7 u), hpa (f, g) d none hm_t142 7 [.ref 368, .int x7_1, x7_2, x7_3, x7_4, x7_5, x7_6, x7_7] [] A7 P) ∧ (∀ (x85_1 : Int32) (x85_2 : Int32) (x85_3 : Int32) (x85_4 : Int64) (x85_6 : Value) (x85_7 : Value) (A85 : hs_A) (j : Nat) (m : Nat) (tk : (A85.1 367 10).toInt = (j : Int)) (j401 : j ≤ 400) (fr : hmC A A85) (dn : ∀ u, u < j → hmD B n A85 u) (li : x85_1.toInt = ((ht_S B n j) : Int)) (lm : x85_3.toInt = (m : Int)) (hpn : (ht_S B n j) < n) (hl : ht_le (B (ht_S B n j)) = true) (hm : (ht_S B n j) + m ≤ n) (hall : ∀ i, (ht_S B n j) ≤ i → i < (ht_S B n j) + m → ht_le (B i) = true) (run : ht_run B n ht_le ((ht_S B n j) + m) = ht_run B n ht_le (ht_S B n j)) (nm : m ≤ 8 → x85_4.toInt = ht_g 27 96 (ht_rv B (ht_S B n j) m)), hpa (f, g) d none hm_t142 85 [.ref 368, .int x85_1, .int x85_2, .int x85_3, .long x85_4, .double 0, x85_6, x85_7] [] A85 P) ∧ (∀ (x146_1 : Int32) (x146_2 : Int32) (x146_3 : Int32) (x146_4 : Int64) (x146_6 : Int32) (x146_7 : Int32) (A146 : hs_A) (j : Nat) (m : Nat) (tk : (A146.1 367 10).toInt = (j : Int)) (j401 : j ≤ 400) (fr : hmC A A146) (dn : ∀ u, u < j → hmD B n A146 u) (li : x146_1.toInt = ((ht_S B n j) : Int)) (lm : x146_3.toInt = (m : Int)) (hpn : (ht_S B n j) < n) (hl : ht_le (B (ht_S B n j)) = true) (hm : (ht_S B n j) + m ≤ n) (hall : ∀ i, (ht_S B n j) ≤ i → i < (ht_S B n j) + m → ht_le (B i) = true) (hend : ht_run B n ht_le (ht_S B n j) = (ht_S B n j) + m) (hm8 : m ≤ 8) (nm : x146_4.toInt = ht_g 27 96 (ht_rv B (ht_S B n j) m)) (k0 : 0 ≤ x146_7.toInt) (k20 : x146_7.toInt ≤ 20) (kd : (x146_6.toInt = 1 ∧ ∀ q : Nat, (q : Int) < x146_7.toInt → ht_ws[q]? ≠ some (ht_sub B (ht_S B n j) ((ht_S B n j) + m))) ∨ (∃ q : Nat, (q : Int) < x146_7.toInt ∧ x146_6.toInt = 20 + (q : Int) ∧ ht_ws[q]? = some (ht_sub B (ht_S B n j) ((ht_S B n j) + m)))), hpa (f, g) d none hm_t142 146 [.ref 368, .int x146_1, .int x146_2, .int x146_3, .long x146_4, .double 0, .int x146_6, .int x146_7] [] A146 P) ∧ (∀ (x208_1 : Int32) (x208_2 : Int32) (x208_3 : Int32) (x208_4 : Int32) (x208_5 : Value) (x208_6 : Value) (x208_7 : Value) (A208 : hs_A) (j : Nat) (m : Nat) (tk : (A208.1 367 10).toInt = (j : Int)) (j401 : j ≤ 400) (fr : hmC A A208) (dn : ∀ u, u < j → hmD B n A208 u) (li : x208_1.toInt = ((ht_S B n j) : Int)) (lm : x208_3.toInt = (m : Int)) (hpn : (ht_S B n j) < n) (hnl : ¬ ht_le (B (ht_S B n j)) = true) (hl : ht_di (B (ht_S B n j)) = true) (hm : (ht_S B n j) + m ≤ n) (hall : ∀ i, (ht_S B n j) ≤ i → i < (ht_S B n j) + m → ht_di (B i) = true) (run : ht_run B n ht_di ((ht_S B n j) + m) = ht_run B n ht_di (ht_S B n j)) (nm : m ≤ 4 → x208_4.toInt = ht_g 10 48 (ht_rv B (ht_S B n j) m)), hpa (f, g) d none hm_t142 208 [.ref 368, .int x208_1, .int x208_2, .int x208_3, .int x208_4, x208_5, x208_6, x208_7] [] A208 P) := by
    intro f
    induction f with
    | zero => exact ⟨(by intros; exact hpa.zero), (by intros; exact hpa.zero), (by intros; exact hpa.zero), (by intros; exact hpa.zero)⟩
    | succ f ih =>
      obtain ⟨ih7, ih85, ih146, ih208⟩ := ih
      refine ⟨?_, ?_, ?_, ?_⟩
      ·
        intro x7_1 x7_2 x7_3 x7_4 x7_5 x7_6 x7_7 A7 j i li hi run tk j401 fr dn
        have hA7 := hA.C fr
        have hsz := hA7.1
        have hsl := ht_S_le B n j
        refine hpa_aload_nS (by rfl) rfl ?_
        refine hpj_getK (by rfl) (by rfl) (by rfl) rfl ?_
        refine hpa_sipush (by rfl) rfl ?_
        refine hpj_cgt (by rfl) rfl hk_400 (fun q1 => ?_) (fun q1 => ?_)
        ·
          exact hpa_return (by rfl) rfl (hP _ _ ⟨rfl, fr, hmT.of dn (fun u h1 _ => by omega) (hU.C fr)⟩)
        ·
          refine hpa_aload_n (by rfl) rfl ?_
          refine hpa_iload_n (by rfl) rfl ?_
          refine hpa_call0 (by rfl) (by rfl) (by rfl) (by rfl) (by rfl) (by rfl) (hP136 x7_1 hA7 hBr li) ?_
          rintro _ _ ⟨rfl, z3, rfl, by_A2⟩
          refine hpa_s1 (by rfl) (Or.inl ⟨_, rfl, rfl⟩) rfl ?_
          refine hpa_iload_n (by rfl) rfl ?_
          refine hpa_aload_n (by rfl) rfl ?_
          refine hpj_getK (by rfl) (by rfl) (by rfl) rfl ?_
          refine hpj_clt (by rfl) rfl rfl (fun q4 => ?_) (fun q4 => ?_)
          ·
            refine hpa_iload_n (by rfl) rfl ?_
            refine hpa_bipush (by rfl) rfl ?_
            refine hpj_ceq (by rfl) rfl hk_9 (fun q5 => ?_) (fun q5 => ?_)
            ·
              refine hpj_iinc (by rfl) rfl rfl hk_1 (by omega) (by omega) (fun _ => rfl) (fun z6 ez6 => ?_)
              refine hpa_goto (by rfl) ?_
              refine hpa_goto (by rfl) ?_
              exact ih7 z6 (.int z3) (x7_3) (x7_4) (x7_5) (x7_6) (x7_7) A7 j (i + 1) (by omega) (by omega) (by rw [← ht_run_go B n (i := i) (by omega) (ht_bl_iff.mpr (by omega))]; exact run) tk j401 fr dn
            ·
              refine hpa_iload_n (by rfl) rfl ?_
              refine hpa_bipush (by rfl) rfl ?_
              refine hpj_ceq (by rfl) rfl hk_10 (fun q7 => ?_) (fun q7 => ?_)
              ·
                refine hpj_iinc (by rfl) rfl rfl hk_1 (by omega) (by omega) (fun _ => rfl) (fun z8 ez8 => ?_)
                refine hpa_goto (by rfl) ?_
                refine hpa_goto (by rfl) ?_
                exact ih7 z8 (.int z3) (x7_3) (x7_4) (x7_5) (x7_6) (x7_7) A7 j (i + 1) (by omega) (by omega) (by rw [← ht_run_go B n (i := i) (by omega) (ht_bl_iff.mpr (by omega))]; exact run) tk j401 fr dn
              ·
                refine hpa_iload_n (by rfl) rfl ?_
                refine hpa_bipush (by rfl) rfl ?_
                refine hpj_ceq (by rfl) rfl hk_13 (fun q9 => ?_) (fun q9 => ?_)
                ·
                  refine hpj_iinc (by rfl) rfl rfl hk_1 (by omega) (by omega) (fun _ => rfl) (fun z10 ez10 => ?_)
                  refine hpa_goto (by rfl) ?_
                  refine hpa_goto (by rfl) ?_
                  exact ih7 z10 (.int z3) (x7_3) (x7_4) (x7_5) (x7_6) (x7_7) A7 j (i + 1) (by omega) (by omega) (by rw [← ht_run_go B n (i := i) (by omega) (ht_bl_iff.mpr (by omega))]; exact run) tk j401 fr dn
                ·
                  refine hpa_iload_n (by rfl) rfl ?_
                  refine hpa_bipush (by rfl) rfl ?_
                  refine hpj_cne (by rfl) rfl hk_32 (fun q11 => ?_) (fun q11 => ?_)
                  ·
                    have hiS : i = (ht_S B n j) := by rw [← run]; exact (ht_run_stop B n (fun w => absurd (ht_bl_iff.mp w.2) (by omega))).symm
                    rw [hiS] at by_A2
                    refine hpa_iload_n (by rfl) rfl ?_
                    refine hpa_call2 (by rfl) (by decide) (by rfl) (by rfl) (by rfl) (hP138 z3) ?_
                    rintro _ _ ⟨rfl, z13, rfl, (⟨fz_A12, lo_A12, hi_A12⟩ | ⟨fz_A12, no_A12⟩)⟩
                    ·
                      have hpn : (ht_S B n j) < n := by omega
                      have hl : ht_le (B (ht_S B n j)) = true := ht_le_iff.mpr ⟨by omega, by omega⟩
                      refine hpj_zeq (by rfl) rfl (fun q14 => False.elim (by omega)) (fun q14 => ?_)
                      refine hpa_iconst (by rfl) rfl ?_
                      refine hpa_s1 (by rfl) (Or.inl ⟨_, rfl, rfl⟩) rfl ?_
                      refine hpa_lconst (by rfl) rfl ?_
                      refine hpa_lstore (by rfl) rfl ?_
                      exact ih85 x7_1 z3 (Int32.ofNat 0) (Int64.ofNat 0) (x7_6) (x7_7) A7 j 0 tk (by omega) fr dn (by omega) hk_0 hpn hl (by omega) (fun i h1 h2 => absurd h2 (by omega)) (by rw [Nat.add_zero]) (fun _ => by show (Int64.ofNat 0).toInt = 0; decide)
                    ·
                      have hpn : (ht_S B n j) < n := by omega
                      have hnl : ¬ ht_le (B (ht_S B n j)) = true := ht_not_le (by omega)
                      refine hpj_zeq (by rfl) rfl (fun q15 => ?_) (fun q15 => False.elim (by omega))
                      refine hpa_iload_n (by rfl) rfl ?_
                      refine hpa_call2 (by rfl) (by decide) (by rfl) (by rfl) (by rfl) (hP137 z3) ?_
                      rintro _ _ ⟨rfl, z17, rfl, (⟨fz_A16, lo_A16, hi_A16⟩ | ⟨fz_A16, no_A16⟩)⟩
                      ·
                        have hl : ht_di (B (ht_S B n j)) = true := ht_di_iff.mpr ⟨by omega, by omega⟩
                        refine hpj_zeq (by rfl) rfl (fun q18 => False.elim (by omega)) (fun q18 => ?_)
                        refine hpa_iconst (by rfl) rfl ?_
                        refine hpa_s1 (by rfl) (Or.inl ⟨_, rfl, rfl⟩) rfl ?_
                        refine hpa_iconst (by rfl) rfl ?_
                        refine hpa_s1 (by rfl) (Or.inr ⟨_, rfl, rfl⟩) rfl ?_
                        exact ih208 x7_1 z3 (Int32.ofNat 0) (Int32.ofNat 0) (x7_5) (x7_6) (x7_7) A7 j 0 tk (by omega) fr dn (by omega) hk_0 hpn hnl hl (by omega) (fun i h1 h2 => absurd h2 (by omega)) (by rw [Nat.add_zero]) (fun _ => hk_0)
                      ·
                        have hnd : ¬ ht_di (B (ht_S B n j)) = true := ht_not_di (by omega)
                        refine hpj_zeq (by rfl) rfl (fun q19 => ?_) (fun q19 => False.elim (by omega))
                        refine hpa_iload_n (by rfl) rfl ?_
                        refine hpa_aload_n (by rfl) rfl ?_
                        refine hpa_iload_n (by rfl) rfl ?_
                        refine hpa_iload_n (by rfl) rfl ?_
                        refine hpa_aload_n (by rfl) rfl ?_
                        refine hpa_iload_n (by rfl) rfl ?_
                        refine hpa_iconst (by rfl) rfl ?_
                        refine hpj_iadd (by rfl) rfl hk_1 (by omega) (by omega) (fun z20 ez20 => ?_)
                        refine hpa_call0 (by rfl) (by rfl) (by rfl) (by rfl) (by rfl) (by rfl) (hP136 z20 hA7 hBr (show _ = (((ht_S B n j) + 1 : Nat) : Int) by omega)) ?_
                        rintro _ _ ⟨rfl, z22, rfl, by_A21⟩
                        refine hpa_call0 (by rfl) (by rfl) (by rfl) (by rfl) (by rfl) (by rfl) (hP143 x7_1 z3 z22 tk (by omega) (show (0 ≤ B (ht_S B n j) ∧ B (ht_S B n j) ≤ 127 ∧ z3.toInt = B (ht_S B n j)) ∨ (B (ht_S B n j) < 0 ∧ -128 ≤ B (ht_S B n j) ∧ z3.toInt = B (ht_S B n j) + 256) by have := hBr (ht_S B n j) hpn; omega)) ?_
                        rintro _ A23 ⟨z24, rfl, fz_A23, GX_A23⟩
                        obtain ⟨kx, hkx, Gx⟩ := GX_A23
                        have hKj : ht_K B n j = ht_sg (B (ht_S B n j)) := ht_kind_sg hpn hnl hnd
                        have hsr := ht_sg_rng (B (ht_S B n j))
                        have htk2 := Gx.1
                        have hfr2 := fr.more Gx
                        have hdn2 := hmD.more dn Gx (by rw [hKj]; exact hkx) (by omega) (fun q => absurd q (by omega)) (fun q => absurd q (by omega))
                        have htk3 := htk2
                        rw [show (j : Int) + 1 = ((j + 1 : Nat) : Int) by omega] at htk2
                        refine hpj_iadd (by rfl) rfl rfl (by omega) (by omega) (fun z25 ez25 => ?_)
                        refine hpa_s1 (by rfl) (Or.inl ⟨_, rfl, rfl⟩) rfl ?_
                        refine hpa_goto (by rfl) ?_
                        exact ih7 z25 (.int z3) (x7_3) (x7_4) (x7_5) (x7_6) (x7_7) A23 (j + 1) ((ht_S B n j) + 1) (by omega) (by omega) (by rw [show ((ht_S B n j) + 1) = ht_end B n (ht_S B n j) from by rw [ht_end_sg hpn hnl hnd]]; rfl) htk2 (by omega) hfr2 hdn2
                  ·
                    refine hpj_iinc (by rfl) rfl rfl hk_1 (by omega) (by omega) (fun _ => rfl) (fun z26 ez26 => ?_)
                    refine hpa_goto (by rfl) ?_
                    refine hpa_goto (by rfl) ?_
                    exact ih7 z26 (.int z3) (x7_3) (x7_4) (x7_5) (x7_6) (x7_7) A7 j (i + 1) (by omega) (by omega) (by rw [← ht_run_go B n (i := i) (by omega) (ht_bl_iff.mpr (by omega))]; exact run) tk j401 fr dn
          ·
            have hiS : i = (ht_S B n j) := by rw [← run]; exact (ht_run_stop B n (fun w => absurd w.1 (by omega))).symm
            refine hpa_aload_n (by rfl) rfl ?_
            refine hpa_iconst (by rfl) rfl ?_
            refine hpa_aload_n (by rfl) rfl ?_
            refine hpj_getK (by rfl) (by rfl) (by rfl) rfl ?_
            refine hpa_iconst (by rfl) rfl ?_
            refine hpa_lconst (by rfl) rfl ?_
            refine hpa_call0 (by rfl) (by rfl) (by rfl) (by rfl) (by rfl) (by rfl) (hP141 (Int32.ofNat 0) (A7.1 367 4) (Int32.ofNat 0) (Int64.ofNat 0) tk (by omega)) ?_
            rintro _ A27 ⟨rfl, G_A27⟩
            have hKj : ht_K B n j = 22 := ht_kind_end (by omega)
            have hdn2 := hmD.more dn G_A27 (by rw [hKj, hk_0]; exact hmK0) (by omega) (fun q => absurd q (by omega)) (fun q => absurd q (by omega))
            exact hpa_return (by rfl) rfl (hP _ _ ⟨rfl, fr.more G_A27, hmT.of hdn2 (fun u h1 h2 => by by_cases q : u ≤ j; (exact Nat.lt_succ_of_le q); exact absurd (h2 j (by omega)) (fun w => by omega)) (hU.C (fr.more G_A27))⟩)
      ·
        intro x85_1 x85_2 x85_3 x85_4 x85_6 x85_7 A85 j m tk j401 fr dn li lm hpn hl hm hall run nm
        have hA7 := hA.C fr
        have hsz := hA7.1
        have hsl := ht_S_le B n j
        refine hpa_aload_nS (by rfl) rfl ?_
        refine hpa_iload_n (by rfl) rfl ?_
        refine hpa_iload_n (by rfl) rfl ?_
        refine hpj_iadd (by rfl) rfl rfl (by omega) (by omega) (fun z28 ez28 => ?_)
        refine hpa_call0 (by rfl) (by rfl) (by rfl) (by rfl) (by rfl) (by rfl) (hP136 z28 hA7 hBr (show _ = (((ht_S B n j) + m : Nat) : Int) by omega)) ?_
        rintro _ _ ⟨rfl, z30, rfl, by_A29⟩
        refine hpa_call2 (by rfl) (by decide) (by rfl) (by rfl) (by rfl) (hP138 z30) ?_
        rintro _ _ ⟨rfl, z32, rfl, (⟨fz_A31, lo_A31, hi_A31⟩ | ⟨fz_A31, no_A31⟩)⟩
        ·
          refine hpj_zeq (by rfl) rfl (fun q33 => False.elim (by omega)) (fun q33 => ?_)
          refine hpa_iload_n (by rfl) rfl ?_
          refine hpa_bipush (by rfl) rfl ?_
          refine hpj_cge (by rfl) rfl hk_8 (fun q34 => ?_) (fun q34 => ?_)
          ·
            refine hpj_iinc (by rfl) rfl rfl hk_1 (by omega) (by omega) (fun _ => rfl) (fun z35 ez35 => ?_)
            refine hpa_goto (by rfl) ?_
            exact ih85 x85_1 x85_2 z35 x85_4 (x85_6) (x85_7) A85 j (m + 1) tk j401 fr dn li (by omega) hpn hl (by omega) (fun i h1 h2 => by by_cases q : i = (ht_S B n j) + m; (subst q; exact ht_le_iff.mpr ⟨by omega, by omega⟩); exact hall i h1 (by omega)) (by rw [← Nat.add_assoc, ← ht_run_go B n (i := (ht_S B n j) + m) (by omega) (ht_le_iff.mpr ⟨by omega, by omega⟩)]; exact run) (fun h => absurd h (by omega))
          ·
            refine hpa_lload (by rfl) rfl ?_
            refine hpa_aload_n (by rfl) rfl ?_
            refine hpa_iload_n (by rfl) rfl ?_
            refine hpa_iload_n (by rfl) rfl ?_
            refine hpj_iadd (by rfl) rfl rfl (by omega) (by omega) (fun z36 ez36 => ?_)
            refine hpa_call0 (by rfl) (by rfl) (by rfl) (by rfl) (by rfl) (by rfl) (hP136 z36 hA7 hBr (show _ = (((ht_S B n j) + m : Nat) : Int) by omega)) ?_
            rintro _ _ ⟨rfl, z38, rfl, by_A37⟩
            have hb27 := ht_g_bd (b := 27) (z := 96) (by omega) (l := ht_rv B (ht_S B n j) m) (fun c hc => by obtain ⟨i, i1, i2, rfl⟩ := ht_rv_mem hc; have := ht_le_iff.mp (hall i i1 i2); omega)
            rw [ht_rv_len, ← nm (by omega)] at hb27
            have hp27 : (27 : Int) ^ m ≤ 27 ^ 7 := hpowk (by omega) (by omega)
            refine hpa_call2 (by rfl) (by decide) (by rfl) (by rfl) (by rfl) (hP139 x85_4 z38 hb27.1 (by omega) (by omega) (by omega)) ?_
            rintro _ _ ⟨rfl, j40, rfl, ap_A39⟩
            refine hpa_lstore (by rfl) rfl ?_
            refine hpj_iinc (by rfl) rfl rfl hk_1 (by omega) (by omega) (fun _ => rfl) (fun z41 ez41 => ?_)
            refine hpa_goto (by rfl) ?_
            exact ih85 x85_1 x85_2 z41 j40 (x85_6) (x85_7) A85 j (m + 1) tk j401 fr dn li (by omega) hpn hl (by omega) (fun i h1 h2 => by by_cases q : i = (ht_S B n j) + m; (subst q; exact ht_le_iff.mpr ⟨by omega, by omega⟩); exact hall i h1 (by omega)) (by rw [← Nat.add_assoc, ← ht_run_go B n (i := (ht_S B n j) + m) (by omega) (ht_le_iff.mpr ⟨by omega, by omega⟩)]; exact run) (fun h => by show _ = 27 * ht_g 27 96 (ht_rv B (ht_S B n j) m) + (B ((ht_S B n j) + m) - 96); rw [← nm (by omega)]; omega)
        ·
          have hend : ht_run B n ht_le (ht_S B n j) = (ht_S B n j) + m := by rw [← run]; exact ht_run_stop B n (fun w => absurd (ht_le_iff.mp w.2) (by omega))
          refine hpj_zeq (by rfl) rfl (fun q42 => ?_) (fun q42 => False.elim (by omega))
          refine hpa_iload_n (by rfl) rfl ?_
          refine hpa_bipush (by rfl) rfl ?_
          refine hpj_cle (by rfl) rfl hk_8 (fun q43 => ?_) (fun q43 => ?_)
          ·
            refine hpa_iconst (by rfl) rfl ?_
            refine hpa_s1 (by rfl) (Or.inr ⟨_, rfl, rfl⟩) rfl ?_
            refine hpa_iload_n (by rfl) rfl ?_
            refine hpa_bipush (by rfl) rfl ?_
            refine hpj_cgt (by rfl) rfl hk_8 (fun q44 => False.elim (by omega)) (fun q44 => ?_)
            refine hpa_iconst (by rfl) rfl ?_
            refine hpa_s1 (by rfl) (Or.inr ⟨_, rfl, rfl⟩) rfl ?_
            exact ih146 x85_1 x85_2 x85_3 x85_4 (Int32.ofNat 1) (Int32.ofNat 0) A85 j m tk j401 fr dn li lm hpn hl hm hall hend (by omega) (nm (by omega)) (by omega) (by omega) (Or.inl ⟨hk_1, fun q hq => absurd hq (by omega)⟩)
          ·
            refine hpa_iconst (by rfl) rfl ?_
            refine hpa_goto (by rfl) ?_
            refine hpa_s1 (by rfl) (Or.inr ⟨_, rfl, rfl⟩) rfl ?_
            refine hpa_iload_n (by rfl) rfl ?_
            refine hpa_bipush (by rfl) rfl ?_
            refine hpj_cgt (by rfl) rfl hk_8 (fun q45 => ?_) (fun q45 => False.elim (by omega))
            refine hpa_aload_n (by rfl) rfl ?_
            refine hpa_iload (by rfl) rfl ?_
            refine hpa_iload_n (by rfl) rfl ?_
            refine hpa_iconst (by rfl) rfl ?_
            refine hpa_lload (by rfl) rfl ?_
            refine hpa_call0 (by rfl) (by rfl) (by rfl) (by rfl) (by rfl) (by rfl) (hP141 (Int32.ofNat 3) x85_1 (Int32.ofNat 0) x85_4 tk (by omega)) ?_
            rintro _ A46 ⟨rfl, G_A46⟩
            have hKdef : ht_K B n j = ht_kind B n (ht_S B n j) := rfl
            have hKj : ht_K B n j = 23 := by rw [hKdef, ht_kind_le hpn hl, if_neg (by omega)]
            have htk2 := G_A46.1
            have hfr2 := fr.more G_A46
            have hdn2 := hmD.more dn G_A46 (by rw [hKj, hk_3]; exact hmK3) (by omega) (fun q => absurd q (by omega)) (fun q => absurd q (by omega))
            have htk3 := htk2
            rw [show (j : Int) + 1 = ((j + 1 : Nat) : Int) by omega] at htk2
            refine hpa_iload_n (by rfl) rfl ?_
            refine hpa_iload_n (by rfl) rfl ?_
            refine hpj_iadd (by rfl) rfl rfl (by omega) (by omega) (fun z47 ez47 => ?_)
            refine hpa_s1 (by rfl) (Or.inl ⟨_, rfl, rfl⟩) rfl ?_
            refine hpa_goto (by rfl) ?_
            refine hpa_goto (by rfl) ?_
            exact ih7 z47 (.int x85_2) (.int x85_3) (.long x85_4) (.double 0) (.int (Int32.ofNat 3)) (x85_7) A46 (j + 1) ((ht_S B n j) + m) (by omega) (by omega) (by rw [show ((ht_S B n j) + m) = ht_end B n (ht_S B n j) from by rw [ht_end_le' hpn hl, hend]]; rfl) htk2 (by omega) hfr2 hdn2
      ·
        intro x146_1 x146_2 x146_3 x146_4 x146_6 x146_7 A146 j m tk j401 fr dn li lm hpn hl hm hall hend hm8 nm k0 k20 kd
        have hA7 := hA.C fr
        have hsz := hA7.1
        have hsl := ht_S_le B n j
        refine hpa_iloadS (by rfl) rfl ?_
        refine hpa_bipush (by rfl) rfl ?_
        refine hpj_cge (by rfl) rfl hk_20 (fun q48 => ?_) (fun q48 => ?_)
        ·
          refine hpa_aload_n (by rfl) rfl ?_
          refine hpa_iload (by rfl) rfl ?_
          refine hpa_iload_n (by rfl) rfl ?_
          refine hpa_iconst (by rfl) rfl ?_
          refine hpa_lload (by rfl) rfl ?_
          refine hpa_call0 (by rfl) (by rfl) (by rfl) (by rfl) (by rfl) (by rfl) (hP141 x146_6 x146_1 (Int32.ofNat 0) x146_4 tk (by omega)) ?_
          rintro _ A49 ⟨rfl, G_A49⟩
          have hKdef : ht_K B n j = ht_kind B n (ht_S B n j) := rfl
          have hKj := hkd_word hpn hl hend hm8 (by omega) k20 kd
          have htk2 := G_A49.1
          have hfr2 := fr.more G_A49
          have hdn2 := hmD.more dn G_A49 hKj.1 (by omega) (fun q => absurd q (by omega)) (fun _ => by unfold ht_M; rw [ht_end_le' hpn hl, hend, show (ht_S B n j) + m - (ht_S B n j) = m by omega]; exact nm)
          have htk3 := htk2
          rw [show (j : Int) + 1 = ((j + 1 : Nat) : Int) by omega] at htk2
          refine hpa_iload_n (by rfl) rfl ?_
          refine hpa_iload_n (by rfl) rfl ?_
          refine hpj_iadd (by rfl) rfl rfl (by omega) (by omega) (fun z50 ez50 => ?_)
          refine hpa_s1 (by rfl) (Or.inl ⟨_, rfl, rfl⟩) rfl ?_
          refine hpa_goto (by rfl) ?_
          refine hpa_goto (by rfl) ?_
          exact ih7 z50 (.int x146_2) (.int x146_3) (.long x146_4) (.double 0) (.int x146_6) (.int x146_7) A49 (j + 1) ((ht_S B n j) + m) (by omega) (by omega) (by rw [show ((ht_S B n j) + m) = ht_end B n (ht_S B n j) from by rw [ht_end_le' hpn hl, hend]]; rfl) htk2 (by omega) hfr2 hdn2
        ·
          refine hpa_aload_n (by rfl) rfl ?_
          refine hpa_get (v := .ref 375) (by rfl) (by rfl) (by rfl) rfl ?_
          refine hpa_iload (by rfl) rfl ?_
          refine hpx_lald (by rfl) (by rfl) (fun h0v51 h1v51 v51 ev51 => ?_)
          have hkv : (v51).toInt = ht_g 27 96 (hw_w x146_7.toInt.toNat).reverse := by rw [← ev51]; exact (hU.C fr).ky x146_7.toInt.toNat (by omega)
          have hki := hkey_iff (x := v51) (y := x146_4) (by omega) hkv nm hall
          refine hpa_lload (by rfl) rfl ?_
          refine hpa_lcmp (by rfl) ?_
          refine hpj_zne (by rfl) rfl (fun q52 => ?_) (fun q52 => ?_)
          ·
            have hno : ht_ws[x146_7.toInt.toNat]? ≠ some (ht_sub B (ht_S B n j) ((ht_S B n j) + m)) := fun w => q52 (hlg0.mpr (hki.mpr w))
            refine hpj_iinc (by rfl) rfl rfl hk_1 (by omega) (by omega) (fun _ => rfl) (fun z53 ez53 => ?_)
            refine hpa_goto (by rfl) ?_
            exact ih146 x146_1 x146_2 x146_3 x146_4 x146_6 z53 A146 j m tk j401 fr dn li lm hpn hl hm hall hend hm8 nm (by omega) (by omega) (by rcases kd with ⟨k1, k2⟩ | ⟨q, k1, k2, k3⟩; (exact Or.inl ⟨k1, fun q hq => by by_cases w : q = x146_7.toInt.toNat; (subst w; exact hno); exact k2 q (by omega)⟩); exact Or.inr ⟨q, by omega, k2, k3⟩)
          ·
            have hye := hki.mp (hlg0.mp q52)
            refine hpa_bipush (by rfl) rfl ?_
            refine hpa_iload (by rfl) rfl ?_
            refine hpj_iadd (by rfl) hk_20 rfl (by omega) (by omega) (fun z54 ez54 => ?_)
            refine hpa_s1 (by rfl) (Or.inr ⟨_, rfl, rfl⟩) rfl ?_
            refine hpj_iinc (by rfl) rfl rfl hk_1 (by omega) (by omega) (fun _ => rfl) (fun z55 ez55 => ?_)
            refine hpa_goto (by rfl) ?_
            exact ih146 x146_1 x146_2 x146_3 x146_4 z54 z55 A146 j m tk j401 fr dn li lm hpn hl hm hall hend hm8 nm (by omega) (by omega) (Or.inr ⟨x146_7.toInt.toNat, by omega, by omega, hye⟩)
      ·
        intro x208_1 x208_2 x208_3 x208_4 x208_5 x208_6 x208_7 A208 j m tk j401 fr dn li lm hpn hnl hl hm hall run nm
        have hA7 := hA.C fr
        have hsz := hA7.1
        have hsl := ht_S_le B n j
        refine hpa_aload_nS (by rfl) rfl ?_
        refine hpa_iload_n (by rfl) rfl ?_
        refine hpa_iload_n (by rfl) rfl ?_
        refine hpj_iadd (by rfl) rfl rfl (by omega) (by omega) (fun z56 ez56 => ?_)
        refine hpa_call0 (by rfl) (by rfl) (by rfl) (by rfl) (by rfl) (by rfl) (hP136 z56 hA7 hBr (show _ = (((ht_S B n j) + m : Nat) : Int) by omega)) ?_
        rintro _ _ ⟨rfl, z58, rfl, by_A57⟩
        refine hpa_call2 (by rfl) (by decide) (by rfl) (by rfl) (by rfl) (hP137 z58) ?_
        rintro _ _ ⟨rfl, z60, rfl, (⟨fz_A59, lo_A59, hi_A59⟩ | ⟨fz_A59, no_A59⟩)⟩
        ·
          refine hpj_zeq (by rfl) rfl (fun q61 => False.elim (by omega)) (fun q61 => ?_)
          refine hpa_iload_n (by rfl) rfl ?_
          refine hpa_iconst (by rfl) rfl ?_
          refine hpj_cge (by rfl) rfl hk_4 (fun q62 => ?_) (fun q62 => ?_)
          ·
            refine hpj_iinc (by rfl) rfl rfl hk_1 (by omega) (by omega) (fun _ => rfl) (fun z63 ez63 => ?_)
            refine hpa_goto (by rfl) ?_
            exact ih208 x208_1 x208_2 z63 x208_4 (x208_5) (x208_6) (x208_7) A208 j (m + 1) tk j401 fr dn li (by omega) hpn hnl hl (by omega) (fun i h1 h2 => by by_cases q : i = (ht_S B n j) + m; (subst q; exact ht_di_iff.mpr ⟨by omega, by omega⟩); exact hall i h1 (by omega)) (by rw [← Nat.add_assoc, ← ht_run_go B n (i := (ht_S B n j) + m) (by omega) (ht_di_iff.mpr ⟨by omega, by omega⟩)]; exact run) (fun h => absurd h (by omega))
          ·
            have hb10 := ht_g_bd (b := 10) (z := 48) (by omega) (l := ht_rv B (ht_S B n j) m) (fun c hc => by obtain ⟨i, i1, i2, rfl⟩ := ht_rv_mem hc; have := ht_di_iff.mp (hall i i1 i2); omega)
            rw [ht_rv_len, ← nm (by omega)] at hb10
            have hp10 : (10 : Int) ^ m ≤ 10 ^ 3 := hpowk (by omega) (by omega)
            refine hpa_bipush (by rfl) rfl ?_
            refine hpa_iload (by rfl) rfl ?_
            refine hpj_imul (by rfl) hk_10 rfl (by omega) (by omega) (fun z64 ez64 => ?_)
            refine hpa_aload_n (by rfl) rfl ?_
            refine hpa_iload_n (by rfl) rfl ?_
            refine hpa_iload_n (by rfl) rfl ?_
            refine hpj_iadd (by rfl) rfl rfl (by omega) (by omega) (fun z65 ez65 => ?_)
            refine hpa_call0 (by rfl) (by rfl) (by rfl) (by rfl) (by rfl) (by rfl) (hP136 z65 hA7 hBr (show _ = (((ht_S B n j) + m : Nat) : Int) by omega)) ?_
            rintro _ _ ⟨rfl, z67, rfl, by_A66⟩
            refine hpj_iadd (by rfl) rfl rfl (by omega) (by omega) (fun z68 ez68 => ?_)
            refine hpa_bipush (by rfl) rfl ?_
            refine hpj_isub (by rfl) rfl hk_48 (by omega) (by omega) (fun z69 ez69 => ?_)
            refine hpa_s1 (by rfl) (Or.inr ⟨_, rfl, rfl⟩) rfl ?_
            refine hpj_iinc (by rfl) rfl rfl hk_1 (by omega) (by omega) (fun _ => rfl) (fun z70 ez70 => ?_)
            refine hpa_goto (by rfl) ?_
            exact ih208 x208_1 x208_2 z70 z69 (x208_5) (x208_6) (x208_7) A208 j (m + 1) tk j401 fr dn li (by omega) hpn hnl hl (by omega) (fun i h1 h2 => by by_cases q : i = (ht_S B n j) + m; (subst q; exact ht_di_iff.mpr ⟨by omega, by omega⟩); exact hall i h1 (by omega)) (by rw [← Nat.add_assoc, ← ht_run_go B n (i := (ht_S B n j) + m) (by omega) (ht_di_iff.mpr ⟨by omega, by omega⟩)]; exact run) (fun h => by show _ = 10 * ht_g 10 48 (ht_rv B (ht_S B n j) m) + (B ((ht_S B n j) + m) - 48); rw [← nm (by omega)]; omega)
        ·
          have hend : ht_run B n ht_di (ht_S B n j) = (ht_S B n j) + m := by rw [← run]; exact ht_run_stop B n (fun w => absurd (ht_di_iff.mp w.2) (by omega))
          refine hpj_zeq (by rfl) rfl (fun q71 => ?_) (fun q71 => False.elim (by omega))
          refine hpa_aload_n (by rfl) rfl ?_
          refine hpa_iload_n (by rfl) rfl ?_
          refine hpa_iconst (by rfl) rfl ?_
          refine hpj_cle (by rfl) rfl hk_4 (fun q72 => ?_) (fun q72 => ?_)
          ·
            refine hpa_iconst (by rfl) rfl ?_
            refine hpa_iload_n (by rfl) rfl ?_
            refine hpa_iload (by rfl) rfl ?_
            refine hpa_lconst (by rfl) rfl ?_
            refine hpa_call0 (by rfl) (by rfl) (by rfl) (by rfl) (by rfl) (by rfl) (hP141 (Int32.ofNat 2) x208_1 x208_4 (Int64.ofNat 0) tk (by omega)) ?_
            rintro _ A73 ⟨rfl, G_A73⟩
            have hKdef : ht_K B n j = ht_kind B n (ht_S B n j) := rfl
            have hKj : ht_K B n j = 21 := by rw [hKdef, ht_kind_di hpn hnl hl, if_pos (by omega)]
            have htk2 := G_A73.1
            have hfr2 := fr.more G_A73
            have hdn2 := hmD.more dn G_A73 (by rw [hKj, hk_2]; exact hmK2) (by omega) (fun _ => by unfold ht_W ht_M; rw [ht_end_di hpn hnl hl, hend, show (ht_S B n j) + m - (ht_S B n j) = m by omega]; exact nm (by omega)) (fun q => absurd q (by omega))
            have htk3 := htk2
            rw [show (j : Int) + 1 = ((j + 1 : Nat) : Int) by omega] at htk2
            refine hpa_iload_n (by rfl) rfl ?_
            refine hpa_iload_n (by rfl) rfl ?_
            refine hpj_iadd (by rfl) rfl rfl (by omega) (by omega) (fun z74 ez74 => ?_)
            refine hpa_s1 (by rfl) (Or.inl ⟨_, rfl, rfl⟩) rfl ?_
            refine hpa_goto (by rfl) ?_
            refine hpa_goto (by rfl) ?_
            exact ih7 z74 (.int x208_2) (.int x208_3) (.int x208_4) (x208_5) (x208_6) (x208_7) A73 (j + 1) ((ht_S B n j) + m) (by omega) (by omega) (by rw [show ((ht_S B n j) + m) = ht_end B n (ht_S B n j) from by rw [ht_end_di hpn hnl hl, hend]]; rfl) htk2 (by omega) hfr2 hdn2
          ·
            refine hpa_iconst (by rfl) rfl ?_
            refine hpa_goto (by rfl) ?_
            refine hpa_iload_n (by rfl) rfl ?_
            refine hpa_iload (by rfl) rfl ?_
            refine hpa_lconst (by rfl) rfl ?_
            refine hpa_call0 (by rfl) (by rfl) (by rfl) (by rfl) (by rfl) (by rfl) (hP141 (Int32.ofNat 3) x208_1 x208_4 (Int64.ofNat 0) tk (by omega)) ?_
            rintro _ A75 ⟨rfl, G_A75⟩
            have hKdef : ht_K B n j = ht_kind B n (ht_S B n j) := rfl
            have hKj : ht_K B n j = 23 := by rw [hKdef, ht_kind_di hpn hnl hl, if_neg (by omega)]
            have htk2 := G_A75.1
            have hfr2 := fr.more G_A75
            have hdn2 := hmD.more dn G_A75 (by rw [hKj, hk_3]; exact hmK3) (by omega) (fun q => absurd q (by omega)) (fun q => absurd q (by omega))
            have htk3 := htk2
            rw [show (j : Int) + 1 = ((j + 1 : Nat) : Int) by omega] at htk2
            refine hpa_iload_n (by rfl) rfl ?_
            refine hpa_iload_n (by rfl) rfl ?_
            refine hpj_iadd (by rfl) rfl rfl (by omega) (by omega) (fun z76 ez76 => ?_)
            refine hpa_s1 (by rfl) (Or.inl ⟨_, rfl, rfl⟩) rfl ?_
            refine hpa_goto (by rfl) ?_
            refine hpa_goto (by rfl) ?_
            exact ih7 z76 (.int x208_2) (.int x208_3) (.int x208_4) (x208_5) (x208_6) (x208_7) A75 (j + 1) ((ht_S B n j) + m) (by omega) (by omega) (by rw [show ((ht_S B n j) + m) = ht_end B n (ht_S B n j) from by rw [ht_end_di hpn hnl hl, hend]]; rfl) htk2 (by omega) hfr2 hdn2
  have L7 := fun f => (LL f).1
  have L85 := fun f => (LL f).2.1
  have L146 := fun f => (LL f).2.2.1
  have L208 := fun f => (LL f).2.2.2
  refine hpa_aload_n (by rfl) rfl ?_
  refine hpa_iconst (by rfl) rfl ?_
  refine hpj_putI (by rfl) (by rfl) (by rfl) (by rfl) (fun A77 eA77 fA77 => ?_)
  refine hpa_iconst (by rfl) rfl ?_
  refine hpa_s1 (by rfl) (Or.inl ⟨_, rfl, rfl⟩) rfl ?_
  exact L7 _ (Int32.ofNat 0) (.retAddr 0) (.retAddr 0) (.retAddr 0) (.retAddr 0) (.retAddr 0) (.retAddr 0) A77 0 0 hk_0 (Nat.zero_le _) rfl (by rw [eA77, hup1]; exact hk_0) (by omega) ⟨fun i k hi => by rw [eA77, hup2 hi], fun i _ _ _ => by rw [fA77], fun c _ => by rw [fA77], by rw [fA77]⟩ (fun u hu => absurd hu (Nat.not_lt_zero u))
theorem hP142 {g d : Nat} {A : hs_A} {B : Nat → Int} {n : Nat} (hA : hmTp B n A) (hn : n ≤ 2000) (hBr : ∀ i, i < n → -128 ≤ B i ∧ B i ≤ 127) (hU : hcU A) : hpC g d 142 hm_m142 [.ref 368] A (fun r A' => r = none ∧ (hmC A A' ∧ (hmT (ht_K B n) (ht_W B n) (fun u => (ht_S B n u : Int)) A' ∧ hmE (ht_K B n) (ht_E B n) A'))) := hpC.all (fun f d => hW142 hA hn hBr hU (fun r A' h => h))
