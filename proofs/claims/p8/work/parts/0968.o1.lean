/-! QUERIES OF LAWS -/
def huIf (P : Prop) (v z : Int32) : Prop := (P ∧ z = v) ∨ (¬ P ∧ z = Int32.ofNat 4294967295)
theorem huIf_one {P : Prop} {v z z' : Int32} (h : huIf P v z) (h' : huIf P v z') : z = z' := by
  rcases h with ⟨a1, rfl⟩ | ⟨a1, rfl⟩
  · rcases h' with ⟨b1, rfl⟩ | ⟨b1, rfl⟩
    · rfl
    · exact absurd a1 b1
  · rcases h' with ⟨b1, rfl⟩ | ⟨b1, rfl⟩
    · exact absurd b1 a1
    · rfl
theorem hW77 {g d f : Nat} {A : hs_A} (a1 : Int32) {P : Option Value → hs_A → Prop} (hP : ∀ (r : Option Value) (A' : hs_A), (A = A' ∧ ∃ z : Int32, r = some (.int z) ∧ ((z.toInt = 1 ∧ 0 ≤ a1.toInt ∧ a1.toInt ≤ 255) ∨ (z.toInt = 0 ∧ (a1.toInt < 0 ∨ 255 < a1.toInt)))) → P r A') : hpa (f, g) d (some (.boolean)) hm_t77 0 [.int a1] [] A P := by
  have k0 := hk_0
  have k1 := hk_1
  have k256 := hk_256
  refine hpa_iload_n (by rfl) rfl ?_
  refine hpj_zlt (by rfl) rfl (fun q1 => ?_) (fun q1 => ?_)
  ·
    refine hpa_iconst (by rfl) rfl ?_
    exact hpa_ireturn (by rfl) (by rfl) (hP _ _ ⟨rfl, _, rfl, Or.inr ⟨hk_0, by omega⟩⟩)
  ·
    refine hpa_iload_n (by rfl) rfl ?_
    refine hpa_sipush (by rfl) rfl ?_
    refine hpj_cge (by rfl) rfl hk_256 (fun q2 => ?_) (fun q2 => ?_)
    ·
      refine hpa_iconst (by rfl) rfl ?_
      exact hpa_ireturn (by rfl) (by rfl) (hP _ _ ⟨rfl, _, rfl, Or.inr ⟨hk_0, by omega⟩⟩)
    ·
      refine hpa_iconst (by rfl) rfl ?_
      refine hpa_goto (by rfl) ?_
      exact hpa_ireturn (by rfl) (by rfl) (hP _ _ ⟨rfl, _, rfl, Or.inl ⟨hk_1, by omega, by omega⟩⟩)
theorem hP77 {g d : Nat} {A : hs_A} (a1 : Int32) : hpC g d 77 hm_m77 [.int a1] A (fun r A' => A = A' ∧ ∃ z : Int32, r = some (.int z) ∧ ((z.toInt = 1 ∧ 0 ≤ a1.toInt ∧ a1.toInt ≤ 255) ∨ (z.toInt = 0 ∧ (a1.toInt < 0 ∨ 255 < a1.toInt)))) := hpC.all (fun f d => hW77 a1 (fun r A' h => h))
theorem hW168 {g d f : Nat} {A : hs_A} (a1 : Int32) {P : Option Value → hs_A → Prop} (hP : ∀ (r : Option Value) (A' : hs_A), (A = A' ∧ ∃ z : Int32, r = some (.int z) ∧ ((z.toInt = 1 ∧ 0 ≤ a1.toInt ∧ a1.toInt ≤ 255) ∨ (z.toInt = 0 ∧ (a1.toInt < 0 ∨ 255 < a1.toInt)))) → P r A') : hpa (f, g) d (some (.boolean)) hm_t168 0 [.int a1] [] A P := by
  have k0 := hk_0
  have k255 := hk_255
  refine hpa_iload_n (by rfl) rfl ?_
  refine hpa_iconst (by rfl) rfl ?_
  refine hpa_sipush (by rfl) rfl ?_
  refine hpa_call2 (by rfl) (by decide) (by rfl) (by rfl) (by rfl) (hP164 a1 (Int32.ofNat 0) (Int32.ofNat 255)) ?_
  rintro _ _ ⟨rfl, z2, rfl, (⟨fz_A1, lo_A1, hi_A1⟩ | ⟨fz_A1, no_A1⟩)⟩
  ·
    exact hpa_ireturn (by rfl) (hn_fitB (by omega) (by omega)) (hP _ _ ⟨rfl, _, rfl, Or.inl ⟨fz_A1, by have := hk_0; omega, by have := hk_255; omega⟩⟩)
  ·
    exact hpa_ireturn (by rfl) (hn_fitB (by omega) (by omega)) (hP _ _ ⟨rfl, _, rfl, Or.inr ⟨fz_A1, by have := hk_0; have := hk_255; omega⟩⟩)
theorem hP168 {g d : Nat} {A : hs_A} (a1 : Int32) : hpC g d 168 hm_m168 [.int a1] A (fun r A' => A = A' ∧ ∃ z : Int32, r = some (.int z) ∧ ((z.toInt = 1 ∧ 0 ≤ a1.toInt ∧ a1.toInt ≤ 255) ∨ (z.toInt = 0 ∧ (a1.toInt < 0 ∨ 255 < a1.toInt)))) := hpC.all (fun f d => hW168 a1 (fun r A' h => h))
def uM81 : Nat := 323519360005807677536004181044235568083645733070486903550240528794624
theorem hW81 {g d f : Nat} {A : hs_A} {T n : Nat} {D : hg_D} {ro : Nat → Int32} (a1 a2 : Int32) (hT : hTT T) (h3 : A.2.2.2 0 3 = T + 1) (hTn : (A.1 T 4).toInt = (n : Int)) (hC : hdK T D A) (hL : hdL 26 ro n A) (hO : huO ro n) (hH0 : uf_H A) {P : Option Value → hs_A → Prop} (hP : ∀ (r : Option Value) (A' : hs_A), (∃ z : Int32, r = some (.int z) ∧ huIf (0 ≤ a1.toInt ∧ a1.toInt < (n : Int) ∧ 0 ≤ a2.toInt ∧ a2.toInt ≤ 255) (huW D (huX (Int32.ofNat n) ro a1 (ro 70)) a2) z) → P r A') : hpa (f, g) d (some (.int)) hm_t81 0 [.ref 1, .int a1, .int a2] [] A P := by
  have k4294967295 := hk_4294967295
  have hT9 : T ≤ 11 := by rcases hT with rfl | rfl <;> omega
  have hn10 := hL.1
  have cn := hn_c (n := n) (z := Int32.ofNat n) rfl (by omega)
  have U0 : uf_W uM81 A A := uf_W.rfl
  refine hpa_aload_n (by rfl) rfl ?_
  refine hpa_iload_n (by rfl) rfl ?_
  refine hpa_call0 (by rfl) (by rfl) (by rfl) (by rfl) (by rfl) (by rfl) (uf_C (X := ug_x96) (j := 96) rfl rfl (ug_L.cons (uf_rk_ok (by decide +kernel)) (uf_int uf_nil)) hH0 (hP76 a1 hT h3 hTn hL)) ?_
  rintro _ _ ⟨⟨rfl, z2, rfl, (⟨fz_A1, HS_A1⟩ | ⟨fz_A1, HS_A1⟩)⟩, -, -⟩
  ·
    have c1 := hn_cn (j := a1) (by omega)
    refine hpj_zeq (by rfl) rfl (fun q3 => False.elim (by omega)) (fun q3 => ?_)
    refine hpa_iload_n (by rfl) rfl ?_
    refine hpa_call2 (by rfl) (by decide) (by rfl) (by rfl) (by rfl) (uf_C (X := ug_x98) (j := 98) rfl rfl (uf_int uf_nil) hH0 (hP77 a2)) ?_
    rintro _ _ ⟨⟨rfl, z5, rfl, (⟨fz_A4, HS_A4⟩ | ⟨fz_A4, HS_A4⟩)⟩, -, -⟩
    ·
      refine hpj_zne (by rfl) rfl (fun q6 => ?_) (fun q6 => False.elim (by omega))
      refine hpa_aload_n (by rfl) rfl ?_
      refine hpa_get (v := .ref 324) (by rfl) (by rfl) (by rfl) rfl ?_
      refine hpa_aload_n (by rfl) rfl ?_
      refine hpj_getT (by rfl) (by rfl) (by rfl) h3 ?_
      refine hpa_aload_n (by rfl) rfl ?_
      refine hpa_get (v := .ref 27) (by rfl) (by rfl) (by rfl) rfl ?_
      refine hpa_iload_n (by rfl) rfl ?_
      refine hpa_aload_n (by rfl) rfl ?_
      refine hpa_get (v := .ref 27) (by rfl) (by rfl) (by rfl) rfl ?_
      refine hpj_getK (by rfl) (by rfl) (by rfl) rfl ?_
      rw [show (A.1 26 7) = ro 70 from hL.2.2.1.1]
      refine hpa_call0 (by rfl) (by rfl) (by rfl) (by rfl) (by rfl) (by rfl) (uf_C (X := ug_x133) (j := 133) rfl rfl (ug_L.cons (uf_rk_ok (by decide +kernel)) (ug_L.cons (by rcases hT with rfl | rfl <;> exact uf_rk_ok (by decide +kernel)) (ug_L.cons (uf_rk_ok (by decide +kernel)) (uf_int (uf_int uf_nil))))) hH0 (hP1_26 (h := a1.toNatClampNeg) a1 (ro 70) hT hC hL hO (by omega) (huI (by omega) (by omega)) hTn hH0)) ?_
      rintro _ A7 ⟨⟨rfl, SS_A7, FR_A7⟩, wA7, HA7⟩
      have UA7 := (U0).trans (wA7.le (by decide +kernel : ug_wle ug_x133.2.2.2.1 uM81 = true))
      refine hpa_aload_n (by rfl) rfl ?_
      refine hpa_get (v := .ref 324) (by rfl) (by rfl) (by rfl) rfl ?_
      refine hpa_iload_n (by rfl) rfl ?_
      have hCA7 : hdK T D A7 := hC.uf hT UA7 (by decide +kernel)
      refine hpa_call0 (by rfl) (by rfl) (by rfl) (by rfl) (by rfl) (by rfl) (uf_C (X := ug_x134) (j := 134) rfl rfl (ug_L.cons (uf_rk_ok (by decide +kernel)) (uf_int uf_nil)) HA7 (hP5 a2 hT hCA7 SS_A7 (by omega) (by omega) HA7)) ?_
      rintro _ A8 ⟨⟨z9, rfl, Z_A8, SS_A8, FR_A8⟩, wA8, HA8⟩
      have UA8 := (UA7).trans (wA8.le (by decide +kernel : ug_wle ug_x134.2.2.2.1 uM81 = true))
      subst Z_A8
      exact hpa_ireturn (by rfl) rfl (hP _ _ ⟨_, rfl, Or.inl ⟨⟨by omega, by omega, by omega, by omega⟩, rfl⟩⟩)
    ·
      refine hpj_zne (by rfl) rfl (fun q10 => False.elim (by omega)) (fun q10 => ?_)
      refine hpa_iconst (by rfl) rfl ?_
      exact hpa_ireturn (by rfl) rfl (hP _ _ ⟨_, rfl, Or.inr ⟨fun p => by omega, rfl⟩⟩)
  ·
    refine hpj_zeq (by rfl) rfl (fun q11 => ?_) (fun q11 => False.elim (by omega))
    refine hpa_iconst (by rfl) rfl ?_
    exact hpa_ireturn (by rfl) rfl (hP _ _ ⟨_, rfl, Or.inr ⟨fun p => by omega, rfl⟩⟩)
theorem hP81 {g d : Nat} {A : hs_A} {T n : Nat} {D : hg_D} {ro : Nat → Int32} (a1 a2 : Int32) (hT : hTT T) (h3 : A.2.2.2 0 3 = T + 1) (hTn : (A.1 T 4).toInt = (n : Int)) (hC : hdK T D A) (hL : hdL 26 ro n A) (hO : huO ro n) (hH0 : uf_H A) : hpC g d 81 hm_m81 [.ref 1, .int a1, .int a2] A (fun r A' => ∃ z : Int32, r = some (.int z) ∧ huIf (0 ≤ a1.toInt ∧ a1.toInt < (n : Int) ∧ 0 ≤ a2.toInt ∧ a2.toInt ≤ 255) (huW D (huX (Int32.ofNat n) ro a1 (ro 70)) a2) z) := hpC.all (fun f d => hW81 a1 a2 hT h3 hTn hC hL hO hH0 (fun r A' h => h))
def uM189 : Nat := 12433080910244666053884556203670521002511403769933692936904025444889660923967013444911104
theorem hW189 {g d f : Nat} {A : hs_A} {sd n : Nat} {D : hg_D} {ro : Nat → Int32} (a1 a2 : Int32) (hK : hrK sd D A) (hHn : A.2.1 376 sd = Int32.ofNat n) (h10 : n ≤ 10) (hg5 : ∀ k, k < 73 → A.2.1 395 k = ro k) (hH0 : uf_H A) {P : Option Value → hs_A → Prop} (hP : ∀ (r : Option Value) (A' : hs_A), (∃ z : Int32, r = some (.int z) ∧ huIf (0 ≤ a1.toInt ∧ a1.toInt < (n : Int) ∧ 0 ≤ a2.toInt ∧ a2.toInt ≤ 255) (huW D (huX (Int32.ofNat n) ro a1 (ro 70)) a2) z) → P r A') : hpa (f, g) d (some (.int)) hm_t189 0 [.ref 368, .int a1, .int a2] [] A P := by
  have k4294967295 := hk_4294967295
  have k70 := hk_70
  have k18 := hK.1
  have ksd := hK.2.1
  have cn := hn_c (n := n) (z := Int32.ofNat n) rfl (by omega)
  have U0 : uf_W uM189 A A := uf_W.rfl
  refine hpa_aload_n (by rfl) rfl ?_
  refine hpa_iload_n (by rfl) rfl ?_
  refine hpa_call0 (by rfl) (by rfl) (by rfl) (by rfl) (by rfl) (by rfl) (uf_C (X := ug_x97) (j := 97) rfl rfl (ug_L.cons (uf_rk_ok (by decide +kernel)) (uf_int uf_nil)) hH0 (hP167 a1 hK hHn h10 hg5)) ?_
  rintro _ _ ⟨⟨rfl, z2, rfl, (⟨fz_A1, HS_A1⟩ | ⟨fz_A1, HS_A1⟩)⟩, -, -⟩
  ·
    have c1 := hn_cn (j := a1) (by omega)
    refine hpj_zeq (by rfl) rfl (fun q3 => False.elim (by omega)) (fun q3 => ?_)
    refine hpa_iload_n (by rfl) rfl ?_
    refine hpa_call2 (by rfl) (by decide) (by rfl) (by rfl) (by rfl) (uf_C (X := ug_x99) (j := 99) rfl rfl (uf_int uf_nil) hH0 (hP168 a2)) ?_
    rintro _ _ ⟨⟨rfl, z5, rfl, (⟨fz_A4, HS_A4⟩ | ⟨fz_A4, HS_A4⟩)⟩, -, -⟩
    ·
      refine hpj_zne (by rfl) rfl (fun q6 => ?_) (fun q6 => False.elim (by omega))
      refine hpa_aload_n (by rfl) rfl ?_
      refine hpa_call0 (by rfl) (by rfl) (by rfl) (by rfl) (by rfl) (by rfl) (uf_C (X := ug_x113) (j := 113) rfl rfl (ug_L.cons (uf_rk_ok (by decide +kernel)) uf_nil) hH0 (hP171 hK hH0)) ?_
      rintro _ A7 ⟨⟨rfl, RW_A7, LS_A7, SL_A7⟩, wA7, HA7⟩
      have UA7 := (U0).trans (wA7.le (by decide +kernel : ug_wle ug_x113.2.2.2.1 uM189 = true))
      refine hpa_aload_n (by rfl) rfl ?_
      refine hpa_iload_n (by rfl) rfl ?_
      refine hpa_iload_n (by rfl) rfl ?_
      refine hpa_aload_n (by rfl) rfl ?_
      refine hpa_get (v := .ref 397) (by rfl) (by rfl) (by rfl) rfl ?_
      refine hpa_bipush (by rfl) rfl ?_
      refine hpx_iald (by rfl) (by rfl) (fun h0v8 h1v8 v8 ev8 => ?_)
      rw [show ((Int32.ofNat 70)).toNatClampNeg = 70 from by have := hn_cn (j := (Int32.ofNat 70)) (by omega); omega] at ev8
      have lv8 := ev8.symm.trans (show _ = ro 70 from (RW_A7 70 (by omega)).trans (hg5 70 (by omega)))
      clear ev8
      subst lv8
      have hKA7 : hrK sd D A7 := hK.uf UA7 (by decide +kernel)
      have hHnA7 : A7.2.1 376 sd = Int32.ofNat n := (UA7.2.1 376 _ _ sd rfl (by have := hK.2.1; omega) (by decide +kernel)).trans hHn
      refine hpa_call0 (by rfl) (by rfl) (by rfl) (by rfl) (by rfl) (by rfl) (uf_C (X := ug_x200) (j := 200) rfl rfl (ug_L.cons (uf_rk_ok (by decide +kernel)) (uf_int (uf_int (uf_int uf_nil)))) HA7 (hP181 (H := Int32.ofNat n) a1 a2 (ro 70) hKA7 hHnA7 (fun k hk => (RW_A7 k hk).trans (hg5 k hk)) (by omega) (by omega) (by omega) (by omega) HA7)) ?_
      rintro _ A9 ⟨⟨z10, rfl, Z_A9⟩, wA9, HA9⟩
      have UA9 := (UA7).trans (wA9.le (by decide +kernel : ug_wle ug_x200.2.2.2.1 uM189 = true))
      subst Z_A9
      exact hpa_ireturn (by rfl) rfl (hP _ _ ⟨_, rfl, Or.inl ⟨⟨by omega, by omega, by omega, by omega⟩, rfl⟩⟩)
    ·
      refine hpj_zne (by rfl) rfl (fun q11 => False.elim (by omega)) (fun q11 => ?_)
      refine hpa_iconst (by rfl) rfl ?_
      exact hpa_ireturn (by rfl) rfl (hP _ _ ⟨_, rfl, Or.inr ⟨fun p => by omega, rfl⟩⟩)
  ·
    refine hpj_zeq (by rfl) rfl (fun q12 => ?_) (fun q12 => False.elim (by omega))
    refine hpa_iconst (by rfl) rfl ?_
    exact hpa_ireturn (by rfl) rfl (hP _ _ ⟨_, rfl, Or.inr ⟨fun p => by omega, rfl⟩⟩)
theorem hP189 {g d : Nat} {A : hs_A} {sd n : Nat} {D : hg_D} {ro : Nat → Int32} (a1 a2 : Int32) (hK : hrK sd D A) (hHn : A.2.1 376 sd = Int32.ofNat n) (h10 : n ≤ 10) (hg5 : ∀ k, k < 73 → A.2.1 395 k = ro k) (hH0 : uf_H A) : hpC g d 189 hm_m189 [.ref 368, .int a1, .int a2] A (fun r A' => ∃ z : Int32, r = some (.int z) ∧ huIf (0 ≤ a1.toInt ∧ a1.toInt < (n : Int) ∧ 0 ≤ a2.toInt ∧ a2.toInt ≤ 255) (huW D (huX (Int32.ofNat n) ro a1 (ro 70)) a2) z) := hpC.all (fun f d => hW189 a1 a2 hK hHn h10 hg5 hH0 (fun r A' h => h))
