theorem huI_c {m : Nat} (h : m = 0) : Int32.ofNat 0 = Int32.ofNat m := by rw [h]
theorem hW242 {g d f : Nat} {A : hs_A} (a1 : Int32) (pa1 : 0 ≤ a1.toInt) (qa1 : a1.toInt < 1024) {P : Option Value → hs_A → Prop} (hP : ∀ (r : Option Value) (A' : hs_A), (A = A' ∧ ∃ z : Int32, r = some (.int z) ∧ z = huB 10 a1) → P r A') : hpa (f, g) d (some (.int)) hm_t242 0 [.int a1] [] A P := by
  have k1 := hk_1
  have k1431655765 := hk_1431655765
  have k16 := hk_16
  have k2 := hk_2
  have k252645135 := hk_252645135
  have k4 := hk_4
  have k63 := hk_63
  have k8 := hk_8
  have k858993459 := hk_858993459
  refine hpa_iload_n (by rfl) rfl ?_
  refine hpa_iload_n (by rfl) rfl ?_
  refine hpa_iconst (by rfl) rfl ?_
  refine hpa_iushr (by rfl) ?_
  refine hpa_ldc_w (by rfl) rfl ?_
  refine hpa_iand (by rfl) ?_
  refine hpa_isub (by rfl) ?_
  generalize hy1 : (a1 - ((((a1).toUInt32 >>> (((Int32.ofNat 1)).toUInt32 &&& Int32.toUInt32 31)).toInt32) &&& (Int32.ofNat 1431655765))) = y1
  refine hpa_s1 (by rfl) (Or.inl ⟨_, rfl, rfl⟩) rfl ?_
  refine hpa_iload_n (by rfl) rfl ?_
  refine hpa_ldc_w (by rfl) rfl ?_
  refine hpa_iand (by rfl) ?_
  refine hpa_iload_n (by rfl) rfl ?_
  refine hpa_iconst (by rfl) rfl ?_
  refine hpa_iushr (by rfl) ?_
  refine hpa_ldc_w (by rfl) rfl ?_
  refine hpa_iand (by rfl) ?_
  refine hpa_iadd (by rfl) ?_
  generalize hy2 : ((y1 &&& (Int32.ofNat 858993459)) + ((((y1).toUInt32 >>> (((Int32.ofNat 2)).toUInt32 &&& Int32.toUInt32 31)).toInt32) &&& (Int32.ofNat 858993459))) = y2
  refine hpa_s1 (by rfl) (Or.inl ⟨_, rfl, rfl⟩) rfl ?_
  refine hpa_iload_n (by rfl) rfl ?_
  refine hpa_iload_n (by rfl) rfl ?_
  refine hpa_iconst (by rfl) rfl ?_
  refine hpa_iushr (by rfl) ?_
  refine hpa_iadd (by rfl) ?_
  refine hpa_ldc_w (by rfl) rfl ?_
  refine hpa_iand (by rfl) ?_
  generalize hy3 : ((y2 + (((y2).toUInt32 >>> (((Int32.ofNat 4)).toUInt32 &&& Int32.toUInt32 31)).toInt32)) &&& (Int32.ofNat 252645135)) = y3
  refine hpa_s1 (by rfl) (Or.inl ⟨_, rfl, rfl⟩) rfl ?_
  refine hpa_iload_n (by rfl) rfl ?_
  refine hpa_iload_n (by rfl) rfl ?_
  refine hpa_bipush (by rfl) rfl ?_
  refine hpa_iushr (by rfl) ?_
  refine hpa_iadd (by rfl) ?_
  generalize hy4 : (y3 + (((y3).toUInt32 >>> (((Int32.ofNat 8)).toUInt32 &&& Int32.toUInt32 31)).toInt32)) = y4
  refine hpa_s1 (by rfl) (Or.inl ⟨_, rfl, rfl⟩) rfl ?_
  refine hpa_iload_n (by rfl) rfl ?_
  refine hpa_iload_n (by rfl) rfl ?_
  refine hpa_bipush (by rfl) rfl ?_
  refine hpa_iushr (by rfl) ?_
  refine hpa_iadd (by rfl) ?_
  generalize hy5 : (y4 + (((y4).toUInt32 >>> (((Int32.ofNat 16)).toUInt32 &&& Int32.toUInt32 31)).toInt32)) = y5
  refine hpa_s1 (by rfl) (Or.inl ⟨_, rfl, rfl⟩) rfl ?_
  refine hpa_iload_n (by rfl) rfl ?_
  refine hpa_bipush (by rfl) rfl ?_
  refine hpa_iand (by rfl) ?_
  exact hpa_ireturn (by rfl) rfl (hP _ _ ⟨rfl, _, rfl, by subst hy5 hy4 hy3 hy2 hy1; exact huw pa1 qa1⟩)
theorem hP242 {g d : Nat} {A : hs_A} (a1 : Int32) (pa1 : 0 ≤ a1.toInt) (qa1 : a1.toInt < 1024) : hpC g d 242 hm_m242 [.int a1] A (fun r A' => A = A' ∧ ∃ z : Int32, r = some (.int z) ∧ z = huB 10 a1) := hpC.all (fun f d => hW242 a1 pa1 qa1 (fun r A' h => h))
theorem hW244 {g d f : Nat} {A : hs_A} (a1 a2 : Int32) {P : Option Value → hs_A → Prop} (hP : ∀ (r : Option Value) (A' : hs_A), (A = A' ∧ ∃ z : Int32, r = some (.int z) ∧ z = (if a1.toInt < a2.toInt then a2 else a1)) → P r A') : hpa (f, g) d (some (.int)) hm_t244 0 [.int a1, .int a2] [] A P := by
  refine hpa_iload_n (by rfl) rfl ?_
  refine hpa_iload_n (by rfl) rfl ?_
  refine hpj_clt (by rfl) rfl rfl (fun q1 => ?_) (fun q1 => ?_)
  ·
    refine hpa_iload_n (by rfl) rfl ?_
    exact hpa_ireturn (by rfl) rfl (hP _ _ ⟨rfl, _, rfl, by rw [if_pos (by omega)]⟩)
  ·
    refine hpa_iload_n (by rfl) rfl ?_
    refine hpa_goto (by rfl) ?_
    exact hpa_ireturn (by rfl) rfl (hP _ _ ⟨rfl, _, rfl, by rw [if_neg (by omega)]⟩)
theorem hP244 {g d : Nat} {A : hs_A} (a1 a2 : Int32) : hpC g d 244 hm_m244 [.int a1, .int a2] A (fun r A' => A = A' ∧ ∃ z : Int32, r = some (.int z) ∧ z = (if a1.toInt < a2.toInt then a2 else a1)) := hpC.all (fun f d => hW244 a1 a2 (fun r A' h => h))
theorem hW245 {g d f : Nat} {A : hs_A} (a1 a2 : Int32) {P : Option Value → hs_A → Prop} (hP : ∀ (r : Option Value) (A' : hs_A), (A = A' ∧ ∃ z : Int32, r = some (.int z) ∧ z = (if a2.toInt < a1.toInt then a2 else a1)) → P r A') : hpa (f, g) d (some (.int)) hm_t245 0 [.int a1, .int a2] [] A P := by
  refine hpa_iload_n (by rfl) rfl ?_
  refine hpa_iload_n (by rfl) rfl ?_
  refine hpj_cgt (by rfl) rfl rfl (fun q1 => ?_) (fun q1 => ?_)
  ·
    refine hpa_iload_n (by rfl) rfl ?_
    exact hpa_ireturn (by rfl) rfl (hP _ _ ⟨rfl, _, rfl, by rw [if_pos (by omega)]⟩)
  ·
    refine hpa_iload_n (by rfl) rfl ?_
    refine hpa_goto (by rfl) ?_
    exact hpa_ireturn (by rfl) rfl (hP _ _ ⟨rfl, _, rfl, by rw [if_neg (by omega)]⟩)
theorem hP245 {g d : Nat} {A : hs_A} (a1 a2 : Int32) : hpC g d 245 hm_m245 [.int a1, .int a2] A (fun r A' => A = A' ∧ ∃ z : Int32, r = some (.int z) ∧ z = (if a2.toInt < a1.toInt then a2 else a1)) := hpC.all (fun f d => hW245 a1 a2 (fun r A' h => h))
theorem huC_mm {m : Nat} {v : Int32} (hm : m < 2147483648) : (if (Int32.ofNat 0).toInt < (if v.toInt < (Int32.ofNat m).toInt then v else Int32.ofNat m).toInt then (if v.toInt < (Int32.ofNat m).toInt then v else Int32.ofNat m) else Int32.ofNat 0) = huC m v := by
  have e0 := hk_0
  have em := hn_c (n := m) rfl hm
  unfold huC
  by_cases h0 : v.toInt < 0
  · rw [if_pos h0]
    by_cases h1 : v.toInt < (Int32.ofNat m).toInt
    · rw [if_pos h1, if_neg (by omega)]
    · exact absurd h1 (by omega)
  · rw [if_neg h0]
    by_cases h1 : v.toInt < (Int32.ofNat m).toInt
    · rw [if_pos h1, show (if (m : Int) < v.toInt then Int32.ofNat m else v) = v from if_neg (by omega)]
      by_cases h2 : (Int32.ofNat 0).toInt < v.toInt
      · rw [if_pos h2]
      · rw [if_neg h2]
        exact (huI (n := 0) (by omega) (by decide)).symm
    · rw [if_neg h1]
      by_cases h3 : (m : Int) < v.toInt
      · rw [if_pos h3]
        by_cases h2 : (Int32.ofNat 0).toInt < (Int32.ofNat m).toInt
        · rw [if_pos h2]
        · rw [if_neg h2]
          exact huI_c (by omega)
      · rw [if_neg h3]
        by_cases h2 : (Int32.ofNat 0).toInt < (Int32.ofNat m).toInt
        · rw [if_pos h2]
          exact (huI (n := m) (by omega) hm).symm
        · rw [if_neg h2]
          exact (huI (n := 0) (by omega) (by decide)).symm
theorem hub_lk {x : Int32} (h : ((x >>> (Int32.ofNat 3 &&& 31)) &&& Int32.ofNat 1).toInt = 0) {l : hg_C} (n : hg_np x l) : (1, 3) ∉ l := n h
theorem hW11 {g d f : Nat} {A : hs_A} {T : Nat} {D : hg_D} {q : Nat} (a1 a2 : Int32) (hT : hTT T) (hC : hdK T D A) (hq : q < 4) (h1 : a1.toInt = (q : Int)) (h2 : a2 = Int32.ofNat 3) {P : Option Value → hs_A → Prop} (hP : ∀ (r : Option Value) (A' : hs_A), (A = A' ∧ ∃ z : Int32, r = some (.int z) ∧ ((z.toInt = 1) ∨ (z.toInt = 0 ∧ ∃ f, (1, 3) ∉ hg_law f (D.2.2.2 q)))) → P r A') : hpa (f, g) d (some (.boolean)) hm_t11 0 [.ref (T + 5), .int a1, .int a2] [] A P := by
  have k0 := hk_0
  have k1 := hk_1
  obtain ⟨kw, V, ns, zz, k1, k2, kM, k3⟩ := hC
  obtain ⟨f0, b1, b2, b3, b4⟩ := kM.2.1 q hq
  refine hpa_aload_n (by rfl) rfl ?_
  refine hpa_get (v := .ref (T + 8)) (by rfl) (hsT4 hT) (by rfl) (hvT hT (by omega)) ?_
  refine hpa_iload_n (by rfl) rfl ?_
  refine hpx_iald (by rfl) (hsT7 hT) (fun h0v1 h1v1 v1 ev1 => ?_)
  rw [show (a1).toNatClampNeg = q by have := hn_cn (j := a1) (by omega); omega] at ev1
  refine hpa_iload_n (by rfl) rfl ?_
  refine hpa_ishr (by rfl) ?_
  refine hpa_iconst (by rfl) rfl ?_
  refine hpa_iand (by rfl) ?_
  refine hpj_zeq (by rfl) rfl (fun q2 => ?_) (fun q2 => ?_)
  ·
    rw [h2, ← ev1] at q2
    have NPQ := q2
    refine hpa_iconst (by rfl) rfl ?_
    exact hpa_ireturn (by rfl) (by rfl) (hP _ _ ⟨rfl, _, rfl, Or.inr ⟨hk_0, f0, b4 NPQ⟩⟩)
  ·
    refine hpa_iconst (by rfl) rfl ?_
    refine hpa_goto (by rfl) ?_
    exact hpa_ireturn (by rfl) (by rfl) (hP _ _ ⟨rfl, _, rfl, Or.inl hk_1⟩)
theorem hP11 {g d : Nat} {A : hs_A} {T : Nat} {D : hg_D} {q : Nat} (a1 a2 : Int32) (hT : hTT T) (hC : hdK T D A) (hq : q < 4) (h1 : a1.toInt = (q : Int)) (h2 : a2 = Int32.ofNat 3) : hpC g d 11 hm_m11 [.ref (T + 5), .int a1, .int a2] A (fun r A' => A = A' ∧ ∃ z : Int32, r = some (.int z) ∧ ((z.toInt = 1) ∨ (z.toInt = 0 ∧ ∃ f, (1, 3) ∉ hg_law f (D.2.2.2 q)))) := hpC.all (fun f d => hW11 a1 a2 hT hC hq h1 h2 (fun r A' h => h))
def uM2 : Nat := 20266198323692544
theorem hW2 {g d f : Nat} {A : hs_A} {T : Nat} {D : hg_D} {x : Nat → Int32} {q : Nat} (a1 : Int32) (hT : hTT T) (hC : hdK T D A) (hV : hdV T x A) (hQ : hdQt D x A) (hq : q ≤ 8) (ha : a1 = Int32.ofNat q) (hH0 : uf_H A) {P : Option Value → hs_A → Prop} (hP : ∀ (r : Option Value) (A' : hs_A), (∃ z : Int32, r = some (.int z) ∧ z = huT D x a1 ∧ hdV T x A' ∧ hdQt D x A' ∧ (A'.1 = A.1 ∧ ∀ i, ¬ i = 324 → ¬ i = 327 → ¬ i = T + 8 → A'.2.1 i = A.2.1 i)) → P r A') : hpa (f, g) d (some (.int)) hm_t2 0 [.ref 324, .int a1] [] A P := by
  have k0 := hk_0
  have k1 := hk_1
  have k4294967295 := hk_4294967295
  have k7 := hk_7
  have hT9 : T ≤ 11 := by rcases hT with rfl | rfl <;> omega
  have cq := hn_c (n := q) (z := Int32.ofNat q) rfl (by omega)
  have caq : a1.toInt = (q : Int) := by rw [ha]; exact cq
  have ciq : a1.toNatClampNeg = q := by have := hn_cn (j := a1) (by omega); omega
  have U0 : uf_W uM2 A A := uf_W.rfl
  refine hpa_aload_n (by rfl) rfl ?_
  refine hpa_get (v := .ref 328) (by rfl) (by rfl) (by rfl) rfl ?_
  refine hpa_iload_n (by rfl) rfl ?_
  refine hpx_iald (by rfl) (by rfl) (fun h0v1 h1v1 v1 ev1 => ?_)
  refine hpa_iconst (by rfl) rfl ?_
  refine hpj_cne (by rfl) rfl hk_4294967295 (fun q2 => ?_) (fun q2 => ?_)
  ·
    have QR : A.2.1 327 q = huT D x a1 := by rw [ha]; rcases hQ q hq with u | u; (rw [ciq, u] at ev1; exact False.elim (q2 (by rw [← ev1]; exact hk_4294967295))); exact u
    refine hpa_aload_n (by rfl) rfl ?_
    refine hpa_get (v := .ref 328) (by rfl) (by rfl) (by rfl) rfl ?_
    refine hpa_iload_n (by rfl) rfl ?_
    refine hpx_iald (by rfl) (by rfl) (fun h0v3 h1v3 v3 ev3 => ?_)
    exact hpa_ireturn (by rfl) rfl (hP _ _ ⟨_, rfl, by rw [← ev3, ciq]; exact QR, hV, hQ, rfl, fun _ _ _ _ => rfl⟩)
  ·
    refine hpa_aload_n (by rfl) rfl ?_
    refine hpa_get (v := .ref 328) (by rfl) (by rfl) (by rfl) rfl ?_
    refine hpa_iload_n (by rfl) rfl ?_
    refine hpa_iconst (by rfl) rfl ?_
    refine hpa_bipush (by rfl) rfl ?_
    refine hpa_aload_n (by rfl) rfl ?_
    refine hpj_getT (by rfl) (by rfl) (by rfl) hV.1 ?_
    refine hpa_iconst (by rfl) rfl ?_
    refine hpa_aload_n (by rfl) rfl ?_
    refine hpa_get (v := .ref 325) (by rfl) (by rfl) (by rfl) rfl ?_
    refine hpa_iconst (by rfl) rfl ?_
    refine hpa_iload_n (by rfl) rfl ?_
    refine hpa_call0 (by rfl) (by rfl) (by rfl) (hsT4 hT) (by rfl) (by rfl) (uf_C (X := ug_x218) (j := 218) rfl rfl (ug_L.cons (by rcases hT with rfl | rfl <;> exact uf_rk_ok (by decide +kernel)) (uf_int (ug_L.cons (uf_rk_ok (by decide +kernel)) (uf_int (uf_int uf_nil))))) hH0 (hP14k (q := 1) (Int32.ofNat 1) (Int32.ofNat 0) a1 hT hC hV (by omega) hk_1)) ?_
    rintro _ A4 ⟨⟨z5, rfl, Z_A4, F_A4, V_A4⟩, wA4, HA4⟩
    have UA4 := (U0).trans (wA4.le (by decide +kernel : ug_wle ug_x218.2.2.2.1 uM2 = true))
    refine hpa_call2 (by rfl) (by decide) (by rfl) (by rfl) (by rfl) (uf_C (X := ug_x249) (j := 249) rfl rfl (uf_int (uf_int uf_nil)) HA4 (hP245 (Int32.ofNat 7) z5)) ?_
    rintro _ _ ⟨⟨rfl, z7, rfl, Z_A6⟩, -, -⟩
    subst Z_A6
    refine hpa_call2 (by rfl) (by decide) (by rfl) (by rfl) (by rfl) (uf_C (X := ug_x215) (j := 215) rfl rfl (uf_int (uf_int uf_nil)) HA4 (hP244 (Int32.ofNat 0) ((if (z5).toInt < ((Int32.ofNat 7)).toInt then z5 else (Int32.ofNat 7))))) ?_
    rintro _ _ ⟨⟨rfl, z9, rfl, Z_A8⟩, -, -⟩
    subst Z_A8
    refine hpx_iast (by rfl) (by rfl) (fun A10 h0A10 h1A10 eA10 fA10 gA10 => ?_)
    have UA10 := (UA4).ar eA10 fA10 gA10 (by decide +kernel)
    have HA10 := (HA4).e (congrArg (fun q => q.2) gA10)
    rw [ciq, huC_mm (by decide), Z_A4] at fA10
    have VA10 : hdV T x A10 := ⟨by rw [gA10]; exact V_A4.1, fun i hi h3 h6 => by rw [fA10, hup2 (by omega)]; exact V_A4.2 i hi h3 h6⟩
    refine hpa_aload_n (by rfl) rfl ?_
    refine hpa_get (v := .ref 328) (by rfl) (by rfl) (by rfl) rfl ?_
    refine hpa_iload_n (by rfl) rfl ?_
    refine hpx_iald (by rfl) (by rfl) (fun h0v11 h1v11 v11 ev11 => ?_)
    exact hpa_ireturn (by rfl) rfl (hP _ _ ⟨_, rfl, by rw [← ev11, ciq, fA10, hup1, ha]; rfl, VA10, fun r hr => by rw [fA10]; by_cases s : r = q; (rw [s, hup1, ha]; exact Or.inr rfl); rw [hup2 (by omega), F_A4.2.2 327 (by omega) (by omega)]; exact hQ r hr, ⟨eA10.trans F_A4.1, fun i h1 h2 h3 => by rw [fA10]; funext j; rw [hup2 (by omega), F_A4.2.2 i h1 h3]⟩⟩)
theorem hP2 {g d : Nat} {A : hs_A} {T : Nat} {D : hg_D} {x : Nat → Int32} {q : Nat} (a1 : Int32) (hT : hTT T) (hC : hdK T D A) (hV : hdV T x A) (hQ : hdQt D x A) (hq : q ≤ 8) (ha : a1 = Int32.ofNat q) (hH0 : uf_H A) : hpC g d 2 hm_m2 [.ref 324, .int a1] A (fun r A' => ∃ z : Int32, r = some (.int z) ∧ z = huT D x a1 ∧ hdV T x A' ∧ hdQt D x A' ∧ (A'.1 = A.1 ∧ ∀ i, ¬ i = 324 → ¬ i = 327 → ¬ i = T + 8 → A'.2.1 i = A.2.1 i)) := hpC.all (fun f d => hW2 a1 hT hC hV hQ hq ha hH0 (fun r A' h => h))
def uM3 : Nat := 107839786668602559178668060348078522694548577690162292176214255207424
theorem hW3 {g d f : Nat} {A : hs_A} {T : Nat} {D : hg_D} {x : Nat → Int32} (hT : hTT T) (hC : hdK T D A) (hV : hdV T x A) (hQ : hdQh D x A) (hH0 : uf_H A) {P : Option Value → hs_A → Prop} (hP : ∀ (r : Option Value) (A' : hs_A), (∃ z : Int32, r = some (.int z) ∧ z = huU D x ∧ hdV T x A' ∧ hdQh D x A' ∧ ((∀ i k, ¬ (i = 323 ∧ k = 4) → A'.1 i k = A.1 i k) ∧ ∀ i, ¬ i = 324 → ¬ i = T + 8 → A'.2.1 i = A.2.1 i)) → P r A') : hpa (f, g) d (some (.int)) hm_t3 0 [.ref 324] [] A P := by
  have k0 := hk_0
  have k2 := hk_2
  have k255 := hk_255
  have k4294967295 := hk_4294967295
  have hT9 : T ≤ 11 := by rcases hT with rfl | rfl <;> omega
  have U0 : uf_W uM3 A A := uf_W.rfl
  refine hpa_aload_n (by rfl) rfl ?_
  refine hpj_getK (by rfl) (by rfl) (by rfl) rfl ?_
  refine hpa_iconst (by rfl) rfl ?_
  refine hpj_cne (by rfl) rfl hk_4294967295 (fun q1 => ?_) (fun q1 => ?_)
  ·
    have QR : A.1 323 4 = huU D x := by rcases hQ with u | u; exact False.elim (q1 (by rw [u]; exact hk_4294967295)); exact u
    refine hpa_aload_n (by rfl) rfl ?_
    refine hpj_getK (by rfl) (by rfl) (by rfl) rfl ?_
    exact hpa_ireturn (by rfl) rfl (hP _ _ ⟨_, rfl, QR, hV, hQ, fun _ _ _ => rfl, fun _ _ _ => rfl⟩)
  ·
    refine hpa_aload_n (by rfl) rfl ?_
    refine hpa_iconst (by rfl) rfl ?_
    refine hpa_sipush (by rfl) rfl ?_
    refine hpa_aload_n (by rfl) rfl ?_
    refine hpj_getT (by rfl) (by rfl) (by rfl) hV.1 ?_
    refine hpa_iconst (by rfl) rfl ?_
    refine hpa_aload_n (by rfl) rfl ?_
    refine hpa_get (v := .ref 325) (by rfl) (by rfl) (by rfl) rfl ?_
    refine hpa_iconst (by rfl) rfl ?_
    refine hpa_iconst (by rfl) rfl ?_
    refine hpa_call0 (by rfl) (by rfl) (by rfl) (hsT4 hT) (by rfl) (by rfl) (uf_C (X := ug_x218) (j := 218) rfl rfl (ug_L.cons (by rcases hT with rfl | rfl <;> exact uf_rk_ok (by decide +kernel)) (uf_int (ug_L.cons (uf_rk_ok (by decide +kernel)) (uf_int (uf_int uf_nil))))) hH0 (hP14k (q := 2) (Int32.ofNat 2) (Int32.ofNat 0) (Int32.ofNat 0) hT hC hV (by omega) hk_2)) ?_
    rintro _ A2 ⟨⟨z3, rfl, Z_A2, F_A2, V_A2⟩, wA2, HA2⟩
    have UA2 := (U0).trans (wA2.le (by decide +kernel : ug_wle ug_x218.2.2.2.1 uM3 = true))
    refine hpa_call2 (by rfl) (by decide) (by rfl) (by rfl) (by rfl) (uf_C (X := ug_x249) (j := 249) rfl rfl (uf_int (uf_int uf_nil)) HA2 (hP245 (Int32.ofNat 255) z3)) ?_
    rintro _ _ ⟨⟨rfl, z5, rfl, Z_A4⟩, -, -⟩
    subst Z_A4
    refine hpa_call2 (by rfl) (by decide) (by rfl) (by rfl) (by rfl) (uf_C (X := ug_x215) (j := 215) rfl rfl (uf_int (uf_int uf_nil)) HA2 (hP244 (Int32.ofNat 0) ((if (z3).toInt < ((Int32.ofNat 255)).toInt then z3 else (Int32.ofNat 255))))) ?_
    rintro _ _ ⟨⟨rfl, z7, rfl, Z_A6⟩, -, -⟩
    subst Z_A6
    refine hpj_putI (by rfl) (by rfl) (by rfl) (by rfl) (fun A8 eA8 fA8 => ?_)
    have UA8 := (UA2).put eA8 fA8 (by decide +kernel)
    have HA8 := (HA2).e (congrArg (fun q => q.2.2) fA8)
    rw [huC_mm (by decide), Z_A2] at eA8
    have VA8 : hdV T x A8 := ⟨by rw [fA8]; exact V_A2.1, fun i hi h3 h6 => by rw [fA8]; exact V_A2.2 i hi h3 h6⟩
    have EA8 : A8.1 323 4 = huU D x := by rw [eA8, hup1]; rfl
    refine hpa_aload_n (by rfl) rfl ?_
    refine hpj_getK (by rfl) (by rfl) (by rfl) rfl ?_
    exact hpa_ireturn (by rfl) rfl (hP _ _ ⟨_, rfl, EA8, VA8, Or.inr EA8, fun i k h => by rw [eA8, hup2 h, F_A2.1], fun i h1 h2 => by rw [fA8]; exact F_A2.2.2 i h1 h2⟩)
theorem hP3 {g d : Nat} {A : hs_A} {T : Nat} {D : hg_D} {x : Nat → Int32} (hT : hTT T) (hC : hdK T D A) (hV : hdV T x A) (hQ : hdQh D x A) (hH0 : uf_H A) : hpC g d 3 hm_m3 [.ref 324] A (fun r A' => ∃ z : Int32, r = some (.int z) ∧ z = huU D x ∧ hdV T x A' ∧ hdQh D x A' ∧ ((∀ i k, ¬ (i = 323 ∧ k = 4) → A'.1 i k = A.1 i k) ∧ ∀ i, ¬ i = 324 → ¬ i = T + 8 → A'.2.1 i = A.2.1 i)) := hpC.all (fun f d => hW3 hT hC hV hQ hH0 (fun r A' h => h))
def uM4 : Nat := 2251799814210560
theorem hW4 {g d f : Nat} {A : hs_A} {T : Nat} {D : hg_D} {x : Nat → Int32} (hT : hTT T) (hC : hdK T D A) (hV : hdV T x A) (hH0 : uf_H A) {P : Option Value → hs_A → Prop} (hP : ∀ (r : Option Value) (A' : hs_A), (∃ z : Int32, r = some (.int z) ∧ z = huE D x ∧ hdV T x A' ∧ hdF T A A') → P r A') : hpa (f, g) d (some (.int)) hm_t4 0 [.ref 324] [] A P := by
  have k0 := hk_0
  have k100 := hk_100
  have k3 := hk_3
  have hT9 : T ≤ 11 := by rcases hT with rfl | rfl <;> omega
  have U0 : uf_W uM4 A A := uf_W.rfl
  refine hpa_iconst (by rfl) rfl ?_
  refine hpa_bipush (by rfl) rfl ?_
  refine hpa_aload_n (by rfl) rfl ?_
  refine hpj_getT (by rfl) (by rfl) (by rfl) hV.1 ?_
  refine hpa_iconst (by rfl) rfl ?_
  refine hpa_aload_n (by rfl) rfl ?_
  refine hpa_get (v := .ref 325) (by rfl) (by rfl) (by rfl) rfl ?_
  refine hpa_iconst (by rfl) rfl ?_
  refine hpa_iconst (by rfl) rfl ?_
  refine hpa_call0 (by rfl) (by rfl) (by rfl) (hsT4 hT) (by rfl) (by rfl) (uf_C (X := ug_x218) (j := 218) rfl rfl (ug_L.cons (by rcases hT with rfl | rfl <;> exact uf_rk_ok (by decide +kernel)) (uf_int (ug_L.cons (uf_rk_ok (by decide +kernel)) (uf_int (uf_int uf_nil))))) hH0 (hP14k (q := 3) (Int32.ofNat 3) (Int32.ofNat 0) (Int32.ofNat 0) hT hC hV (by omega) hk_3)) ?_
  rintro _ A1 ⟨⟨z2, rfl, Z_A1, F_A1, V_A1⟩, wA1, HA1⟩
  have UA1 := (U0).trans (wA1.le (by decide +kernel : ug_wle ug_x218.2.2.2.1 uM4 = true))
  refine hpa_call2 (by rfl) (by decide) (by rfl) (by rfl) (by rfl) (uf_C (X := ug_x249) (j := 249) rfl rfl (uf_int (uf_int uf_nil)) HA1 (hP245 (Int32.ofNat 100) z2)) ?_
  rintro _ _ ⟨⟨rfl, z4, rfl, Z_A3⟩, -, -⟩
  subst Z_A3
  refine hpa_call2 (by rfl) (by decide) (by rfl) (by rfl) (by rfl) (uf_C (X := ug_x215) (j := 215) rfl rfl (uf_int (uf_int uf_nil)) HA1 (hP244 (Int32.ofNat 0) ((if (z2).toInt < ((Int32.ofNat 100)).toInt then z2 else (Int32.ofNat 100))))) ?_
  rintro _ _ ⟨⟨rfl, z6, rfl, Z_A5⟩, -, -⟩
  subst Z_A5
  exact hpa_ireturn (by rfl) rfl (hP _ _ ⟨_, rfl, by rw [huC_mm (by decide), Z_A1]; rfl, V_A1, F_A1⟩)
theorem hP4 {g d : Nat} {A : hs_A} {T : Nat} {D : hg_D} {x : Nat → Int32} (hT : hTT T) (hC : hdK T D A) (hV : hdV T x A) (hH0 : uf_H A) : hpC g d 4 hm_m4 [.ref 324] A (fun r A' => ∃ z : Int32, r = some (.int z) ∧ z = huE D x ∧ hdV T x A' ∧ hdF T A A') := hpC.all (fun f d => hW4 hT hC hV hH0 (fun r A' h => h))
def uM6 : Nat := 15762598696322048
theorem hub_255 : ∀ p, p < 8 → hub (Int32.ofNat 255) p = true := by decide +kernel
theorem hW6 {g d f : Nat} {A : hs_A} {T : Nat} {D : hg_D} {x : Nat → Int32} {q : Nat} (a1 a2 : Int32) (hT : hTT T) (hC : hdK T D A) (hV : hdV T x A) (hQ : hdQk D x A) (hq : q ≤ 8) (ha : a2 = Int32.ofNat q) (pa1 : 0 ≤ a1.toInt) (qa1 : a1.toInt ≤ 255) (hH0 : uf_H A) {P : Option Value → hs_A → Prop} (hP : ∀ (r : Option Value) (A' : hs_A), (∃ z : Int32, r = some (.int z) ∧ (0 ≤ z.toInt ∧ z.toInt ≤ 255) ∧ (∀ p, p < 8 → hub z p = (hub a1 p && huK D x a2 p)) ∧ hdV T x A' ∧ hdQk D x A' ∧ (A'.1 = A.1 ∧ ∀ i, ¬ i = 324 → ¬ i = 325 → ¬ i = 326 → ¬ i = T + 8 → A'.2.1 i = A.2.1 i)) → P r A') : hpa (f, g) d (some (.int)) hm_t6 0 [.ref 324, .int a1, .int a2, .retAddr 0, .retAddr 0] [] A P := by
  have k0 := hk_0
  have k1 := hk_1
  have k255 := hk_255
  have k3 := hk_3
  have k4294967295 := hk_4294967295
  have k8 := hk_8
  have hT9 : T ≤ 11 := by rcases hT with rfl | rfl <;> omega
  have cq := hn_c (n := q) (z := Int32.ofNat q) rfl (by omega)
  have caq : a2.toInt = (q : Int) := by rw [ha]; exact cq
  have ciq : a2.toNatClampNeg = q := by have := hn_cn (j := a2) (by omega); omega
  have QA := hQ q hq
  rw [← ha] at QA
  have aw : ∀ w : Int32, 0 ≤ (a1 &&& w).toInt ∧ (a1 &&& w).toInt ≤ 255 := fun w => by rw [Int32.and_comm]; have := hn_and (x := w) (y := a1) pa1; omega
  have U0 : uf_W uM6 A A := uf_W.rfl
  have L84 : ∀ (f : Nat) (x84_4 : Value) (x84_3 : Int32) (A84 : hs_A) (k : Nat) (bk : k ≤ 8) (ek : x84_3 = Int32.ofNat k) (B84 : hdB2 k a1 (A.2.1 325 q) (A84.2.1 326 q) (huK D x a2)) (V84 : hdV T x A84) (F84 : (A84.1 = A.1 ∧ (A84.2.1 325 = A.2.1 325) ∧ (∀ r, ¬ r = q → A84.2.1 326 r = A.2.1 326 r) ∧ ∀ i, ¬ i = 324 → ¬ i = 326 → ¬ i = T + 8 → A84.2.1 i = A.2.1 i)) (U84 : uf_W uM6 A A84) (H84 : uf_H A84), hpa (f, g) d (some (.int)) hm_t6 84 [.ref 324, .int a1, .int a2, .int x84_3, x84_4] [] A84 P := by
    intro f
    induction f with
    | zero => intros; exact hpa.zero
    | succ f ih84 =>
      intro x84_4 x84_3 A84 k bk ek B84 V84 F84 U84 H84
      subst ek
      have ck := hn_c (n := k) (z := Int32.ofNat k) rfl (by omega)
      refine hpa_iload_nS (by rfl) rfl ?_
      refine hpa_bipush (by rfl) rfl ?_
      refine hpj_cge (by rfl) ck hk_8 (fun q1 => ?_) (fun q1 => ?_)
      ·
        refine hpa_aload_n (by rfl) rfl ?_
        refine hpa_get (v := .ref 326) (by rfl) (by rfl) (by rfl) rfl ?_
        refine hpa_iload_n (by rfl) rfl ?_
        refine hpa_dup2IR (by rfl) ?_
        refine hpx_iald (by rfl) (by rfl) (fun h0v2 h1v2 v2 ev2 => ?_)
        rw [ciq] at ev2
        subst ev2
        refine hpa_iload_n (by rfl) rfl ?_
        refine hpa_ior (by rfl) ?_
        refine hpx_iast (by rfl) (by rfl) (fun A3 h0A3 h1A3 eA3 fA3 gA3 => ?_)
        have UA3 := (U84).ar eA3 fA3 gA3 (by decide +kernel)
        have HA3 := (H84).e (congrArg (fun q => q.2) gA3)
        rw [ciq] at fA3
        have k8 : k = 8 := by omega
        subst k8
        have VA3 : hdV T x A3 := ⟨by rw [gA3]; exact V84.1, fun i hi h3 h6 => by rw [fA3, hup2 (by omega)]; exact V84.2 i hi h3 h6⟩
        have QKA3 : hdQk D x A3 := fun r hr => by
          by_cases s : r = q
          · rw [s, ← ha, fA3, hup1, hup2 (by omega), F84.2.1]; exact B84.fin
          · rw [fA3, hup2 (by omega), hup2 (by omega), F84.2.1, F84.2.2.1 r s]; exact hQ r hr
        refine hpa_iload_n (by rfl) rfl ?_
        refine hpa_aload_n (by rfl) rfl ?_
        refine hpa_get (v := .ref 327) (by rfl) (by rfl) (by rfl) rfl ?_
        refine hpa_iload_n (by rfl) rfl ?_
        refine hpx_iald (by rfl) (by rfl) (fun h0v4 h1v4 v4 ev4 => ?_)
        rw [ciq] at ev4
        subst ev4
        refine hpa_iand (by rfl) ?_
        exact hpa_ireturn (by rfl) rfl (hP _ _ ⟨_, rfl, aw _, by rw [fA3, hup2 (by omega)]; exact B84.and, VA3, QKA3, ⟨eA3.trans F84.1, fun i h1 h2 h3 h4 => by rw [← F84.2.2.2 i h1 h3 h4, fA3]; funext j; exact hup2 (by omega)⟩⟩)
      ·
        refine hpa_iconst (by rfl) rfl ?_
        refine hpa_iload_n (by rfl) rfl ?_
        refine hpa_ishl (by rfl) ?_
        refine hpa_s1 (by rfl) (Or.inr ⟨_, rfl, rfl⟩) rfl ?_
        refine hpa_iload_n (by rfl) rfl ?_
        refine hpa_iload (by rfl) rfl ?_
        refine hpa_iand (by rfl) ?_
        refine hpa_aload_n (by rfl) rfl ?_
        refine hpa_get (v := .ref 326) (by rfl) (by rfl) (by rfl) rfl ?_
        refine hpa_iload_n (by rfl) rfl ?_
        refine hpx_iald (by rfl) (by rfl) (fun h0v5 h1v5 v5 ev5 => ?_)
        rw [ciq] at ev5
        subst ev5
        refine hpa_iconst (by rfl) rfl ?_
        refine hpa_ixor (by rfl) ?_
        refine hpa_iand (by rfl) ?_
        refine hpj_zeq (by rfl) rfl (fun q6 => ?_) (fun q6 => ?_)
        ·
          have nk : ¬ (hub a1 k = true ∧ hub (A.2.1 325 q) k = false) := (hub_ask (by omega)).mp (by rw [← F84.2.1]; exact q6)
          refine hpj_iinc (by rfl) rfl ck hk_1 (by omega) (by omega) (fun _ => rfl) (fun z7 ez7 => ?_)
          refine hpa_goto (by rfl) ?_
          exact ih84 (.int ((Int32.ofNat 1) <<< ((Int32.ofNat k) &&& 31))) z7 A84 (k + 1) (by omega) (huI (by omega) (by omega)) (B84.no (by omega) (Or.inl nk)) V84 F84 U84 H84
        ·
          have yk : hub a1 k = true ∧ hub (A.2.1 325 q) k = false := Classical.not_not.mp (fun u => q6 (by rw [F84.2.1]; exact (hub_ask (by omega)).mpr u))
          refine hpa_aload_n (by rfl) rfl ?_
          refine hpj_getT (by rfl) (by rfl) (by rfl) V84.1 ?_
          refine hpa_iconst (by rfl) rfl ?_
          refine hpa_aload_n (by rfl) rfl ?_
          refine hpa_get (v := .ref 325) (by rfl) (by rfl) (by rfl) rfl ?_
          refine hpa_iload_n (by rfl) rfl ?_
          refine hpa_iload_n (by rfl) rfl ?_
          have hCA84 : hdK T D A84 := hC.uf hT U84 (by decide +kernel)
          refine hpa_call0 (by rfl) (by rfl) (by rfl) (hsT4 hT) (by rfl) (by rfl) (uf_C (X := ug_x218) (j := 218) rfl rfl (ug_L.cons (by rcases hT with rfl | rfl <;> exact uf_rk_ok (by decide +kernel)) (uf_int (ug_L.cons (uf_rk_ok (by decide +kernel)) (uf_int (uf_int uf_nil))))) H84 (hP14k (q := 0) (Int32.ofNat 0) (Int32.ofNat k) a2 hT hCA84 V84 (by omega) hk_0)) ?_
          rintro _ A8 ⟨⟨z9, rfl, Z_A8, F_A8, V_A8⟩, wA8, HA8⟩
          have UA8 := (U84).trans (wA8.le (by decide +kernel : ug_wle ug_x218.2.2.2.1 uM6 = true))
          have F84A8 : (A8.1 = A.1 ∧ (A8.2.1 325 = A.2.1 325) ∧ (∀ r, ¬ r = q → A8.2.1 326 r = A.2.1 326 r) ∧ ∀ i, ¬ i = 324 → ¬ i = 326 → ¬ i = T + 8 → A8.2.1 i = A.2.1 i) := ⟨F_A8.1.trans F84.1, by rw [F_A8.2.2 325 (by omega) (by omega)]; exact F84.2.1, fun r hr => by rw [F_A8.2.2 326 (by omega) (by omega)]; exact F84.2.2.1 r hr, fun i h1 h2 h3 => by rw [F_A8.2.2 i h1 h3]; exact F84.2.2.2 i h1 h2 h3⟩
          have B84A8 : hdB2 k a1 (A.2.1 325 q) (A8.2.1 326 q) (huK D x a2) := by rw [F_A8.2.2 326 (by omega) (by omega)]; exact B84
          refine hpj_zle (by rfl) rfl (fun q10 => ?_) (fun q10 => ?_)
          ·
            have kn : huK D x a2 k = false := decide_eq_false (by rw [← Z_A8]; omega)
            refine hpj_iinc (by rfl) rfl ck hk_1 (by omega) (by omega) (fun _ => rfl) (fun z11 ez11 => ?_)
            refine hpa_goto (by rfl) ?_
            exact ih84 (.int ((Int32.ofNat 1) <<< ((Int32.ofNat k) &&& 31))) z11 A8 (k + 1) (by omega) (huI (by omega) (by omega)) (B84A8.no (by omega) (Or.inr kn)) V_A8 F84A8 UA8 HA8
          ·
            have ky : huK D x a2 k = true := decide_eq_true (by rw [← Z_A8]; omega)
            refine hpa_aload_n (by rfl) rfl ?_
            refine hpa_get (v := .ref 327) (by rfl) (by rfl) (by rfl) rfl ?_
            refine hpa_iload_n (by rfl) rfl ?_
            refine hpa_dup2IR (by rfl) ?_
            refine hpx_iald (by rfl) (by rfl) (fun h0v12 h1v12 v12 ev12 => ?_)
            rw [ciq] at ev12
            subst ev12
            refine hpa_iload (by rfl) rfl ?_
            refine hpa_ior (by rfl) ?_
            refine hpx_iast (by rfl) (by rfl) (fun A13 h0A13 h1A13 eA13 fA13 gA13 => ?_)
            have UA13 := (UA8).ar eA13 fA13 gA13 (by decide +kernel)
            have HA13 := (HA8).e (congrArg (fun q => q.2) gA13)
            rw [ciq] at fA13
            have VA13 : hdV T x A13 := ⟨by rw [gA13]; exact V_A8.1, fun i hi h3 h6 => by rw [fA13, hup2 (by omega)]; exact V_A8.2 i hi h3 h6⟩
            have F84A13 : (A13.1 = A.1 ∧ (A13.2.1 325 = A.2.1 325) ∧ (∀ r, ¬ r = q → A13.2.1 326 r = A.2.1 326 r) ∧ ∀ i, ¬ i = 324 → ¬ i = 326 → ¬ i = T + 8 → A13.2.1 i = A.2.1 i) := ⟨eA13.trans F84A8.1, by rw [← F84A8.2.1, fA13]; funext j; exact hup2 (by omega), fun r hr => by rw [fA13, hup2 (by omega)]; exact F84A8.2.2.1 r hr, fun i h1 h2 h3 => by rw [← F84A8.2.2.2 i h1 h2 h3, fA13]; funext j; exact hup2 (by omega)⟩
            have B84A13 : hdB2 (k + 1) a1 (A.2.1 325 q) (A13.2.1 326 q) (huK D x a2) := by rw [fA13, hup1]; exact B84A8.yes (by omega) yk.1 yk.2 ky
            refine hpj_iinc (by rfl) rfl ck hk_1 (by omega) (by omega) (fun _ => rfl) (fun z14 ez14 => ?_)
            refine hpa_goto (by rfl) ?_
            exact ih84 (.int ((Int32.ofNat 1) <<< ((Int32.ofNat k) &&& 31))) z14 A13 (k + 1) (by omega) (huI (by omega) (by omega)) B84A13 VA13 F84A13 UA13 HA13
  refine hpa_iload_n (by rfl) rfl ?_
  refine hpa_aload_n (by rfl) rfl ?_
  refine hpa_get (v := .ref 326) (by rfl) (by rfl) (by rfl) rfl ?_
  refine hpa_iload_n (by rfl) rfl ?_
  refine hpx_iald (by rfl) (by rfl) (fun h0v15 h1v15 v15 ev15 => ?_)
  rw [ciq] at ev15
  subst ev15
  refine hpa_iconst (by rfl) rfl ?_
  refine hpa_ixor (by rfl) ?_
  refine hpa_iand (by rfl) ?_
  refine hpj_zne (by rfl) rfl (fun q16 => ?_) (fun q16 => ?_)
  ·
    refine hpa_aload_n (by rfl) rfl ?_
    refine hpj_getT (by rfl) (by rfl) (by rfl) hV.1 ?_
    refine hpa_iconst (by rfl) rfl ?_
    refine hpa_iconst (by rfl) rfl ?_
    refine hpa_call0 (by rfl) (by rfl) (by rfl) (hsT4 hT) (by rfl) (by rfl) (uf_C (X := ug_x216) (j := 216) rfl rfl (ug_L.cons (by rcases hT with rfl | rfl <;> exact uf_rk_ok (by decide +kernel)) (uf_int (uf_int uf_nil))) hH0 (hP11 (q := 0) (Int32.ofNat 0) (Int32.ofNat 3) hT hC (by omega) hk_0 rfl)) ?_
    rintro _ _ ⟨⟨rfl, z18, rfl, (fz_A17 | ⟨fz_A17, NP_A17⟩)⟩, -, -⟩
    ·
      refine hpj_zne (by rfl) rfl (fun q19 => ?_) (fun q19 => False.elim (by omega))
      refine hpa_iconst (by rfl) rfl ?_
      refine hpa_s1 (by rfl) (Or.inl ⟨_, rfl, rfl⟩) rfl ?_
      exact L84 _ (.retAddr 0) (Int32.ofNat 0) A 0 (by omega) rfl QA.two hV ⟨rfl, rfl, fun _ _ => rfl, fun _ _ _ _ => rfl⟩ U0 hH0
    ·
      refine hpj_zne (by rfl) rfl (fun q20 => False.elim (by omega)) (fun q20 => ?_)
      refine hpa_aload_n (by rfl) rfl ?_
      refine hpa_get (v := .ref 326) (by rfl) (by rfl) (by rfl) rfl ?_
      refine hpa_iload_n (by rfl) rfl ?_
      refine hpa_sipush (by rfl) rfl ?_
      refine hpx_iast (by rfl) (by rfl) (fun A21 h0A21 h1A21 eA21 fA21 gA21 => ?_)
      have UA21 := (U0).ar eA21 fA21 gA21 (by decide +kernel)
      have HA21 := (hH0).e (congrArg (fun q => q.2) gA21)
      rw [ciq] at fA21
      have VA21 : hdV T x A21 := ⟨by rw [gA21]; exact hV.1, fun i hi h3 h6 => by rw [fA21, hup2 (by omega)]; exact hV.2 i hi h3 h6⟩
      refine hpa_aload_n (by rfl) rfl ?_
      refine hpa_get (v := .ref 327) (by rfl) (by rfl) (by rfl) rfl ?_
      refine hpa_iload_n (by rfl) rfl ?_
      refine hpa_aload_n (by rfl) rfl ?_
      refine hpj_getT (by rfl) (by rfl) (by rfl) VA21.1 ?_
      refine hpa_iconst (by rfl) rfl ?_
      refine hpa_aload_n (by rfl) rfl ?_
      refine hpa_get (v := .ref 325) (by rfl) (by rfl) (by rfl) rfl ?_
      refine hpa_iconst (by rfl) rfl ?_
      refine hpa_iload_n (by rfl) rfl ?_
      have hCA21 : hdK T D A21 := hC.uf hT UA21 (by decide +kernel)
      refine hpa_call0 (by rfl) (by rfl) (by rfl) (hsT4 hT) (by rfl) (by rfl) (uf_C (X := ug_x218) (j := 218) rfl rfl (ug_L.cons (by rcases hT with rfl | rfl <;> exact uf_rk_ok (by decide +kernel)) (uf_int (ug_L.cons (uf_rk_ok (by decide +kernel)) (uf_int (uf_int uf_nil))))) HA21 (hP14k (q := 0) (Int32.ofNat 0) (Int32.ofNat 0) a2 hT hCA21 VA21 (by omega) hk_0)) ?_
      rintro _ A22 ⟨⟨z23, rfl, Z_A22, F_A22, V_A22⟩, wA22, HA22⟩
      have UA22 := (UA21).trans (wA22.le (by decide +kernel : ug_wle ug_x218.2.2.2.1 uM6 = true))
      obtain ⟨f3, np⟩ := NP_A17
      have KA : ∀ p, p < 8 → huK D x a2 p = decide (0 < (z23).toInt) := fun p _ => by unfold huK; rw [Z_A22, huL_np (a := Int32.ofNat p) (b := Int32.ofNat 0) np]
      refine hpj_zle (by rfl) rfl (fun q24 => ?_) (fun q24 => ?_)
      ·
        have K62 : ∀ p, p < 8 → huK D x a2 p = false := fun p hp => (KA p hp).trans (decide_eq_false (by omega))
        refine hpa_iconst (by rfl) rfl ?_
        refine hpx_iast (by rfl) (by rfl) (fun A25 h0A25 h1A25 eA25 fA25 gA25 => ?_)
        have UA25 := (UA22).ar eA25 fA25 gA25 (by decide +kernel)
        have HA25 := (HA22).e (congrArg (fun q => q.2) gA25)
        rw [ciq] at fA25
        have VA25 : hdV T x A25 := ⟨by rw [gA25]; exact V_A22.1, fun i hi h3 h6 => by rw [fA25, hup2 (by omega)]; exact V_A22.2 i hi h3 h6⟩
        have BA25 : hdB1 (A25.2.1 325 q) (A25.2.1 326 q) (huK D x a2) := by
          rw [fA25, hup2 (by omega), hup1, F_A22.2.2 325 (by omega) (by omega), fA21, hup1]
          exact hdB1.all K62 (by rfl)
        have QKA25 : hdQk D x A25 := fun r hr => by
          by_cases s : r = q
          · rw [s, ← ha]; exact BA25
          · rw [fA25, hup2 (by omega), hup2 (by omega), F_A22.2.2 325 (by omega) (by omega), F_A22.2.2 326 (by omega) (by omega), fA21, hup2 (by omega), hup2 (by omega)]; exact hQ r hr
        refine hpa_iload_n (by rfl) rfl ?_
        refine hpa_aload_n (by rfl) rfl ?_
        refine hpa_get (v := .ref 327) (by rfl) (by rfl) (by rfl) rfl ?_
        refine hpa_iload_n (by rfl) rfl ?_
        refine hpx_iald (by rfl) (by rfl) (fun h0v26 h1v26 v26 ev26 => ?_)
        rw [ciq] at ev26
        subst ev26
        refine hpa_iand (by rfl) ?_
        exact hpa_ireturn (by rfl) rfl (hP _ _ ⟨_, rfl, aw _, fun p hp => by rw [hub_and, (BA25 p hp).1 (by rw [fA25, hup2 (by omega), F_A22.2.2 325 (by omega) (by omega), fA21, hup1]; exact hub_255 p hp)], VA25, QKA25, ⟨eA25.trans (F_A22.1.trans eA21), fun i h1 h2 h3 h4 => by rw [fA25]; funext j; rw [hup2 (by omega), F_A22.2.2 i h1 h4, fA21, hup2 (by omega)]⟩⟩)
      ·
        have K62 : ∀ p, p < 8 → huK D x a2 p = true := fun p hp => (KA p hp).trans (decide_eq_true (by omega))
        refine hpa_sipush (by rfl) rfl ?_
        refine hpa_goto (by rfl) ?_
        refine hpx_iast (by rfl) (by rfl) (fun A27 h0A27 h1A27 eA27 fA27 gA27 => ?_)
        have UA27 := (UA22).ar eA27 fA27 gA27 (by decide +kernel)
        have HA27 := (HA22).e (congrArg (fun q => q.2) gA27)
        rw [ciq] at fA27
        have VA27 : hdV T x A27 := ⟨by rw [gA27]; exact V_A22.1, fun i hi h3 h6 => by rw [fA27, hup2 (by omega)]; exact V_A22.2 i hi h3 h6⟩
        have BA27 : hdB1 (A27.2.1 325 q) (A27.2.1 326 q) (huK D x a2) := by
          rw [fA27, hup2 (by omega), hup1, F_A22.2.2 325 (by omega) (by omega), fA21, hup1]
          exact hdB1.all K62 (by rfl)
        have QKA27 : hdQk D x A27 := fun r hr => by
          by_cases s : r = q
          · rw [s, ← ha]; exact BA27
          · rw [fA27, hup2 (by omega), hup2 (by omega), F_A22.2.2 325 (by omega) (by omega), F_A22.2.2 326 (by omega) (by omega), fA21, hup2 (by omega), hup2 (by omega)]; exact hQ r hr
        refine hpa_iload_n (by rfl) rfl ?_
        refine hpa_aload_n (by rfl) rfl ?_
        refine hpa_get (v := .ref 327) (by rfl) (by rfl) (by rfl) rfl ?_
        refine hpa_iload_n (by rfl) rfl ?_
        refine hpx_iald (by rfl) (by rfl) (fun h0v28 h1v28 v28 ev28 => ?_)
        rw [ciq] at ev28
        subst ev28
        refine hpa_iand (by rfl) ?_
        exact hpa_ireturn (by rfl) rfl (hP _ _ ⟨_, rfl, aw _, fun p hp => by rw [hub_and, (BA27 p hp).1 (by rw [fA27, hup2 (by omega), F_A22.2.2 325 (by omega) (by omega), fA21, hup1]; exact hub_255 p hp)], VA27, QKA27, ⟨eA27.trans (F_A22.1.trans eA21), fun i h1 h2 h3 h4 => by rw [fA27]; funext j; rw [hup2 (by omega), F_A22.2.2 i h1 h4, fA21, hup2 (by omega)]⟩⟩)
  ·
    have q10 := q16
    refine hpa_iload_n (by rfl) rfl ?_
    refine hpa_aload_n (by rfl) rfl ?_
    refine hpa_get (v := .ref 327) (by rfl) (by rfl) (by rfl) rfl ?_
    refine hpa_iload_n (by rfl) rfl ?_
    refine hpx_iald (by rfl) (by rfl) (fun h0v29 h1v29 v29 ev29 => ?_)
    rw [ciq] at ev29
    subst ev29
    refine hpa_iand (by rfl) ?_
    exact hpa_ireturn (by rfl) rfl (hP _ _ ⟨_, rfl, aw _, QA.and q10, hV, hQ, rfl, fun _ _ _ _ _ => rfl⟩)
theorem hP6 {g d : Nat} {A : hs_A} {T : Nat} {D : hg_D} {x : Nat → Int32} {q : Nat} (a1 a2 : Int32) (hT : hTT T) (hC : hdK T D A) (hV : hdV T x A) (hQ : hdQk D x A) (hq : q ≤ 8) (ha : a2 = Int32.ofNat q) (pa1 : 0 ≤ a1.toInt) (qa1 : a1.toInt ≤ 255) (hH0 : uf_H A) : hpC g d 6 hm_m6 [.ref 324, .int a1, .int a2] A (fun r A' => ∃ z : Int32, r = some (.int z) ∧ (0 ≤ z.toInt ∧ z.toInt ≤ 255) ∧ (∀ p, p < 8 → hub z p = (hub a1 p && huK D x a2 p)) ∧ hdV T x A' ∧ hdQk D x A' ∧ (A'.1 = A.1 ∧ ∀ i, ¬ i = 324 → ¬ i = 325 → ¬ i = 326 → ¬ i = T + 8 → A'.2.1 i = A.2.1 i)) := hpC.all (fun f d => hW6 a1 a2 hT hC hV hQ hq ha pa1 qa1 hH0 (fun r A' h => h))
def uM5 : Nat := 107839786668602559178668060348078522694548577690162323701411646800896
theorem hW5 {g d f : Nat} {A : hs_A} {T : Nat} {D : hg_D} {x : Nat → Int32} (a1 : Int32) (hT : hTT T) (hC : hdK T D A) (hS : hdS T D x A) (pa1 : 0 ≤ a1.toInt) (qa1 : a1.toInt ≤ 255) (hH0 : uf_H A) {P : Option Value → hs_A → Prop} (hP : ∀ (r : Option Value) (A' : hs_A), (∃ z : Int32, r = some (.int z) ∧ z = huW D x a1 ∧ hdS T D x A' ∧ ((∀ i k, ¬ (i = 323 ∧ k = 4) → A'.1 i k = A.1 i k) ∧ ∀ i, ¬ i = 324 → ¬ i = 325 → ¬ i = 326 → ¬ i = 327 → ¬ i = T + 8 → A'.2.1 i = A.2.1 i)) → P r A') : hpa (f, g) d (some (.int)) hm_t5 0 [.ref 324, .int a1, .retAddr 0, .retAddr 0, .retAddr 0] [] A P := by
  have k255 := hk_255
  have k8 := hk_8
  have hT9 : T ≤ 11 := by rcases hT with rfl | rfl <;> omega
  have b8 := huB_8 pa1 qa1
  have c8 := hn_cn (j := huB 10 a1) b8.1
  have hV := hS.1
  have U0 : uf_W uM5 A A := uf_W.rfl
  refine hpa_iload_n (by rfl) rfl ?_
  refine hpa_sipush (by rfl) rfl ?_
  refine hpa_iand (by rfl) ?_
  rw [hs_and255 pa1 qa1]
  refine hpa_call2 (by rfl) (by decide) (by rfl) (by rfl) (by rfl) (uf_C (X := ug_x108) (j := 108) rfl rfl (uf_int uf_nil) hH0 (hP242 a1 (by omega) (by omega))) ?_
  rintro _ _ ⟨⟨rfl, z2, rfl, Z_A1⟩, -, -⟩
  subst Z_A1
  refine hpa_s1 (by rfl) (Or.inl ⟨_, rfl, rfl⟩) rfl ?_
  refine hpa_aload_n (by rfl) rfl ?_
  refine hpa_iload_n (by rfl) rfl ?_
  refine hpa_sipush (by rfl) rfl ?_
  refine hpa_iand (by rfl) ?_
  rw [hs_and255 pa1 qa1]
  refine hpa_iload_n (by rfl) rfl ?_
  refine hpa_call0 (by rfl) (by rfl) (by rfl) (by rfl) (by rfl) (by rfl) (uf_C (X := ug_x182) (j := 182) rfl rfl (ug_L.cons (uf_rk_ok (by decide +kernel)) (uf_int (uf_int uf_nil))) hH0 (hP6 (q := (huB 10 a1).toNatClampNeg) a1 (huB 10 a1) hT hC hV hS.2.1 (by omega) (hI32 b8.1 (by omega)) (by omega) (by omega) hH0)) ?_
  rintro _ A3 ⟨⟨z4, rfl, IN_A3, BT_A3, VV_A3, QK_A3, FR_A3⟩, wA3, HA3⟩
  have UA3 := (U0).trans (wA3.le (by decide +kernel : ug_wle ug_x182.2.2.2.1 uM5 = true))
  have QTA3 : hdQt D x A3 := fun r hr => by rw [FR_A3.2 327 (by omega) (by omega) (by omega) (by omega)]; exact hS.2.2.1 r hr
  have QHA3 : hdQh D x A3 := by unfold hdQh; rw [FR_A3.1]; exact hS.2.2.2
  refine hpa_s1 (by rfl) (Or.inl ⟨_, rfl, rfl⟩) rfl ?_
  refine hpa_iload_n (by rfl) rfl ?_
  refine hpj_zeq (by rfl) rfl (fun q5 => ?_) (fun q5 => ?_)
  ·
    refine hpa_iload_n (by rfl) rfl ?_
    refine hpa_aload_n (by rfl) rfl ?_
    have hCA3 : hdK T D A3 := hC.uf hT UA3 (by decide +kernel)
    refine hpa_call0 (by rfl) (by rfl) (by rfl) (by rfl) (by rfl) (by rfl) (uf_C (X := ug_x191) (j := 191) rfl rfl (ug_L.cons (uf_rk_ok (by decide +kernel)) uf_nil) HA3 (hP3 hT hCA3 VV_A3 QHA3 HA3)) ?_
    rintro _ A6 ⟨⟨z7, rfl, Z_A6, VV_A6, QH_A6, FR_A6⟩, wA6, HA6⟩
    have UA6 := (UA3).trans (wA6.le (by decide +kernel : ug_wle ug_x191.2.2.2.1 uM5 = true))
    subst Z_A6
    have QKA6 : hdQk D x A6 := fun r hr => by rw [FR_A6.2 325 (by omega) (by omega), FR_A6.2 326 (by omega) (by omega)]; exact QK_A3 r hr
    have QTA6 : hdQt D x A6 := fun r hr => by rw [FR_A6.2 327 (by omega) (by omega)]; exact QTA3 r hr
    refine hpa_ior (by rfl) ?_
    exact hpa_ireturn (by rfl) rfl (hP _ _ ⟨_, rfl, by unfold huW; rw [huP_no (n := 8) (fun p hp => by show (hub a1 p && huK D x (huB 10 a1) p) = false; rw [← BT_A3 p hp]; exact hub_z q5), huI (n := 0) q5 (by decide), hs_orc], ⟨VV_A6, QKA6, QTA6, QH_A6⟩, ⟨fun i k h => by rw [FR_A6.1 i k h, FR_A3.1], fun i h1 h2 h3 h4 h5 => by rw [FR_A6.2 i h1 h5, FR_A3.2 i h1 h2 h3 h5]⟩⟩)
  ·
    refine hpa_aload_n (by rfl) rfl ?_
    refine hpa_iload_n (by rfl) rfl ?_
    have hCA3 : hdK T D A3 := hC.uf hT UA3 (by decide +kernel)
    refine hpa_call0 (by rfl) (by rfl) (by rfl) (by rfl) (by rfl) (by rfl) (uf_C (X := ug_x193) (j := 193) rfl rfl (ug_L.cons (uf_rk_ok (by decide +kernel)) (uf_int uf_nil)) HA3 (hP2 (q := (huB 10 a1).toNatClampNeg) (huB 10 a1) hT hCA3 VV_A3 QTA3 (by omega) (hI32 b8.1 (by omega)) HA3)) ?_
    rintro _ A8 ⟨⟨z9, rfl, Z_A8, VV_A8, QT_A8, FR_A8⟩, wA8, HA8⟩
    have UA8 := (UA3).trans (wA8.le (by decide +kernel : ug_wle ug_x193.2.2.2.1 uM5 = true))
    subst Z_A8
    have QKA8 : hdQk D x A8 := fun r hr => by rw [FR_A8.2 325 (by omega) (by omega) (by omega), FR_A8.2 326 (by omega) (by omega) (by omega)]; exact QK_A3 r hr
    have QHA8 : hdQh D x A8 := by unfold hdQh; rw [FR_A8.1]; exact QHA3
    refine hpa_s1 (by rfl) (Or.inr ⟨_, rfl, rfl⟩) rfl ?_
    refine hpa_iload_n (by rfl) rfl ?_
    refine hpa_iload (by rfl) rfl ?_
    refine hpa_ishl (by rfl) ?_
    refine hpa_iload_n (by rfl) rfl ?_
    refine hpa_bipush (by rfl) rfl ?_
    refine hpa_iload (by rfl) rfl ?_
    refine hpa_isub (by rfl) ?_
    refine hpa_ishr (by rfl) ?_
    refine hpa_ior (by rfl) ?_
    refine hpa_sipush (by rfl) rfl ?_
    refine hpa_iand (by rfl) ?_
    rw [huP_rot IN_A3.1 IN_A3.2 huT_in.1 huT_in.2]
    refine hpa_s1 (by rfl) (Or.inl ⟨_, rfl, rfl⟩) rfl ?_
    refine hpa_iload_n (by rfl) rfl ?_
    refine hpa_aload_n (by rfl) rfl ?_
    have hCA8 : hdK T D A8 := hC.uf hT UA8 (by decide +kernel)
    refine hpa_call0 (by rfl) (by rfl) (by rfl) (by rfl) (by rfl) (by rfl) (uf_C (X := ug_x191) (j := 191) rfl rfl (ug_L.cons (uf_rk_ok (by decide +kernel)) uf_nil) HA8 (hP3 hT hCA8 VV_A8 QHA8 HA8)) ?_
    rintro _ A10 ⟨⟨z11, rfl, Z_A10, VV_A10, QH_A10, FR_A10⟩, wA10, HA10⟩
    have UA10 := (UA8).trans (wA10.le (by decide +kernel : ug_wle ug_x191.2.2.2.1 uM5 = true))
    subst Z_A10
    have QKA10 : hdQk D x A10 := fun r hr => by rw [FR_A10.2 325 (by omega) (by omega), FR_A10.2 326 (by omega) (by omega)]; exact QKA8 r hr
    have QTA10 : hdQt D x A10 := fun r hr => by rw [FR_A10.2 327 (by omega) (by omega)]; exact QT_A8 r hr
    refine hpa_ior (by rfl) ?_
    exact hpa_ireturn (by rfl) rfl (hP _ _ ⟨_, rfl, by rw [hs_orc]; unfold huW; rw [huP_cg (n := 8) BT_A3], ⟨VV_A10, QKA10, QTA10, QH_A10⟩, ⟨fun i k h => by rw [FR_A10.1 i k h, FR_A8.1, FR_A3.1], fun i h1 h2 h3 h4 h5 => by rw [FR_A10.2 i h1 h5, FR_A8.2 i h1 h4 h5, FR_A3.2 i h1 h2 h3 h5]⟩⟩)
theorem hP5 {g d : Nat} {A : hs_A} {T : Nat} {D : hg_D} {x : Nat → Int32} (a1 : Int32) (hT : hTT T) (hC : hdK T D A) (hS : hdS T D x A) (pa1 : 0 ≤ a1.toInt) (qa1 : a1.toInt ≤ 255) (hH0 : uf_H A) : hpC g d 5 hm_m5 [.ref 324, .int a1] A (fun r A' => ∃ z : Int32, r = some (.int z) ∧ z = huW D x a1 ∧ hdS T D x A' ∧ ((∀ i k, ¬ (i = 323 ∧ k = 4) → A'.1 i k = A.1 i k) ∧ ∀ i, ¬ i = 324 → ¬ i = 325 → ¬ i = 326 → ¬ i = 327 → ¬ i = T + 8 → A'.2.1 i = A.2.1 i)) := hpC.all (fun f d => hW5 a1 hT hC hS pa1 qa1 hH0 (fun r A' h => h))
