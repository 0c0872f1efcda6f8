/-! THINGS DONE -/
theorem hDone.row {A A2 A5 A6 : hs_A} {g : Nat → Int32} (D : hDone A5 A6 (fun k => A5.2.1 396 k)) (w2 : uf_W ug_x113.2.2.2.1 A A2) (e5 : A5.1 = A2.1) (o5 : ∀ i, ¬ i = 396 → ∀ x, A5.2.1 i x = A2.2.1 i x) (hg : ∀ k : Nat, k < 73 → A5.2.1 396 k = g k) : hDone A A6 g := by
  have D2 : hDone A A6 (fun k => A5.2.1 396 k) := D.pre (fun k hk => (o5 395 (by omega) k).trans (w2.2.1 395 _ _ k rfl hk (by decide +kernel))) (fun j hj => (o5 399 (by omega) j).trans (w2.2.1 399 _ _ j rfl hj (by decide +kernel))) (by rw [e5]; exact w2.1 367 _ _ 51 rfl rfl (by decide +kernel))
  exact ⟨fun k hk => (D2.1 k hk).trans (hg k hk), D2.2⟩
theorem hY191g {d : Nat} {N : Int} {A0 A : hs_A} (hA : hJ 0 N (N + 72) A0 A) (hN : N ≤ 900000) (a1 : Int32) (a2 : Int32) (p2 : 0 ≤ a2.toInt) (q2 : a2.toInt ≤ 1) {H : Int} (hH : (A.2.1 376 (A.1 367 18).toNatClampNeg).toInt = H) (uH : uf_H A) {P : Option Value → hs_A → Prop} (hP : ∀ (r : Option Value) (A' : hs_A), (hJ 0 (N + 72) (N + 144) A0 A' ∧ ∃ z : Int32, r = some (.int z) ∧ ((z.toInt = 1 ∧ 0 ≤ a1.toInt ∧ a1.toInt < H ∧ a1.toInt ≤ 9 ∧ ¬ (¬ (A.2.1 395 (50 + a1.toNatClampNeg)).toInt = 1 ∧ a2.toInt = 0 ∨ (A.2.1 395 (50 + a1.toNatClampNeg)).toInt = 1 ∧ a2.toInt = 1) ∧ hDone A A' (fun k => if k = 50 + a1.toNatClampNeg then a2 else A.2.1 395 k)) ∨ (z.toInt = 0 ∧ (a1.toInt < 0 ∨ H ≤ a1.toInt ∨ (¬ (A.2.1 395 (50 + a1.toNatClampNeg)).toInt = 1 ∧ a2.toInt = 0 ∨ (A.2.1 395 (50 + a1.toNatClampNeg)).toInt = 1 ∧ a2.toInt = 1)) ∧ A' = A))) → P r A') : hxa (d + 2) (some (.boolean)) hm_t191 0 [.ref 368, .int a1, .int a2] [] A P := by
  have k0 := hk_0
  have k1 := hk_1
  have L26 : ∀ (y26_0 : Int32) (by26_0 : 0 ≤ y26_0.toInt) (cy26_0 : y26_0.toInt ≤ 1) (ba1 : 0 ≤ a1.toInt) (ca1 : a1.toInt ≤ 9) (hHa : a1.toInt < H) (iy : (y26_0.toInt = 1 ∧ (A.2.1 395 (50 + a1.toNatClampNeg)).toInt = 1 ∨ y26_0.toInt = 0 ∧ ¬ (A.2.1 395 (50 + a1.toNatClampNeg)).toInt = 1)), hxa (d + 2) (some (.boolean)) hm_t191 26 [.ref 368, .int a1, .int a2] [.int y26_0] A P := by
    intro y26_0 by26_0 cy26_0 ba1 ca1 hHa iy
    refine hxa_iload_n (by rfl) rfl ?_
    refine hxj_cne (by rfl) rfl rfl (fun q1 => ?_) (fun q1 => ?_)
    ·
      refine hxa_aload_n (by rfl) rfl ?_
      refine hxa_call0 (by rfl) (by rfl) (by rfl) (by rfl) (by rfl) (by rfl) (uf_i171 uH (hX171g (d := d + 1) hA)) ?_
      rintro _ A2 ⟨⟨hA2, rfl, c2⟩, w2, H2⟩
      refine hxa_aload_n (by rfl) rfl ?_
      refine hxa_get (v := .ref 397) (by rfl) (by rfl) (by rfl) rfl ?_
      refine hxa_bipush (by rfl) rfl ?_
      refine hxa_iload_n (by rfl) rfl ?_
      refine hxj_iadd (by rfl) hk_50 rfl (by omega) (by omega) (fun z3 ez3 => ?_)
      refine hxa_iload_n (by rfl) rfl ?_
      refine hxj_zeq (by rfl) rfl (fun q4 => ?_) (fun q4 => ?_)
      ·
        refine hxa_iconst (by rfl) rfl ?_
        refine hxj_iast396 (by rfl) rfl (by omega) (by omega) hk_0 hA2 (by omega) (fun A5 hA5 eA5 fA5 gA5 => ?_)
        refine hxa_aload_n (by rfl) rfl ?_
        refine hxa_call0 (by rfl) (by rfl) (by rfl) (by rfl) (by rfl) (by rfl) (hX190g (d := d + 0) hA5 (by omega) (H2.e (congrArg (fun q => q.2) gA5))) ?_
        rintro _ A6 ⟨hA6, rfl, D6⟩
        refine hxa_iconst (by rfl) rfl ?_
        exact hxa_ireturn (by rfl) (by rfl) (hP _ _ ⟨(hJ.mono hA6 (by omega) (by omega)), _, rfl, Or.inl ⟨hk_1, by omega, by omega, by omega, by omega, D6.row w2 eA5 (fun i hi x => by rw [fA5, hup2 (fun w => hi w.1)]) (fun k hk => by rw [fA5]; have hc3 := hn_cn (j := z3) (by omega); have hc1 := hn_cn (j := a1) (by omega); by_cases q : k = 50 + a1.toNatClampNeg; (rw [if_pos q, show z3.toNatClampNeg = k by omega, hup1]; exact Int32.toInt_inj.mp (by omega)); (rw [if_neg q, hup2 (fun w => q (by omega))]; exact c2 k hk))⟩⟩)
      ·
        refine hxa_iconst (by rfl) rfl ?_
        refine hxa_goto (by rfl) ?_
        refine hxj_iast396 (by rfl) rfl (by omega) (by omega) hk_1 hA2 (by omega) (fun A7 hA7 eA7 fA7 gA7 => ?_)
        refine hxa_aload_n (by rfl) rfl ?_
        refine hxa_call0 (by rfl) (by rfl) (by rfl) (by rfl) (by rfl) (by rfl) (hX190g (d := d + 0) hA7 (by omega) (H2.e (congrArg (fun q => q.2) gA7))) ?_
        rintro _ A8 ⟨hA8, rfl, D8⟩
        refine hxa_iconst (by rfl) rfl ?_
        exact hxa_ireturn (by rfl) (by rfl) (hP _ _ ⟨(hJ.mono hA8 (by omega) (by omega)), _, rfl, Or.inl ⟨hk_1, by omega, by omega, by omega, by omega, D8.row w2 eA7 (fun i hi x => by rw [fA7, hup2 (fun w => hi w.1)]) (fun k hk => by rw [fA7]; have hc3 := hn_cn (j := z3) (by omega); have hc1 := hn_cn (j := a1) (by omega); by_cases q : k = 50 + a1.toNatClampNeg; (rw [if_pos q, show z3.toNatClampNeg = k by omega, hup1]; exact Int32.toInt_inj.mp (by omega)); (rw [if_neg q, hup2 (fun w => q (by omega))]; exact c2 k hk))⟩⟩)
    ·
      refine hxa_iconst (by rfl) rfl ?_
      exact hxa_ireturn (by rfl) (by rfl) (hP _ _ ⟨(hJ.mono hA (by omega) (by omega)), _, rfl, Or.inr ⟨hk_0, by omega, rfl⟩⟩)
  refine hxa_aload_n (by rfl) rfl ?_
  refine hxa_iload_n (by rfl) rfl ?_
  refine hxa_call0 (by rfl) (by rfl) (by rfl) (by rfl) (by rfl) (by rfl) (hX167f (d := d + 0) hA a1 hH) ?_
  rintro _ _ ⟨rfl, z9, rfl, fz9⟩
  rcases fz9 with fz9 | fz9
  ·
    refine hxj_zeq (by rfl) rfl (fun q10 => False.elim (by omega)) (fun q10 => ?_)
    refine hxa_aload_n (by rfl) rfl ?_
    refine hxa_get (v := .ref 396) (by rfl) (by rfl) (by rfl) rfl ?_
    refine hxa_bipush (by rfl) rfl ?_
    refine hxa_iload_n (by rfl) rfl ?_
    refine hxj_iadd (by rfl) hk_50 rfl (by omega) (by omega) (fun z11 ez11 => ?_)
    refine hxj_iald395 (by rfl) rfl (by omega) (by omega) hA (fun z12 ez12 fz12 => ?_)
    have hx12 : (A.2.1 395 (50 + a1.toNatClampNeg)).toInt = z12.toInt := by rw [← ez12, show z11.toNatClampNeg = 50 + a1.toNatClampNeg by have := hn_cn (j := z11) (by omega); have := hn_cn (j := a1) (by omega); omega]
    refine hxa_iconst (by rfl) rfl ?_
    refine hxj_cne (by rfl) rfl hk_1 (fun q13 => ?_) (fun q13 => ?_)
    ·
      refine hxa_iconst (by rfl) rfl ?_
      exact L26 (Int32.ofNat 0) (by omega) (by omega) (by omega) (by omega) (by omega) (by first | exact Or.inr ⟨hk_0, by rw [hx12]; omega⟩ | exact Or.inl ⟨hk_1, by rw [hx12]; omega⟩)
    ·
      refine hxa_iconst (by rfl) rfl ?_
      refine hxa_goto (by rfl) ?_
      exact L26 (Int32.ofNat 1) (by omega) (by omega) (by omega) (by omega) (by omega) (by first | exact Or.inr ⟨hk_0, by rw [hx12]; omega⟩ | exact Or.inl ⟨hk_1, by rw [hx12]; omega⟩)
  ·
    refine hxj_zeq (by rfl) rfl (fun q14 => ?_) (fun q14 => False.elim (by omega))
    refine hxa_iconst (by rfl) rfl ?_
    exact hxa_ireturn (by rfl) (by rfl) (hP _ _ ⟨(hJ.mono hA (by omega) (by omega)), _, rfl, Or.inr ⟨hk_0, by omega, rfl⟩⟩)
theorem hX191g {d : Nat} {N : Int} {A0 A : hs_A} (hA : hJ 0 N (N + 72) A0 A) (hN : N ≤ 900000) (a1 : Int32) (a2 : Int32) (p2 : 0 ≤ a2.toInt) (q2 : a2.toInt ≤ 1) {H : Int} (hH : (A.2.1 376 (A.1 367 18).toNatClampNeg).toInt = H) (uH : uf_H A) : hxC (d + 3) 191 hm_m191 [.ref 368, .int a1, .int a2] A (fun r A' => hJ 0 (N + 72) (N + 144) A0 A' ∧ ∃ z : Int32, r = some (.int z) ∧ ((z.toInt = 1 ∧ 0 ≤ a1.toInt ∧ a1.toInt < H ∧ a1.toInt ≤ 9 ∧ ¬ (¬ (A.2.1 395 (50 + a1.toNatClampNeg)).toInt = 1 ∧ a2.toInt = 0 ∨ (A.2.1 395 (50 + a1.toNatClampNeg)).toInt = 1 ∧ a2.toInt = 1) ∧ hDone A A' (fun k => if k = 50 + a1.toNatClampNeg then a2 else A.2.1 395 k)) ∨ (z.toInt = 0 ∧ (a1.toInt < 0 ∨ H ≤ a1.toInt ∨ (¬ (A.2.1 395 (50 + a1.toNatClampNeg)).toInt = 1 ∧ a2.toInt = 0 ∨ (A.2.1 395 (50 + a1.toNatClampNeg)).toInt = 1 ∧ a2.toInt = 1)) ∧ A' = A))) := hxC.of (by rfl) (hY191g hA hN a1 a2 p2 q2 hH uH (fun r A' h => h))
theorem hY192g {d : Nat} {N : Int} {A0 A : hs_A} (hA : hJ 0 N (N + 72) A0 A) (hN : N ≤ 900000) (a1 : Int32) {H : Int} (hH : (A.2.1 376 (A.1 367 18).toNatClampNeg).toInt = H) (uH : uf_H A) {P : Option Value → hs_A → Prop} (hP : ∀ (r : Option Value) (A' : hs_A), (hJ 0 (N + 72) (N + 144) A0 A' ∧ ∃ z : Int32, r = some (.int z) ∧ (((z.toInt = 1 ∧ 0 ≤ a1.toInt ∧ a1.toInt ≤ 255 ∧ ¬ H = 0) ∨ (z.toInt = 0 ∧ (a1.toInt < 0 ∨ 255 < a1.toInt ∨ H = 0))) ∧ (z.toInt = 1 → hDone A A' (fun k => if k = 71 then a1 else A.2.1 395 k)) ∧ (¬ z.toInt = 1 → A' = A))) → P r A') : hxa (d + 2) (some (.boolean)) hm_t192 0 [.ref 368, .int a1] [] A P := by
  have k0 := hk_0
  have k1 := hk_1
  refine hxa_iload_n (by rfl) rfl ?_
  refine hxa_call2 (by rfl) (by decide) (by rfl) (by rfl) (by rfl) (hX168f (d := d + 0)  a1) ?_
  rintro _ _ ⟨rfl, z1, rfl, fz1⟩
  rcases fz1 with fz1 | fz1
  ·
    refine hxj_zeq (by rfl) rfl (fun q2 => False.elim (by omega)) (fun q2 => ?_)
    refine hxa_aload_n (by rfl) rfl ?_
    refine hxa_get (v := .ref 377) (by rfl) (by rfl) (by rfl) rfl ?_
    refine hxa_aload_n (by rfl) rfl ?_
    refine hxj_getB (by rfl) (by rfl) (by rfl) hA (by rfl) (fun z3 ez3 fz3 gz3 => ?_)
    refine hxj_ialdB (by rfl) (by rfl) rfl (by omega) (by omega) hA (by rfl) (fun z4 ez4 fz4 gz4 => ?_)
    have hh := hH
    rw [ez3, ez4] at hh
    refine hxj_zne (by rfl) rfl (fun q5 => ?_) (fun q5 => ?_)
    ·
      refine hxa_aload_n (by rfl) rfl ?_
      refine hxa_call0 (by rfl) (by rfl) (by rfl) (by rfl) (by rfl) (by rfl) (uf_i171 uH (hX171g (d := d + 1) hA)) ?_
      rintro _ A6 ⟨⟨hA6, rfl, c6⟩, w6, H6⟩
      refine hxa_aload_n (by rfl) rfl ?_
      refine hxa_get (v := .ref 397) (by rfl) (by rfl) (by rfl) rfl ?_
      refine hxa_bipush (by rfl) rfl ?_
      refine hxa_iload_n (by rfl) rfl ?_
      refine hxj_iast396 (by rfl) hk_71 (by omega) (by omega) rfl hA6 (by omega) (fun A7 hA7 eA7 fA7 gA7 => ?_)
      refine hxa_aload_n (by rfl) rfl ?_
      refine hxa_call0 (by rfl) (by rfl) (by rfl) (by rfl) (by rfl) (by rfl) (hX190g (d := d + 0) hA7 (by omega) (H6.e (congrArg (fun q => q.2) gA7))) ?_
      rintro _ A8 ⟨hA8, rfl, D8⟩
      refine hxa_iconst (by rfl) rfl ?_
      exact hxa_ireturn (by rfl) (by rfl) (hP _ _ ⟨(hJ.mono hA8 (by omega) (by omega)), _, rfl, ⟨by omega, fun _ => D8.row w6 eA7 (fun i hi x => by rw [fA7, hup2 (fun w => hi w.1)]) (fun k hk => by rw [fA7, show (Int32.ofNat 71).toNatClampNeg = 71 from rfl]; by_cases q : k = 71; (rw [if_pos q, q, hup1]); (rw [if_neg q, hup2 (fun w => q w.2)]; exact c6 k hk)), fun q => absurd hk_1 q⟩⟩)
    ·
      refine hxa_iconst (by rfl) rfl ?_
      exact hxa_ireturn (by rfl) (by rfl) (hP _ _ ⟨(hJ.mono hA (by omega) (by omega)), _, rfl, ⟨by omega, fun q => False.elim (by omega), fun _ => rfl⟩⟩)
  ·
    refine hxj_zeq (by rfl) rfl (fun q9 => ?_) (fun q9 => False.elim (by omega))
    refine hxa_iconst (by rfl) rfl ?_
    exact hxa_ireturn (by rfl) (by rfl) (hP _ _ ⟨(hJ.mono hA (by omega) (by omega)), _, rfl, ⟨by omega, fun q => False.elim (by omega), fun _ => rfl⟩⟩)
theorem hX192g {d : Nat} {N : Int} {A0 A : hs_A} (hA : hJ 0 N (N + 72) A0 A) (hN : N ≤ 900000) (a1 : Int32) {H : Int} (hH : (A.2.1 376 (A.1 367 18).toNatClampNeg).toInt = H) (uH : uf_H A) : hxC (d + 3) 192 hm_m192 [.ref 368, .int a1] A (fun r A' => hJ 0 (N + 72) (N + 144) A0 A' ∧ ∃ z : Int32, r = some (.int z) ∧ (((z.toInt = 1 ∧ 0 ≤ a1.toInt ∧ a1.toInt ≤ 255 ∧ ¬ H = 0) ∨ (z.toInt = 0 ∧ (a1.toInt < 0 ∨ 255 < a1.toInt ∨ H = 0))) ∧ (z.toInt = 1 → hDone A A' (fun k => if k = 71 then a1 else A.2.1 395 k)) ∧ (¬ z.toInt = 1 → A' = A))) := hxC.of (by rfl) (hY192g hA hN a1 hH uH (fun r A' h => h))
theorem hY199g {d : Nat} {N : Int} {A0 A : hs_A} (hA : hJ 0 N (N + 72) A0 A) (hN : N ≤ 900000)   {P : Option Value → hs_A → Prop} (hP : ∀ (r : Option Value) (A' : hs_A), (hJ 0 (N + 72) (N + 144) A0 A' ∧ ∃ z : Int32, r = some (.int z) ∧ ((z.toInt = 1 ∧ ∃ u : Nat, (A.1 367 51).toInt = (u : Int) + 1 ∧ (A'.1 367 51).toInt = (u : Int) ∧ ∀ k : Nat, k < 73 → A'.2.1 395 k = A.2.1 399 (73 * u + k)) ∨ (z.toInt = 0 ∧ (A.1 367 51).toInt = 0 ∧ A' = A))) → P r A') : hxa (d + 0) (some (.boolean)) hm_t199 0 [.ref 368, .retAddr 0] [] A P := by
  have k0 := hk_0
  have k1 := hk_1
  have L21 : ∀ (m21 : Nat) (w21_0 : Int32) (x21_1 : Int32) (Ac21 : hs_A) (hAc21 : hJ 0 N (N + 72) A0 Ac21) (ek21_0 : Ac21.1 367 51 = w21_0) (bx21_1 : 0 ≤ x21_1.toInt) (cx21_1 : x21_1.toInt ≤ 73) (bw21_0 : 0 ≤ w21_0.toInt) (cw21_0 : w21_0.toInt ≤ 39) (hm21 : 73 - x21_1.toInt < (m21 : Int)) (iv21 : (∀ k : Nat, (k : Int) < x21_1.toInt → Ac21.2.1 395 k = A.2.1 399 (73 * w21_0.toNatClampNeg + k)) ∧ (∀ k : Nat, Ac21.2.1 399 k = A.2.1 399 k) ∧ (A.1 367 51).toInt = w21_0.toInt + 1), hxa (d + 0) (some (.boolean)) hm_t199 21 [.ref 368, .int x21_1] [] Ac21 P := by
    intro m21
    induction m21 with
    | zero => intro w21_0 x21_1 Ac21 hAc21 ek21_0 bx21_1 cx21_1 bw21_0 cw21_0 hm21 iv21;  exact False.elim (by omega)
    | succ m21 ih21 =>
      intro w21_0 x21_1 Ac21 hAc21 ek21_0 bx21_1 cx21_1 bw21_0 cw21_0 hm21 iv21
      refine hxa_iload_n (by rfl) rfl ?_
      refine hxa_bipush (by rfl) rfl ?_
      refine hxj_cge (by rfl) rfl hk_73 (fun q1 => ?_) (fun q1 => ?_)
      ·
        refine hxa_iconst (by rfl) rfl ?_
        exact hxa_ireturn (by rfl) (by rfl) (hP _ _ ⟨(hJ.mono hAc21 (by omega) (by omega)), _, rfl, Or.inl ⟨hk_1, w21_0.toNatClampNeg, by have := hn_cn (j := w21_0) (by omega); omega, by rw [ek21_0]; have := hn_cn (j := w21_0) (by omega); omega, fun k hk => iv21.1 k (by omega)⟩⟩)
      ·
        refine hxa_aload_n (by rfl) rfl ?_
        refine hxa_get (v := .ref 396) (by rfl) (by rfl) (by rfl) rfl ?_
        refine hxa_iload_n (by rfl) rfl ?_
        refine hxa_aload_n (by rfl) rfl ?_
        refine hxa_get (v := .ref 400) (by rfl) (by rfl) (by rfl) rfl ?_
        refine hxa_bipush (by rfl) rfl ?_
        refine hxa_aload_n (by rfl) rfl ?_
        refine hxj_getK (by rfl) (by rfl) (by rfl) ek21_0 ?_
        refine hxj_imul (by rfl) hk_73 rfl (by omega) (by omega) (fun z2 ez2 => ?_)
        refine hxa_iload_n (by rfl) rfl ?_
        refine hxj_iadd (by rfl) rfl rfl (by omega) (by omega) (fun z3 ez3 => ?_)
        refine hxj_iald399 (by rfl) rfl (by omega) (by omega) hAc21 (fun z4 ez4 fz4 => ?_)
        refine hxj_iast395 (by rfl) rfl (by omega) (by omega) rfl hAc21 (by omega) (fun A5 hA5 eA5 fA5 gA5 => ?_)
        refine hxj_iinc (by rfl) rfl rfl hk_1 (by omega) (by omega) (fun _ => rfl) (fun z6 ez6 => ?_)
        refine hxa_goto (by rfl) ?_
        exact ih21 w21_0 z6 A5 hA5 (hkA eA5 ek21_0) (by omega) (by omega) (by omega) (by omega) (by omega) (⟨fun k hk => by rw [fA5]; have hc1 := hn_cn (j := x21_1) (by omega); have hc3 := hn_cn (j := z3) (by omega); have hcw := hn_cn (j := w21_0) (by omega); by_cases q : k = x21_1.toNatClampNeg; (rw [q, hup1, ← ez4, iv21.2.1, show z3.toNatClampNeg = 73 * w21_0.toNatClampNeg + x21_1.toNatClampNeg by omega]); (rw [hup2 (fun w => q w.2)]; exact iv21.1 k (by omega)), fun k => by rw [fA5, hup2 (by omega)]; exact iv21.2.1 k, iv21.2.2⟩)
  refine hxa_aload_n (by rfl) rfl ?_
  refine hxj_getB (by rfl) (by rfl) (by rfl) hA (by rfl) (fun z7 ez7 fz7 gz7 => ?_)
  refine hxj_zne (by rfl) rfl (fun q8 => ?_) (fun q8 => ?_)
  ·
    refine hxa_aload_n (by rfl) rfl ?_
    refine hxa_dupR (by rfl) ?_
    refine hxj_getK (by rfl) (by rfl) (by rfl) ez7 ?_
    refine hxa_iconst (by rfl) rfl ?_
    refine hxj_isub (by rfl) rfl hk_1 (by omega) (by omega) (fun z9 ez9 => ?_)
    refine hxj_putI (by rfl) (by rfl) (by rfl) (by rfl) hA (hbok (by rfl) rfl (by omega) (by omega)) (by rfl) (by rfl) (fun A10 hA10 eA10 fA10 => ?_)
    refine hxa_iconst (by rfl) rfl ?_
    refine hxa_s1 (by rfl) (Or.inl ⟨_, rfl, rfl⟩) rfl ?_
    exact L21 (Int.toNat (73 - 0) + 1) z9 (Int32.ofNat 0) A10 hA10 (hkS eA10) (by omega) (by omega) (by omega) (by omega) (by omega) (⟨fun k hk => absurd hk (by omega), fun k => by rw [fA10], by rw [ez7]; omega⟩)
  ·
    refine hxa_iconst (by rfl) rfl ?_
    exact hxa_ireturn (by rfl) (by rfl) (hP _ _ ⟨(hJ.mono hA (by omega) (by omega)), _, rfl, Or.inr ⟨hk_0, by rw [ez7]; omega, rfl⟩⟩)
theorem hX199g {d : Nat} {N : Int} {A0 A : hs_A} (hA : hJ 0 N (N + 72) A0 A) (hN : N ≤ 900000)   : hxC (d + 1) 199 hm_m199 [.ref 368] A (fun r A' => hJ 0 (N + 72) (N + 144) A0 A' ∧ ∃ z : Int32, r = some (.int z) ∧ ((z.toInt = 1 ∧ ∃ u : Nat, (A.1 367 51).toInt = (u : Int) + 1 ∧ (A'.1 367 51).toInt = (u : Int) ∧ ∀ k : Nat, k < 73 → A'.2.1 395 k = A.2.1 399 (73 * u + k)) ∨ (z.toInt = 0 ∧ (A.1 367 51).toInt = 0 ∧ A' = A))) := hxC.of (by rfl) (hY199g hA hN  (fun r A' h => h))
