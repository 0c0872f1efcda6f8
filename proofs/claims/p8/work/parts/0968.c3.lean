/-! HELD: the slots' bits and the reference's row -/
def hBit (x a : Int32) : Int := ((x >>> (a &&& 31)) &&& Int32.ofNat 1).toInt
def hHd (x : Int32) (f : Nat → Int32) : Prop := ∃ n : Nat, n < 8 ∧ x = Int32.ofNat n ∧ ∀ s : Nat, s < 3 → f s = Int32.ofNat (n / 2 ^ s % 2)
theorem hHd_d1 : ∀ n, n < 8 → ∀ a, a < 3 → hBit (Int32.ofNat n) (Int32.ofNat a) = (Int32.ofNat (n / 2 ^ a % 2)).toInt := by decide +kernel
theorem hHd_d2 : ∀ n, n < 8 → ∀ a, a < 3 → Int32.ofNat n ||| (Int32.ofNat 1 <<< (Int32.ofNat a &&& 31)) = Int32.ofNat (n ||| 2 ^ a) ∧ (n ||| 2 ^ a) < 8 ∧ ∀ s, s < 3 → (if s = a then Int32.ofNat 1 else Int32.ofNat (n / 2 ^ s % 2)) = Int32.ofNat ((n ||| 2 ^ a) / 2 ^ s % 2) := by decide +kernel
theorem hI32 {a : Int32} (h0 : 0 ≤ a.toInt) (h1 : a.toInt < 1000) : a = Int32.ofNat a.toNatClampNeg := by
  have c := hn_cn (j := a) h0
  apply Int32.toInt_inj.mp
  rw [hn_c (n := a.toNatClampNeg) rfl (by omega)]
  omega
theorem hHd.bit {x : Int32} {f : Nat → Int32} (h : hHd x f) {a : Int32} (h0 : 0 ≤ a.toInt) (h1 : a.toInt ≤ 2) : hBit x a = (f a.toNatClampNeg).toInt := by
  obtain ⟨n, hn, rfl, hf⟩ := h
  have c := hn_cn (j := a) h0
  rw [hf _ (by omega), ← hHd_d1 n hn _ (by omega), ← hI32 h0 (by omega)]
theorem hHd.hold {x x' : Int32} {f f' : Nat → Int32} (h : hHd x f) {a : Int32} (h0 : 0 ≤ a.toInt) (h1 : a.toInt ≤ 2) (hx : x' = x ||| (Int32.ofNat 1 <<< (a &&& 31))) (hf' : ∀ s, s < 3 → f' s = if s = a.toNatClampNeg then Int32.ofNat 1 else f s) : hHd x' f' := by
  obtain ⟨n, hn, rfl, hf⟩ := h
  have c := hn_cn (j := a) h0
  obtain ⟨q1, q2, q3⟩ := hHd_d2 n hn a.toNatClampNeg (by omega)
  refine ⟨_, q2, ?_, fun s hs => ?_⟩
  · rw [hx, ← q1, ← hI32 h0 (by omega)]
  · rw [hf' s hs, ← q3 s hs]
    by_cases q : s = a.toNatClampNeg
    · rw [if_pos q, if_pos q]
    · rw [if_neg q, if_neg q, hf s hs]
theorem hHd.nil {x : Int32} {f : Nat → Int32} (hx : x = Int32.ofNat 0) (hf : ∀ s : Nat, s < 3 → (f s).toInt = 0) : hHd x f := ⟨0, by decide, hx, fun s hs => by
  rw [show (0 : Nat) / 2 ^ s % 2 = 0 by rw [Nat.zero_div]]
  exact Int32.toInt_inj.mp ((hf s hs).trans hk_0.symm)⟩
theorem hHd.eq {x x' : Int32} {f f' : Nat → Int32} (h : hHd x f) (hx : x' = x) (hf' : ∀ s : Nat, s < 3 → f' s = f s) : hHd x' f' := by
  obtain ⟨n, hn, e, hf⟩ := h
  exact ⟨n, hn, hx.trans e, fun s hs => (hf' s hs).trans (hf s hs)⟩
section HXE
variable {d : Nat} {ret : Option FieldType} {tb : hc_K} {pc len r1 r2 : Nat} {l st : List Value} {A : hs_A} {P : Option Value → hs_A → Prop}
theorem hxj_iorE {x y : Int32} (hI : hc_get tb pc = some (.ior, len, r1, r2)) (k : ∀ z : Int32, z = x ||| y → hxa d ret tb (pc + 1) l (.int z :: st) A P) : hxa d ret tb pc l (.int y :: .int x :: st) A P := hxa_ior hI (k _ rfl)
theorem hxj_iandE {x y : Int32} (hI : hc_get tb pc = some (.iand, len, r1, r2)) (k : ∀ z : Int32, z = x &&& y → hxa d ret tb (pc + 1) l (.int z :: st) A P) : hxa d ret tb pc l (.int y :: .int x :: st) A P := hxa_iand hI (k _ rfl)
theorem hxj_ishrE {x y : Int32} (hI : hc_get tb pc = some (.ishr, len, r1, r2)) (k : ∀ z : Int32, z = x >>> (y &&& 31) → hxa d ret tb (pc + 1) l (.int z :: st) A P) : hxa d ret tb pc l (.int y :: .int x :: st) A P := hxa_ishr hI (k _ rfl)
theorem hxj_ishlE {x y : Int32} (hI : hc_get tb pc = some (.ishl, len, r1, r2)) (k : ∀ z : Int32, z = x <<< (y &&& 31) → hxa d ret tb (pc + 1) l (.int z :: st) A P) : hxa d ret tb pc l (.int y :: .int x :: st) A P := hxa_ishl hI (k _ rfl)
end HXE
theorem haa_slotsE {j : Int32} (h0 : 0 ≤ j.toInt) (h1 : j.toInt ≤ 2) : ∃ L, hLL L ∧ ([347, 354, 361] : List Nat)[j.toNatClampNeg]? = some (L + 1) ∧ L = 346 + 7 * j.toNatClampNeg := by
  obtain ⟨L, hL, e⟩ := haa_slots (j := j) rfl h0 h1
  refine ⟨L, hL, e, ?_⟩
  have c := hn_cn (j := j) h0
  have q : j.toNatClampNeg = 0 ∨ j.toNatClampNeg = 1 ∨ j.toNatClampNeg = 2 := by omega
  rcases q with q | q | q
  · rw [q] at e ⊢
    have e' : some 347 = some (L + 1) := e
    injection e' with e'
    omega
  · rw [q] at e ⊢
    have e' : some 354 = some (L + 1) := e
    injection e' with e'
    omega
  · rw [q] at e ⊢
    have e' : some 361 = some (L + 1) := e
    injection e' with e'
    omega
set_option maxRecDepth 1000000 in
theorem uf_slo : uf_rk [73] 347 = true ∧ uf_rk [73] 354 = true ∧ uf_rk [73] 361 = true := by decide +kernel
theorem uf_slV {L s : Nat} (hs : s < 3) (h : L = 346 + 7 * s) : ug_V (some (.inl [73])) (.ref (L + 1)) := by
  subst h
  obtain ⟨a, b, c⟩ := uf_slo
  have q : s = 0 ∨ s = 1 ∨ s = 2 := by omega
  rcases q with rfl | rfl | rfl
  · exact uf_rk_ok a
  · exact uf_rk_ok b
  · exact uf_rk_ok c

theorem uf_k17s {d L s : Nat} {A : hs_A} {P : Option Value → hs_A → Prop} (hs : s < 3) (hL : L = 346 + 7 * s) (hH : uf_H A) (w : hxC d 17 hm_m17 [.ref (L + 1), .ref 27] A P) : hxC d 17 hm_m17 [.ref (L + 1), .ref 27] A (fun r A' => P r A' ∧ uf_W ug_x154.2.2.2.1 A A' ∧ uf_H A') := uf_X (X := ug_x154) (j := 154) rfl rfl (ug_L.cons (uf_slV hs hL) (ug_L.cons (uf_rk_ok (by decide +kernel)) uf_nil)) hH w
theorem hY128f {d : Nat} {Bn Br : Int} {A0 A : hs_A} (hA : hJ 0 Bn Br A0 A)  (a1 : Int32) (uH : uf_H A) {P : Option Value → hs_A → Prop} (hP : ∀ (r : Option Value) (A' : hs_A), (hJ 0 Bn Br A0 A' ∧ ∃ z : Int32, r = some (.int z) ∧ ((z.toInt = 1 ∧ 0 ≤ a1.toInt ∧ a1.toInt ≤ 2 ∧ A'.1 0 10 = A.1 0 10 ||| (Int32.ofNat 1 <<< (a1 &&& 31))) ∨ (z.toInt = 0 ∧ (a1.toInt < 0 ∨ 2 < a1.toInt) ∧ A'.1 0 10 = A.1 0 10))) → P r A') : hxa (d + 1) (some (.boolean)) hm_t128 0 [.ref 1, .int a1] [] A P := by
  have k0 := hk_0
  have k1 := hk_1
  have k2 := hk_2
  refine hxa_iload_n (by rfl) rfl ?_
  refine hxa_iconst (by rfl) rfl ?_
  refine hxa_iconst (by rfl) rfl ?_
  refine hxa_call2 (by rfl) (by decide) (by rfl) (by rfl) (by rfl) (hX78 (d := d + 0)  a1 (Int32.ofNat 0) (Int32.ofNat 2)) ?_
  rintro _ _ ⟨rfl, z1, rfl, fz1⟩
  rcases fz1 with fz1 | fz1
  ·
    refine hxj_zne (by rfl) rfl (fun q2 => ?_) (fun q2 => False.elim (by omega))
    refine hxa_aload_n (by rfl) rfl ?_
    refine hxa_get (v := .ref 323) (by rfl) (by rfl) (by rfl) rfl ?_
    refine hxa_iload_n (by rfl) rfl ?_
    obtain ⟨L3, hL3, eL3, sL⟩ := haa_slotsE (j := a1) (by omega) (by omega)
    refine hxa_aald (by rfl) (Or.inl rfl) (by rfl) (hn_ix0 rfl (by omega)) eL3 ?_
    refine hxa_aload_n (by rfl) rfl ?_
    refine hxa_get (v := .ref 27) (by rfl) (by rfl) (by rfl) rfl ?_
    refine hxa_call0 (by rfl) (by rfl) (by rfl) (hsL hL3) (by rfl) (by rfl) (uf_k17s (by have := hn_cn (j := a1) (by omega); omega) sL uH (hX17 (d := d + 0) hA hL3 hL26)) ?_
    rintro _ A4 ⟨⟨hA4, rfl⟩, w4, -⟩
    refine hxa_aload_n (by rfl) rfl ?_
    refine hxa_dupR (by rfl) ?_
    refine hxj_getI (by rfl) (by rfl) (by rfl) (fun z5 ez5 => ?_)
    refine hxa_iconst (by rfl) rfl ?_
    refine hxa_iload_n (by rfl) rfl ?_
    refine hxj_ishlE (by rfl) (fun z6 ez6 => ?_)
    refine hxj_iorE (by rfl) (fun z7 ez7 => ?_)
    refine hxj_putI (by rfl) (by rfl) (by rfl) (by rfl) hA4 (hbokN (by rfl)) (by rfl) (by rfl) (fun A8 hA8 eA8 fA8 => ?_)
    refine hxa_iconst (by rfl) rfl ?_
    exact hxa_ireturn (by rfl) (by rfl) (hP _ _ ⟨hA8, _, rfl, Or.inl ⟨hk_1, by omega, by omega, by rw [eA8, hup1, ez7, ← ez5, ez6, w4.1 0 _ _ 10 rfl rfl (by decide +kernel)]⟩⟩)
  ·
    refine hxj_zne (by rfl) rfl (fun q9 => False.elim (by omega)) (fun q9 => ?_)
    refine hxa_iconst (by rfl) rfl ?_
    exact hxa_ireturn (by rfl) (by rfl) (hP _ _ ⟨hA, _, rfl, Or.inr ⟨hk_0, by omega, rfl⟩⟩)
theorem hX128f {d : Nat} {Bn Br : Int} {A0 A : hs_A} (hA : hJ 0 Bn Br A0 A)  (a1 : Int32) (uH : uf_H A) : hxC (d + 2) 128 hm_m128 [.ref 1, .int a1] A (fun r A' => hJ 0 Bn Br A0 A' ∧ ∃ z : Int32, r = some (.int z) ∧ ((z.toInt = 1 ∧ 0 ≤ a1.toInt ∧ a1.toInt ≤ 2 ∧ A'.1 0 10 = A.1 0 10 ||| (Int32.ofNat 1 <<< (a1 &&& 31))) ∨ (z.toInt = 0 ∧ (a1.toInt < 0 ∨ 2 < a1.toInt) ∧ A'.1 0 10 = A.1 0 10))) := hxC.of (by rfl) (hY128f hA a1 uH (fun r A' h => h))
theorem hY238f {d : Nat} {N : Int} {A0 A : hs_A} (hA : hJ 0 N (N + 72) A0 A) (hN : N ≤ 900000) (a1 : Int32)  {P : Option Value → hs_A → Prop} (hP : ∀ (r : Option Value) (A' : hs_A), (hJ 0 (N + 72) (N + 144) A0 A' ∧ ∃ z : Int32, r = some (.int z) ∧ ((z.toInt = 1 ∧ 0 ≤ a1.toInt ∧ a1.toInt ≤ 2 ∧ ∀ j, A'.2.1 408 j = if j = a1.toNatClampNeg then Int32.ofNat 1 else A.2.1 408 j) ∨ (z.toInt = 0 ∧ (a1.toInt < 0 ∨ 2 < a1.toInt) ∧ ∀ j, A'.2.1 408 j = A.2.1 408 j))) → P r A') : hxa (d + 1) (some (.boolean)) hm_t238 0 [.ref 368, .int a1, .retAddr 0] [] A P := by
  have k0 := hk_0
  have k1 := hk_1
  have k2 := hk_2
  have L20 : ∀ (m20 : Nat) (x20_2 : Int32) (Ac20 : hs_A) (hAc20 : hJ 0 N (N + 72) A0 Ac20) (bx20_2 : 0 ≤ x20_2.toInt) (cx20_2 : x20_2.toInt ≤ 73) (ba1 : 0 ≤ a1.toInt) (ca1 : a1.toInt ≤ 2) (hm20 : 73 - x20_2.toInt < (m20 : Int)) (iv20 : ∀ j, Ac20.2.1 408 j = if j = a1.toNatClampNeg then Int32.ofNat 1 else A.2.1 408 j), hxa (d + 1) (some (.boolean)) hm_t238 20 [.ref 368, .int a1, .int x20_2] [] Ac20 P := by
    intro m20
    induction m20 with
    | zero => intro x20_2 Ac20 hAc20 bx20_2 cx20_2 ba1 ca1 hm20 iv20;  exact False.elim (by omega)
    | succ m20 ih20 =>
      intro x20_2 Ac20 hAc20 bx20_2 cx20_2 ba1 ca1 hm20 iv20
      refine hxa_iload_n (by rfl) rfl ?_
      refine hxa_bipush (by rfl) rfl ?_
      refine hxj_cge (by rfl) rfl hk_73 (fun q1 => ?_) (fun q1 => ?_)
      ·
        refine hxa_iconst (by rfl) rfl ?_
        exact hxa_ireturn (by rfl) (by rfl) (hP _ _ ⟨(hJ.mono hAc20 (by omega) (by omega)), _, rfl, Or.inl ⟨hk_1, by omega, by omega, iv20⟩⟩)
      ·
        refine hxa_aload_n (by rfl) rfl ?_
        refine hxa_get (v := .ref 410) (by rfl) (by rfl) (by rfl) rfl ?_
        refine hxa_bipush (by rfl) rfl ?_
        refine hxa_iload_n (by rfl) rfl ?_
        refine hxj_imul (by rfl) hk_73 rfl (by omega) (by omega) (fun z2 ez2 => ?_)
        refine hxa_iload_n (by rfl) rfl ?_
        refine hxj_iadd (by rfl) rfl rfl (by omega) (by omega) (fun z3 ez3 => ?_)
        refine hxa_aload_n (by rfl) rfl ?_
        refine hxa_get (v := .ref 396) (by rfl) (by rfl) (by rfl) rfl ?_
        refine hxa_iload_n (by rfl) rfl ?_
        refine hxj_iald395 (by rfl) rfl (by omega) (by omega) hAc20 (fun z4 ez4 fz4 => ?_)
        refine hxj_iast409 (by rfl) rfl (by omega) (by omega) rfl hAc20 (by omega) (fun A5 hA5 eA5 fA5 gA5 => ?_)
        refine hxj_iinc (by rfl) rfl rfl hk_1 (by omega) (by omega) (fun _ => rfl) (fun z6 ez6 => ?_)
        refine hxa_goto (by rfl) ?_
        exact ih20 z6 A5 hA5 (by omega) (by omega) (by omega) (by omega) (by omega) (fun j => by rw [fA5, hup2 (by omega)]; exact iv20 j)
  refine hxa_iload_n (by rfl) rfl ?_
  refine hxa_iconst (by rfl) rfl ?_
  refine hxa_iconst (by rfl) rfl ?_
  refine hxa_call2 (by rfl) (by decide) (by rfl) (by rfl) (by rfl) (hX164 (d := d + 0)  a1 (Int32.ofNat 0) (Int32.ofNat 2)) ?_
  rintro _ _ ⟨rfl, z7, rfl, fz7⟩
  rcases fz7 with fz7 | fz7
  ·
    refine hxj_zne (by rfl) rfl (fun q8 => ?_) (fun q8 => False.elim (by omega))
    refine hxa_aload_n (by rfl) rfl ?_
    refine hxa_get (v := .ref 409) (by rfl) (by rfl) (by rfl) rfl ?_
    refine hxa_iload_n (by rfl) rfl ?_
    refine hxa_iconst (by rfl) rfl ?_
    refine hxj_zast (by rfl) (by rfl) rfl (by omega) (by omega) hk_1 (by omega) (by omega) hA (hbokN (by rfl)) (by rfl) (by rfl) (fun A9 hA9 eA9 fA9 gA9 => ?_)
    refine hxa_iconst (by rfl) rfl ?_
    refine hxa_s1 (by rfl) (Or.inl ⟨_, rfl, rfl⟩) rfl ?_
    exact L20 (Int.toNat (73 - 0) + 1) (Int32.ofNat 0) A9 hA9 (by omega) (by omega) (by omega) (by omega) (by omega) (fun j => by rw [fA9]; by_cases q : j = a1.toNatClampNeg; (rw [if_pos q, q, hup1]); (rw [if_neg q, hup2 (fun w => q w.2)]))
  ·
    refine hxj_zne (by rfl) rfl (fun q10 => False.elim (by omega)) (fun q10 => ?_)
    refine hxa_iconst (by rfl) rfl ?_
    exact hxa_ireturn (by rfl) (by rfl) (hP _ _ ⟨(hJ.mono hA (by omega) (by omega)), _, rfl, Or.inr ⟨hk_0, by omega, fun _ => rfl⟩⟩)
theorem hX238f {d : Nat} {N : Int} {A0 A : hs_A} (hA : hJ 0 N (N + 72) A0 A) (hN : N ≤ 900000) (a1 : Int32)  : hxC (d + 2) 238 hm_m238 [.ref 368, .int a1] A (fun r A' => hJ 0 (N + 72) (N + 144) A0 A' ∧ ∃ z : Int32, r = some (.int z) ∧ ((z.toInt = 1 ∧ 0 ≤ a1.toInt ∧ a1.toInt ≤ 2 ∧ ∀ j, A'.2.1 408 j = if j = a1.toNatClampNeg then Int32.ofNat 1 else A.2.1 408 j) ∨ (z.toInt = 0 ∧ (a1.toInt < 0 ∨ 2 < a1.toInt) ∧ ∀ j, A'.2.1 408 j = A.2.1 408 j))) := hxC.of (by rfl) (hY238f hA hN a1  (fun r A' h => h))
theorem hY129f {d : Nat} {Bn Br : Int} {A0 A : hs_A} (hA : hJ 0 Bn Br A0 A)  (a1 : Int32)  {P : Option Value → hs_A → Prop} (hP : ∀ (r : Option Value) (A' : hs_A), (hJ 0 Bn Br A0 A' ∧ ∃ z : Int32, r = some (.int z) ∧ ((z.toInt = 1 ∧ 0 ≤ a1.toInt ∧ a1.toInt ≤ 2 ∧ ¬ hBit (A.1 0 10) a1 = 0) ∨ (z.toInt = 0 ∧ (a1.toInt < 0 ∨ 2 < a1.toInt ∨ hBit (A.1 0 10) a1 = 0)))) → P r A') : hxa (d + 1) (some (.boolean)) hm_t129 0 [.ref 1, .int a1] [] A P := by
  have k0 := hk_0
  have k1 := hk_1
  have k2 := hk_2
  refine hxa_iload_n (by rfl) rfl ?_
  refine hxa_iconst (by rfl) rfl ?_
  refine hxa_iconst (by rfl) rfl ?_
  refine hxa_call2 (by rfl) (by decide) (by rfl) (by rfl) (by rfl) (hX78 (d := d + 0)  a1 (Int32.ofNat 0) (Int32.ofNat 2)) ?_
  rintro _ _ ⟨rfl, z1, rfl, fz1⟩
  rcases fz1 with fz1 | fz1
  ·
    refine hxj_zeq (by rfl) rfl (fun q2 => False.elim (by omega)) (fun q2 => ?_)
    refine hxa_aload_n (by rfl) rfl ?_
    refine hxj_getI (by rfl) (by rfl) (by rfl) (fun z3 ez3 => ?_)
    refine hxa_iload_n (by rfl) rfl ?_
    refine hxj_ishrE (by rfl) (fun z4 ez4 => ?_)
    refine hxa_iconst (by rfl) rfl ?_
    refine hxj_iandE (by rfl) (fun z5 ez5 => ?_)
    have hb : hBit (A.1 0 10) a1 = z5.toInt := by unfold hBit; rw [ez5, ez4, ez3]
    refine hxj_zne (by rfl) rfl (fun q6 => ?_) (fun q6 => ?_)
    ·
      refine hxa_aload_n (by rfl) rfl ?_
      refine hxa_get (v := .ref 27) (by rfl) (by rfl) (by rfl) rfl ?_
      refine hxa_aload_n (by rfl) rfl ?_
      refine hxa_get (v := .ref 323) (by rfl) (by rfl) (by rfl) rfl ?_
      refine hxa_iload_n (by rfl) rfl ?_
      obtain ⟨L7, hL7, eL7⟩ := haa_slots (j := a1) rfl (by omega) (by omega)
      refine hxa_aald (by rfl) (Or.inl rfl) (by rfl) (hn_ix0 rfl (by omega)) eL7 ?_
      refine hxa_call0 (by rfl) (by rfl) (by rfl) (by rfl) (by rfl) (by rfl) (hX17 (d := d + 0) hA hL26 hL7) ?_
      rintro _ A8 ⟨hA8, rfl⟩
      refine hxa_aload_n (by rfl) rfl ?_
      refine hxa_get (v := .ref 41) (by rfl) (by rfl) (by rfl) rfl ?_
      refine hxa_iconst (by rfl) rfl ?_
      refine hxj_putI (by rfl) (by rfl) (by rfl) (by rfl) hA8 (hbok (by rfl) hk_0 (by omega) (by omega)) (by rfl) (by rfl) (fun A9 hA9 eA9 fA9 => ?_)
      refine hxa_aload_n (by rfl) rfl ?_
      refine hxa_get (v := .ref 329) (by rfl) (by rfl) (by rfl) rfl ?_
      refine hxa_iconst (by rfl) rfl ?_
      refine hxj_putI (by rfl) (by rfl) (by rfl) (by rfl) hA9 (hbok (by rfl) hk_0 (by omega) (by omega)) (by rfl) (by rfl) (fun A10 hA10 eA10 fA10 => ?_)
      refine hxa_iconst (by rfl) rfl ?_
      exact hxa_ireturn (by rfl) (by rfl) (hP _ _ ⟨hA10, _, rfl, by omega⟩)
    ·
      refine hxa_iconst (by rfl) rfl ?_
      exact hxa_ireturn (by rfl) (by rfl) (hP _ _ ⟨hA, _, rfl, by omega⟩)
  ·
    refine hxj_zeq (by rfl) rfl (fun q11 => ?_) (fun q11 => False.elim (by omega))
    refine hxa_iconst (by rfl) rfl ?_
    exact hxa_ireturn (by rfl) (by rfl) (hP _ _ ⟨hA, _, rfl, by omega⟩)
theorem hX129f {d : Nat} {Bn Br : Int} {A0 A : hs_A} (hA : hJ 0 Bn Br A0 A)  (a1 : Int32)  : hxC (d + 2) 129 hm_m129 [.ref 1, .int a1] A (fun r A' => hJ 0 Bn Br A0 A' ∧ ∃ z : Int32, r = some (.int z) ∧ ((z.toInt = 1 ∧ 0 ≤ a1.toInt ∧ a1.toInt ≤ 2 ∧ ¬ hBit (A.1 0 10) a1 = 0) ∨ (z.toInt = 0 ∧ (a1.toInt < 0 ∨ 2 < a1.toInt ∨ hBit (A.1 0 10) a1 = 0)))) := hxC.of (by rfl) (hY129f hA a1  (fun r A' h => h))
theorem hY239f {d : Nat} {N : Int} {A0 A : hs_A} (hA : hJ 0 N (N + 72) A0 A) (hN : N ≤ 900000) (a1 : Int32)  {P : Option Value → hs_A → Prop} (hP : ∀ (r : Option Value) (A' : hs_A), (hJ 0 (N + 72) (N + 144) A0 A' ∧ ∃ z : Int32, r = some (.int z) ∧ ((z.toInt = 1 ∧ 0 ≤ a1.toInt ∧ a1.toInt ≤ 2 ∧ ¬ (A.2.1 408 a1.toNatClampNeg).toInt = 0) ∨ (z.toInt = 0 ∧ (a1.toInt < 0 ∨ 2 < a1.toInt ∨ (A.2.1 408 a1.toNatClampNeg).toInt = 0)))) → P r A') : hxa (d + 1) (some (.boolean)) hm_t239 0 [.ref 368, .int a1, .retAddr 0] [] A P := by
  have k0 := hk_0
  have k1 := hk_1
  have k2 := hk_2
  have L22 : ∀ (m22 : Nat) (x22_2 : Int32) (Ac22 : hs_A) (hAc22 : hJ 0 N (N + 72) A0 Ac22) (bx22_2 : 0 ≤ x22_2.toInt) (cx22_2 : x22_2.toInt ≤ 73) (ba1 : 0 ≤ a1.toInt) (ca1 : a1.toInt ≤ 2) (hm22 : 73 - x22_2.toInt < (m22 : Int)) (iv22 : ¬ (A.2.1 408 a1.toNatClampNeg).toInt = 0), hxa (d + 1) (some (.boolean)) hm_t239 22 [.ref 368, .int a1, .int x22_2] [] Ac22 P := by
    intro m22
    induction m22 with
    | zero => intro x22_2 Ac22 hAc22 bx22_2 cx22_2 ba1 ca1 hm22 iv22;  exact False.elim (by omega)
    | succ m22 ih22 =>
      intro x22_2 Ac22 hAc22 bx22_2 cx22_2 ba1 ca1 hm22 iv22
      refine hxa_iload_n (by rfl) rfl ?_
      refine hxa_bipush (by rfl) rfl ?_
      refine hxj_cge (by rfl) rfl hk_73 (fun q1 => ?_) (fun q1 => ?_)
      ·
        refine hxa_aload_n (by rfl) rfl ?_
        refine hxa_iconst (by rfl) rfl ?_
        refine hxj_putI (by rfl) (by rfl) (by rfl) (by rfl) hAc22 (hbok (by rfl) hk_0 (by omega) (by omega)) (by rfl) (by rfl) (fun A2 hA2 eA2 fA2 => ?_)
        refine hxa_iconst (by rfl) rfl ?_
        exact hxa_ireturn (by rfl) (by rfl) (hP _ _ ⟨(hJ.mono hA2 (by omega) (by omega)), _, rfl, by omega⟩)
      ·
        refine hxa_aload_n (by rfl) rfl ?_
        refine hxa_get (v := .ref 396) (by rfl) (by rfl) (by rfl) rfl ?_
        refine hxa_iload_n (by rfl) rfl ?_
        refine hxa_aload_n (by rfl) rfl ?_
        refine hxa_get (v := .ref 410) (by rfl) (by rfl) (by rfl) rfl ?_
        refine hxa_bipush (by rfl) rfl ?_
        refine hxa_iload_n (by rfl) rfl ?_
        refine hxj_imul (by rfl) hk_73 rfl (by omega) (by omega) (fun z3 ez3 => ?_)
        refine hxa_iload_n (by rfl) rfl ?_
        refine hxj_iadd (by rfl) rfl rfl (by omega) (by omega) (fun z4 ez4 => ?_)
        refine hxj_iald409 (by rfl) rfl (by omega) (by omega) hAc22 (fun z5 ez5 fz5 => ?_)
        refine hxj_iast395 (by rfl) rfl (by omega) (by omega) rfl hAc22 (by omega) (fun A6 hA6 eA6 fA6 gA6 => ?_)
        refine hxj_iinc (by rfl) rfl rfl hk_1 (by omega) (by omega) (fun _ => rfl) (fun z7 ez7 => ?_)
        refine hxa_goto (by rfl) ?_
        exact ih22 z7 A6 hA6 (by omega) (by omega) (by omega) (by omega) (by omega) iv22
  refine hxa_iload_n (by rfl) rfl ?_
  refine hxa_iconst (by rfl) rfl ?_
  refine hxa_iconst (by rfl) rfl ?_
  refine hxa_call2 (by rfl) (by decide) (by rfl) (by rfl) (by rfl) (hX164 (d := d + 0)  a1 (Int32.ofNat 0) (Int32.ofNat 2)) ?_
  rintro _ _ ⟨rfl, z8, rfl, fz8⟩
  rcases fz8 with fz8 | fz8
  ·
    refine hxj_zeq (by rfl) rfl (fun q9 => False.elim (by omega)) (fun q9 => ?_)
    refine hxa_aload_n (by rfl) rfl ?_
    refine hxa_get (v := .ref 409) (by rfl) (by rfl) (by rfl) rfl ?_
    refine hxa_iload_n (by rfl) rfl ?_
    refine hxj_zald (by rfl) (by rfl) rfl (by omega) (by omega) (fun z10 ez10 => ?_)
    have t10 := congrArg Int32.toInt ez10
    refine hxj_zne (by rfl) rfl (fun q11 => ?_) (fun q11 => ?_)
    ·
      refine hxa_iconst (by rfl) rfl ?_
      refine hxa_s1 (by rfl) (Or.inl ⟨_, rfl, rfl⟩) rfl ?_
      exact L22 (Int.toNat (73 - 0) + 1) (Int32.ofNat 0) A hA (by omega) (by omega) (by omega) (by omega) (by omega) (by rw [ez10]; omega)
    ·
      refine hxa_iconst (by rfl) rfl ?_
      exact hxa_ireturn (by rfl) (by rfl) (hP _ _ ⟨(hJ.mono hA (by omega) (by omega)), _, rfl, by omega⟩)
  ·
    refine hxj_zeq (by rfl) rfl (fun q12 => ?_) (fun q12 => False.elim (by omega))
    refine hxa_iconst (by rfl) rfl ?_
    exact hxa_ireturn (by rfl) (by rfl) (hP _ _ ⟨(hJ.mono hA (by omega) (by omega)), _, rfl, by omega⟩)
theorem hX239f {d : Nat} {N : Int} {A0 A : hs_A} (hA : hJ 0 N (N + 72) A0 A) (hN : N ≤ 900000) (a1 : Int32)  : hxC (d + 2) 239 hm_m239 [.ref 368, .int a1] A (fun r A' => hJ 0 (N + 72) (N + 144) A0 A' ∧ ∃ z : Int32, r = some (.int z) ∧ ((z.toInt = 1 ∧ 0 ≤ a1.toInt ∧ a1.toInt ≤ 2 ∧ ¬ (A.2.1 408 a1.toNatClampNeg).toInt = 0) ∨ (z.toInt = 0 ∧ (a1.toInt < 0 ∨ 2 < a1.toInt ∨ (A.2.1 408 a1.toNatClampNeg).toInt = 0)))) := hxC.of (by rfl) (hY239f hA hN a1  (fun r A' h => h))
theorem hY76f {d : Nat} {Bn Br : Int} {A0 A : hs_A} (hA : hJ 0 Bn Br A0 A)  (a1 : Int32) {H : Int} (hH : ∀ T, hTT T → A.2.2.2 0 3 = T + 1 → (A.1 T 4).toInt = H) {P : Option Value → hs_A → Prop} (hP : ∀ (r : Option Value) (A' : hs_A), (A = A' ∧ ∃ z : Int32, r = some (.int z) ∧ ((z.toInt = 1 ∧ 0 ≤ a1.toInt ∧ a1.toInt < H ∧ a1.toInt ≤ 9) ∨ (z.toInt = 0 ∧ (a1.toInt < 0 ∨ H ≤ a1.toInt)))) → P r A') : hxa (d + 0) (some (.boolean)) hm_t76 0 [.ref 1, .int a1] [] A P := by
  have k0 := hk_0
  have k1 := hk_1
  obtain ⟨T0, hT0, -, eT0⟩ := hA.T
  refine hxa_iload_n (by rfl) rfl ?_
  refine hxj_zlt (by rfl) rfl (fun q1 => ?_) (fun q1 => ?_)
  ·
    refine hxa_iconst (by rfl) rfl ?_
    exact hxa_ireturn (by rfl) (by rfl) (hP _ _ ⟨rfl, _, rfl, by omega⟩)
  ·
    refine hxa_iload_n (by rfl) rfl ?_
    refine hxa_aload_n (by rfl) rfl ?_
    refine hxj_getT (by rfl) (by rfl) (by rfl) (hA.Tw eT0) ?_
    refine hxj_getB (by rfl) (hsT hT0) (by rfl) hA (hbT_4 hT0) (fun z2 ez2 fz2 gz2 => ?_)
    have hh := hH T0 hT0 (hA.Tw eT0)
    rw [ez2] at hh
    have rga1 := hn_rng a1
    refine hxj_cge (by rfl) rfl rfl (fun q3 => ?_) (fun q3 => ?_)
    ·
      refine hxa_iconst (by rfl) rfl ?_
      exact hxa_ireturn (by rfl) (by rfl) (hP _ _ ⟨rfl, _, rfl, by omega⟩)
    ·
      refine hxa_iload_n (by rfl) rfl ?_
      refine hxa_bipush (by rfl) rfl ?_
      refine hxj_cge (by rfl) rfl hk_10 (fun q4 => False.elim (by omega)) (fun q4 => ?_)
      refine hxa_iconst (by rfl) rfl ?_
      refine hxa_goto (by rfl) ?_
      exact hxa_ireturn (by rfl) (by rfl) (hP _ _ ⟨rfl, _, rfl, by omega⟩)
theorem hX76f {d : Nat} {Bn Br : Int} {A0 A : hs_A} (hA : hJ 0 Bn Br A0 A)  (a1 : Int32) {H : Int} (hH : ∀ T, hTT T → A.2.2.2 0 3 = T + 1 → (A.1 T 4).toInt = H) : hxC (d + 1) 76 hm_m76 [.ref 1, .int a1] A (fun r A' => A = A' ∧ ∃ z : Int32, r = some (.int z) ∧ ((z.toInt = 1 ∧ 0 ≤ a1.toInt ∧ a1.toInt < H ∧ a1.toInt ≤ 9) ∨ (z.toInt = 0 ∧ (a1.toInt < 0 ∨ H ≤ a1.toInt)))) := hxC.of (by rfl) (hY76f hA a1 hH (fun r A' h => h))
theorem hY167f {d : Nat} {Bn Br : Int} {A0 A : hs_A} (hA : hJ 0 Bn Br A0 A)  (a1 : Int32) {H : Int} (hH : (A.2.1 376 (A.1 367 18).toNatClampNeg).toInt = H) {P : Option Value → hs_A → Prop} (hP : ∀ (r : Option Value) (A' : hs_A), (A = A' ∧ ∃ z : Int32, r = some (.int z) ∧ ((z.toInt = 1 ∧ 0 ≤ a1.toInt ∧ a1.toInt < H ∧ a1.toInt ≤ 9) ∨ (z.toInt = 0 ∧ (a1.toInt < 0 ∨ H ≤ a1.toInt)))) → P r A') : hxa (d + 1) (some (.boolean)) hm_t167 0 [.ref 368, .int a1] [] A P := by
  have k0 := hk_0
  refine hxa_iload_n (by rfl) rfl ?_
  refine hxa_iconst (by rfl) rfl ?_
  refine hxa_aload_n (by rfl) rfl ?_
  refine hxa_get (v := .ref 377) (by rfl) (by rfl) (by rfl) rfl ?_
  refine hxa_aload_n (by rfl) rfl ?_
  refine hxj_getB (by rfl) (by rfl) (by rfl) hA (by rfl) (fun z1 ez1 fz1 gz1 => ?_)
  refine hxj_ialdB (by rfl) (by rfl) rfl (by omega) (by omega) hA (by rfl) (fun z2 ez2 fz2 gz2 => ?_)
  have hh := hH
  rw [ez1, ez2] at hh
  refine hxa_iconst (by rfl) rfl ?_
  refine hxj_isub (by rfl) rfl hk_1 (by omega) (by omega) (fun z3 ez3 => ?_)
  refine hxa_call2 (by rfl) (by decide) (by rfl) (by rfl) (by rfl) (hX164 (d := d + 0)  a1 (Int32.ofNat 0) z3) ?_
  rintro _ _ ⟨rfl, z4, rfl, fz4⟩
  rcases fz4 with fz4 | fz4
  ·
    exact hxa_ireturn (by rfl) (hn_fitB (by omega) (by omega)) (hP _ _ ⟨rfl, _, rfl, by omega⟩)
  ·
    exact hxa_ireturn (by rfl) (hn_fitB (by omega) (by omega)) (hP _ _ ⟨rfl, _, rfl, by omega⟩)
theorem hX167f {d : Nat} {Bn Br : Int} {A0 A : hs_A} (hA : hJ 0 Bn Br A0 A)  (a1 : Int32) {H : Int} (hH : (A.2.1 376 (A.1 367 18).toNatClampNeg).toInt = H) : hxC (d + 2) 167 hm_m167 [.ref 368, .int a1] A (fun r A' => A = A' ∧ ∃ z : Int32, r = some (.int z) ∧ ((z.toInt = 1 ∧ 0 ≤ a1.toInt ∧ a1.toInt < H ∧ a1.toInt ≤ 9) ∨ (z.toInt = 0 ∧ (a1.toInt < 0 ∨ H ≤ a1.toInt)))) := hxC.of (by rfl) (hY167f hA a1 hH (fun r A' h => h))
theorem hY77f {d : Nat} {A : hs_A} (a1 : Int32)  {P : Option Value → hs_A → Prop} (hP : ∀ (r : Option Value) (A' : hs_A), (A = A' ∧ ∃ z : Int32, r = some (.int z) ∧ ((z.toInt = 1 ∧ 0 ≤ a1.toInt ∧ a1.toInt ≤ 255) ∨ (z.toInt = 0 ∧ (a1.toInt < 0 ∨ 255 < a1.toInt)))) → P r A') : hxa (d + 0) (some (.boolean)) hm_t77 0 [.int a1] [] A P := by
  have k0 := hk_0
  have k1 := hk_1
  refine hxa_iload_n (by rfl) rfl ?_
  refine hxj_zlt (by rfl) rfl (fun q1 => ?_) (fun q1 => ?_)
  ·
    refine hxa_iconst (by rfl) rfl ?_
    exact hxa_ireturn (by rfl) (by rfl) (hP _ _ ⟨rfl, _, rfl, by omega⟩)
  ·
    refine hxa_iload_n (by rfl) rfl ?_
    refine hxa_sipush (by rfl) rfl ?_
    refine hxj_cge (by rfl) rfl hk_256 (fun q2 => ?_) (fun q2 => ?_)
    ·
      refine hxa_iconst (by rfl) rfl ?_
      exact hxa_ireturn (by rfl) (by rfl) (hP _ _ ⟨rfl, _, rfl, by omega⟩)
    ·
      refine hxa_iconst (by rfl) rfl ?_
      refine hxa_goto (by rfl) ?_
      exact hxa_ireturn (by rfl) (by rfl) (hP _ _ ⟨rfl, _, rfl, by omega⟩)
theorem hX77f {d : Nat} {A : hs_A} (a1 : Int32)  : hxC (d + 1) 77 hm_m77 [.int a1] A (fun r A' => A = A' ∧ ∃ z : Int32, r = some (.int z) ∧ ((z.toInt = 1 ∧ 0 ≤ a1.toInt ∧ a1.toInt ≤ 255) ∨ (z.toInt = 0 ∧ (a1.toInt < 0 ∨ 255 < a1.toInt)))) := hxC.of (by rfl) (hY77f a1  (fun r A' h => h))
theorem hY168f {d : Nat} {A : hs_A} (a1 : Int32)  {P : Option Value → hs_A → Prop} (hP : ∀ (r : Option Value) (A' : hs_A), (A = A' ∧ ∃ z : Int32, r = some (.int z) ∧ ((z.toInt = 1 ∧ 0 ≤ a1.toInt ∧ a1.toInt ≤ 255) ∨ (z.toInt = 0 ∧ (a1.toInt < 0 ∨ 255 < a1.toInt)))) → P r A') : hxa (d + 1) (some (.boolean)) hm_t168 0 [.int a1] [] A P := by
  have k0 := hk_0
  have k255 := hk_255
  refine hxa_iload_n (by rfl) rfl ?_
  refine hxa_iconst (by rfl) rfl ?_
  refine hxa_sipush (by rfl) rfl ?_
  refine hxa_call2 (by rfl) (by decide) (by rfl) (by rfl) (by rfl) (hX164 (d := d + 0)  a1 (Int32.ofNat 0) (Int32.ofNat 255)) ?_
  rintro _ _ ⟨rfl, z1, rfl, fz1⟩
  rcases fz1 with fz1 | fz1
  ·
    exact hxa_ireturn (by rfl) (hn_fitB (by omega) (by omega)) (hP _ _ ⟨rfl, _, rfl, by omega⟩)
  ·
    exact hxa_ireturn (by rfl) (hn_fitB (by omega) (by omega)) (hP _ _ ⟨rfl, _, rfl, by omega⟩)
theorem hX168f {d : Nat} {A : hs_A} (a1 : Int32)  : hxC (d + 2) 168 hm_m168 [.int a1] A (fun r A' => A = A' ∧ ∃ z : Int32, r = some (.int z) ∧ ((z.toInt = 1 ∧ 0 ≤ a1.toInt ∧ a1.toInt ≤ 255) ∨ (z.toInt = 0 ∧ (a1.toInt < 0 ∨ 255 < a1.toInt)))) := hxC.of (by rfl) (hY168f a1  (fun r A' h => h))
theorem hY84f {d : Nat} {Bn Br : Int} {A0 A : hs_A} (hA : hJ 0 Bn Br A0 A)  (a1 : Int32) {H : Int} (hH : ∀ T, hTT T → A.2.2.2 0 3 = T + 1 → (A.1 T 4).toInt = H) {P : Option Value → hs_A → Prop} (hP : ∀ (r : Option Value) (A' : hs_A), (hJ 0 Bn Br A0 A' ∧ ∃ z : Int32, r = some (.int z) ∧ ((z.toInt = 1 ∧ 0 ≤ a1.toInt ∧ a1.toInt ≤ 255 ∧ ¬ H = 0) ∨ (z.toInt = 0 ∧ (a1.toInt < 0 ∨ 255 < a1.toInt ∨ H = 0)))) → P r A') : hxa (d + 3) (some (.boolean)) hm_t84 0 [.ref 1, .int a1] [] A P := by
  have k0 := hk_0
  have k1 := hk_1
  obtain ⟨T0, hT0, -, eT0⟩ := hA.T
  refine hxa_iload_n (by rfl) rfl ?_
  refine hxa_call2 (by rfl) (by decide) (by rfl) (by rfl) (by rfl) (hX77f (d := d + 2)  a1) ?_
  rintro _ _ ⟨rfl, z1, rfl, fz1⟩
  rcases fz1 with fz1 | fz1
  ·
    refine hxj_zeq (by rfl) rfl (fun q2 => False.elim (by omega)) (fun q2 => ?_)
    refine hxa_aload_n (by rfl) rfl ?_
    refine hxj_getT (by rfl) (by rfl) (by rfl) (hA.Tw eT0) ?_
    refine hxj_getB (by rfl) (hsT hT0) (by rfl) hA (hbT_4 hT0) (fun z3 ez3 fz3 gz3 => ?_)
    have hh := hH T0 hT0 (hA.Tw eT0)
    rw [ez3] at hh
    refine hxj_zne (by rfl) rfl (fun q4 => ?_) (fun q4 => ?_)
    ·
      refine hxa_aload_n (by rfl) rfl ?_
      refine hxa_call0 (by rfl) (by rfl) (by rfl) (by rfl) (by rfl) (by rfl) (hX82 (d := d + 0) hA ) ?_
      rintro _ A5 ⟨hA5, rfl⟩
      refine hxa_aload_n (by rfl) rfl ?_
      refine hxa_get (v := .ref 27) (by rfl) (by rfl) (by rfl) rfl ?_
      refine hxa_iload_n (by rfl) rfl ?_
      refine hxj_putI (by rfl) (by rfl) (by rfl) (by rfl) hA5 (hbok (by rfl) rfl (by omega) (by omega)) (by rfl) (by rfl) (fun A6 hA6 eA6 fA6 => ?_)
      refine hxa_iconst (by rfl) rfl ?_
      exact hxa_ireturn (by rfl) (by rfl) (hP _ _ ⟨hA6, _, rfl, by omega⟩)
    ·
      refine hxa_iconst (by rfl) rfl ?_
      exact hxa_ireturn (by rfl) (by rfl) (hP _ _ ⟨hA, _, rfl, by omega⟩)
  ·
    refine hxj_zeq (by rfl) rfl (fun q7 => ?_) (fun q7 => False.elim (by omega))
    refine hxa_iconst (by rfl) rfl ?_
    exact hxa_ireturn (by rfl) (by rfl) (hP _ _ ⟨hA, _, rfl, by omega⟩)
theorem hX84f {d : Nat} {Bn Br : Int} {A0 A : hs_A} (hA : hJ 0 Bn Br A0 A)  (a1 : Int32) {H : Int} (hH : ∀ T, hTT T → A.2.2.2 0 3 = T + 1 → (A.1 T 4).toInt = H) : hxC (d + 4) 84 hm_m84 [.ref 1, .int a1] A (fun r A' => hJ 0 Bn Br A0 A' ∧ ∃ z : Int32, r = some (.int z) ∧ ((z.toInt = 1 ∧ 0 ≤ a1.toInt ∧ a1.toInt ≤ 255 ∧ ¬ H = 0) ∨ (z.toInt = 0 ∧ (a1.toInt < 0 ∨ 255 < a1.toInt ∨ H = 0)))) := hxC.of (by rfl) (hY84f hA a1 hH (fun r A' h => h))
theorem hY192f {d : Nat} {N : Int} {A0 A : hs_A} (hA : hJ 0 N (N + 72) A0 A) (hN : N ≤ 900000) (a1 : Int32) {H : Int} (hH : (A.2.1 376 (A.1 367 18).toNatClampNeg).toInt = H) {P : Option Value → hs_A → Prop} (hP : ∀ (r : Option Value) (A' : hs_A), (hJ 0 (N + 72) (N + 144) A0 A' ∧ ∃ z : Int32, r = some (.int z) ∧ ((z.toInt = 1 ∧ 0 ≤ a1.toInt ∧ a1.toInt ≤ 255 ∧ ¬ H = 0) ∨ (z.toInt = 0 ∧ (a1.toInt < 0 ∨ 255 < a1.toInt ∨ H = 0)))) → P r A') : hxa (d + 2) (some (.boolean)) hm_t192 0 [.ref 368, .int a1] [] A P := by
  have k0 := hk_0
  have k1 := hk_1
  refine hxa_iload_n (by rfl) rfl ?_
  refine hxa_call2 (by rfl) (by decide) (by rfl) (by rfl) (by rfl) (hX168f (d := d + 0)  a1) ?_
  rintro _ _ ⟨rfl, z1, rfl, fz1⟩
  rcases fz1 with fz1 | fz1
  ·
    refine hxj_zeq (by rfl) rfl (fun q2 => False.elim (by omega)) (fun q2 => ?_)
    refine hxa_aload_n (by rfl) rfl ?_
    refine hxa_get (v := .ref 377) (by rfl) (by rfl) (by rfl) rfl ?_
    refine hxa_aload_n (by rfl) rfl ?_
    refine hxj_getB (by rfl) (by rfl) (by rfl) hA (by rfl) (fun z3 ez3 fz3 gz3 => ?_)
    refine hxj_ialdB (by rfl) (by rfl) rfl (by omega) (by omega) hA (by rfl) (fun z4 ez4 fz4 gz4 => ?_)
    have hh := hH
    rw [ez3, ez4] at hh
    refine hxj_zne (by rfl) rfl (fun q5 => ?_) (fun q5 => ?_)
    ·
      refine hxa_aload_n (by rfl) rfl ?_
      refine hxa_call0 (by rfl) (by rfl) (by rfl) (by rfl) (by rfl) (by rfl) (hX171 (d := d + 1) hA ) ?_
      rintro _ A6 ⟨hA6, rfl⟩
      refine hxa_aload_n (by rfl) rfl ?_
      refine hxa_get (v := .ref 397) (by rfl) (by rfl) (by rfl) rfl ?_
      refine hxa_bipush (by rfl) rfl ?_
      refine hxa_iload_n (by rfl) rfl ?_
      refine hxj_iast396 (by rfl) hk_71 (by omega) (by omega) rfl hA6 (by omega) (fun A7 hA7 eA7 fA7 gA7 => ?_)
      refine hxa_aload_n (by rfl) rfl ?_
      refine hxa_call0 (by rfl) (by rfl) (by rfl) (by rfl) (by rfl) (by rfl) (hX190 (d := d + 0) hA7 (by omega)) ?_
      rintro _ A8 ⟨hA8, rfl⟩
      refine hxa_iconst (by rfl) rfl ?_
      exact hxa_ireturn (by rfl) (by rfl) (hP _ _ ⟨(hJ.mono hA8 (by omega) (by omega)), _, rfl, by omega⟩)
    ·
      refine hxa_iconst (by rfl) rfl ?_
      exact hxa_ireturn (by rfl) (by rfl) (hP _ _ ⟨(hJ.mono hA (by omega) (by omega)), _, rfl, by omega⟩)
  ·
    refine hxj_zeq (by rfl) rfl (fun q9 => ?_) (fun q9 => False.elim (by omega))
    refine hxa_iconst (by rfl) rfl ?_
    exact hxa_ireturn (by rfl) (by rfl) (hP _ _ ⟨(hJ.mono hA (by omega) (by omega)), _, rfl, by omega⟩)
theorem hX192f {d : Nat} {N : Int} {A0 A : hs_A} (hA : hJ 0 N (N + 72) A0 A) (hN : N ≤ 900000) (a1 : Int32) {H : Int} (hH : (A.2.1 376 (A.1 367 18).toNatClampNeg).toInt = H) : hxC (d + 3) 192 hm_m192 [.ref 368, .int a1] A (fun r A' => hJ 0 (N + 72) (N + 144) A0 A' ∧ ∃ z : Int32, r = some (.int z) ∧ ((z.toInt = 1 ∧ 0 ≤ a1.toInt ∧ a1.toInt ≤ 255 ∧ ¬ H = 0) ∨ (z.toInt = 0 ∧ (a1.toInt < 0 ∨ 255 < a1.toInt ∨ H = 0)))) := hxC.of (by rfl) (hY192f hA hN a1 hH (fun r A' h => h))
theorem hY86f {d : Nat} {Bn Br : Int} {A0 A : hs_A} (hA : hJ 0 Bn Br A0 A)  (a1 : Int32) (a2 : Int32) {H : Int} (hH : ∀ T, hTT T → A.2.2.2 0 3 = T + 1 → (A.1 T 4).toInt = H) {P : Option Value → hs_A → Prop} (hP : ∀ (r : Option Value) (A' : hs_A), (hJ 0 Bn Br A0 A' ∧ ∃ z : Int32, r = some (.int z) ∧ ((z.toInt = 1 ∧ 0 ≤ a1.toInt ∧ a1.toInt < H ∧ 0 ≤ a2.toInt ∧ a2.toInt < H ∧ ¬ a1.toInt = a2.toInt) ∨ (z.toInt = 0 ∧ (a1.toInt < 0 ∨ H ≤ a1.toInt ∨ a2.toInt < 0 ∨ H ≤ a2.toInt ∨ a1.toInt = a2.toInt)))) → P r A') : hxa (d + 3) (some (.boolean)) hm_t86 0 [.ref 1, .int a1, .int a2] [] A P := by
  have k0 := hk_0
  have k1 := hk_1
  refine hxa_aload_n (by rfl) rfl ?_
  refine hxa_iload_n (by rfl) rfl ?_
  refine hxa_call0 (by rfl) (by rfl) (by rfl) (by rfl) (by rfl) (by rfl) (hX76f (d := d + 2) hA a1 hH) ?_
  rintro _ _ ⟨rfl, z1, rfl, fz1⟩
  rcases fz1 with fz1 | fz1
  ·
    refine hxj_zeq (by rfl) rfl (fun q2 => False.elim (by omega)) (fun q2 => ?_)
    refine hxa_aload_n (by rfl) rfl ?_
    refine hxa_iload_n (by rfl) rfl ?_
    refine hxa_call0 (by rfl) (by rfl) (by rfl) (by rfl) (by rfl) (by rfl) (hX76f (d := d + 2) hA a2 hH) ?_
    rintro _ _ ⟨rfl, z3, rfl, fz3⟩
    rcases fz3 with fz3 | fz3
    ·
      refine hxj_zeq (by rfl) rfl (fun q4 => False.elim (by omega)) (fun q4 => ?_)
      refine hxa_iload_n (by rfl) rfl ?_
      refine hxa_iload_n (by rfl) rfl ?_
      refine hxj_cne (by rfl) rfl rfl (fun q5 => ?_) (fun q5 => ?_)
      ·
        refine hxa_aload_n (by rfl) rfl ?_
        refine hxa_call0 (by rfl) (by rfl) (by rfl) (by rfl) (by rfl) (by rfl) (hX82 (d := d + 0) hA ) ?_
        rintro _ A6 ⟨hA6, rfl⟩
        refine hxa_aload_n (by rfl) rfl ?_
        refine hxa_get (v := .ref 27) (by rfl) (by rfl) (by rfl) rfl ?_
        refine hxa_iload_n (by rfl) rfl ?_
        refine hxa_iload_n (by rfl) rfl ?_
        refine hxa_call0 (by rfl) (by rfl) (by rfl) (by rfl) (by rfl) (by rfl) (hX24 (d := d + 1) hA6 hL26 a1 (by omega) (by omega) a2 (by omega) (by omega)) ?_
        rintro _ A7 ⟨hA7, rfl⟩
        refine hxa_iconst (by rfl) rfl ?_
        exact hxa_ireturn (by rfl) (by rfl) (hP _ _ ⟨hA7, _, rfl, by omega⟩)
      ·
        refine hxa_iconst (by rfl) rfl ?_
        exact hxa_ireturn (by rfl) (by rfl) (hP _ _ ⟨hA, _, rfl, by omega⟩)
    ·
      refine hxj_zeq (by rfl) rfl (fun q8 => ?_) (fun q8 => False.elim (by omega))
      refine hxa_iconst (by rfl) rfl ?_
      exact hxa_ireturn (by rfl) (by rfl) (hP _ _ ⟨hA, _, rfl, by omega⟩)
  ·
    refine hxj_zeq (by rfl) rfl (fun q9 => ?_) (fun q9 => False.elim (by omega))
    refine hxa_iconst (by rfl) rfl ?_
    exact hxa_ireturn (by rfl) (by rfl) (hP _ _ ⟨hA, _, rfl, by omega⟩)
theorem hX86f {d : Nat} {Bn Br : Int} {A0 A : hs_A} (hA : hJ 0 Bn Br A0 A)  (a1 : Int32) (a2 : Int32) {H : Int} (hH : ∀ T, hTT T → A.2.2.2 0 3 = T + 1 → (A.1 T 4).toInt = H) : hxC (d + 4) 86 hm_m86 [.ref 1, .int a1, .int a2] A (fun r A' => hJ 0 Bn Br A0 A' ∧ ∃ z : Int32, r = some (.int z) ∧ ((z.toInt = 1 ∧ 0 ≤ a1.toInt ∧ a1.toInt < H ∧ 0 ≤ a2.toInt ∧ a2.toInt < H ∧ ¬ a1.toInt = a2.toInt) ∨ (z.toInt = 0 ∧ (a1.toInt < 0 ∨ H ≤ a1.toInt ∨ a2.toInt < 0 ∨ H ≤ a2.toInt ∨ a1.toInt = a2.toInt)))) := hxC.of (by rfl) (hY86f hA a1 a2 hH (fun r A' h => h))
theorem hY195f {d : Nat} {N : Int} {A0 A : hs_A} (hA : hJ 0 N (N + 72) A0 A) (hN : N ≤ 900000) (a1 : Int32) (a2 : Int32) {H : Int} (hH : (A.2.1 376 (A.1 367 18).toNatClampNeg).toInt = H) {P : Option Value → hs_A → Prop} (hP : ∀ (r : Option Value) (A' : hs_A), (hJ 0 (N + 72) (N + 144) A0 A' ∧ ∃ z : Int32, r = some (.int z) ∧ ((z.toInt = 1 ∧ 0 ≤ a1.toInt ∧ a1.toInt < H ∧ 0 ≤ a2.toInt ∧ a2.toInt < H ∧ ¬ a1.toInt = a2.toInt) ∨ (z.toInt = 0 ∧ (a1.toInt < 0 ∨ H ≤ a1.toInt ∨ a2.toInt < 0 ∨ H ≤ a2.toInt ∨ a1.toInt = a2.toInt)))) → P r A') : hxa (d + 2) (some (.boolean)) hm_t195 0 [.ref 368, .int a1, .int a2] [] A P := by
  have k0 := hk_0
  have k1 := hk_1
  refine hxa_aload_n (by rfl) rfl ?_
  refine hxa_iload_n (by rfl) rfl ?_
  refine hxa_call0 (by rfl) (by rfl) (by rfl) (by rfl) (by rfl) (by rfl) (hX167f (d := d + 0) hA a1 hH) ?_
  rintro _ _ ⟨rfl, z1, rfl, fz1⟩
  rcases fz1 with fz1 | fz1
  ·
    refine hxj_zeq (by rfl) rfl (fun q2 => False.elim (by omega)) (fun q2 => ?_)
    refine hxa_aload_n (by rfl) rfl ?_
    refine hxa_iload_n (by rfl) rfl ?_
    refine hxa_call0 (by rfl) (by rfl) (by rfl) (by rfl) (by rfl) (by rfl) (hX167f (d := d + 0) hA a2 hH) ?_
    rintro _ _ ⟨rfl, z3, rfl, fz3⟩
    rcases fz3 with fz3 | fz3
    ·
      refine hxj_zeq (by rfl) rfl (fun q4 => False.elim (by omega)) (fun q4 => ?_)
      refine hxa_iload_n (by rfl) rfl ?_
      refine hxa_iload_n (by rfl) rfl ?_
      refine hxj_cne (by rfl) rfl rfl (fun q5 => ?_) (fun q5 => ?_)
      ·
        refine hxa_aload_n (by rfl) rfl ?_
        refine hxa_call0 (by rfl) (by rfl) (by rfl) (by rfl) (by rfl) (by rfl) (hX171 (d := d + 1) hA ) ?_
        rintro _ A6 ⟨hA6, rfl⟩
        refine hxa_aload_n (by rfl) rfl ?_
        refine hxa_iload_n (by rfl) rfl ?_
        refine hxa_iload_n (by rfl) rfl ?_
        refine hxa_call0 (by rfl) (by rfl) (by rfl) (by rfl) (by rfl) (by rfl) (hX194 (d := d + 1) hA6 a1 (by omega) (by omega) a2 (by omega) (by omega)) ?_
        rintro _ A7 ⟨hA7, rfl⟩
        refine hxa_aload_n (by rfl) rfl ?_
        refine hxa_call0 (by rfl) (by rfl) (by rfl) (by rfl) (by rfl) (by rfl) (hX190 (d := d + 0) hA7 (by omega)) ?_
        rintro _ A8 ⟨hA8, rfl⟩
        refine hxa_iconst (by rfl) rfl ?_
        exact hxa_ireturn (by rfl) (by rfl) (hP _ _ ⟨(hJ.mono hA8 (by omega) (by omega)), _, rfl, by omega⟩)
      ·
        refine hxa_iconst (by rfl) rfl ?_
        exact hxa_ireturn (by rfl) (by rfl) (hP _ _ ⟨(hJ.mono hA (by omega) (by omega)), _, rfl, by omega⟩)
    ·
      refine hxj_zeq (by rfl) rfl (fun q9 => ?_) (fun q9 => False.elim (by omega))
      refine hxa_iconst (by rfl) rfl ?_
      exact hxa_ireturn (by rfl) (by rfl) (hP _ _ ⟨(hJ.mono hA (by omega) (by omega)), _, rfl, by omega⟩)
  ·
    refine hxj_zeq (by rfl) rfl (fun q10 => ?_) (fun q10 => False.elim (by omega))
    refine hxa_iconst (by rfl) rfl ?_
    exact hxa_ireturn (by rfl) (by rfl) (hP _ _ ⟨(hJ.mono hA (by omega) (by omega)), _, rfl, by omega⟩)
theorem hX195f {d : Nat} {N : Int} {A0 A : hs_A} (hA : hJ 0 N (N + 72) A0 A) (hN : N ≤ 900000) (a1 : Int32) (a2 : Int32) {H : Int} (hH : (A.2.1 376 (A.1 367 18).toNatClampNeg).toInt = H) : hxC (d + 3) 195 hm_m195 [.ref 368, .int a1, .int a2] A (fun r A' => hJ 0 (N + 72) (N + 144) A0 A' ∧ ∃ z : Int32, r = some (.int z) ∧ ((z.toInt = 1 ∧ 0 ≤ a1.toInt ∧ a1.toInt < H ∧ 0 ≤ a2.toInt ∧ a2.toInt < H ∧ ¬ a1.toInt = a2.toInt) ∨ (z.toInt = 0 ∧ (a1.toInt < 0 ∨ H ≤ a1.toInt ∨ a2.toInt < 0 ∨ H ≤ a2.toInt ∨ a1.toInt = a2.toInt)))) := hxC.of (by rfl) (hY195f hA hN a1 a2 hH (fun r A' h => h))
theorem hY65f {d : Nat} {Bn Br : Int} {A0 A : hs_A} (hA : hJ 0 Bn Br A0 A)  (a1 : Int32) (p1 : 0 ≤ a1.toInt) (q1 : a1.toInt ≤ 9) (a2 : Int32)  {P : Option Value → hs_A → Prop} (hP : ∀ (r : Option Value) (A' : hs_A), (hJ 0 Bn Br A0 A' ∧ ∃ z : Int32, r = some (.int z) ∧ ((z.toInt = -1 ∧ (20 ≤ (A.1 340 2).toInt) ∧ A'.1 340 2 = A.1 340 2) ∨ (z.toInt = (A.1 340 2).toInt ∧ ((A.1 340 2).toInt < 20) ∧ (A'.1 340 2).toInt = (A.1 340 2).toInt + 1))) → P r A') : hxa (d + 0) (some (.int)) hm_t65 0 [.ref 341, .int a1, .int a2] [] A P := by
  have k4294967295 := hk_4294967295
  refine hxa_aload_n (by rfl) rfl ?_
  refine hxj_getB (by rfl) (by rfl) (by rfl) hA (by rfl) (fun z1 ez1 fz1 gz1 => ?_)
  refine hxa_bipush (by rfl) rfl ?_
  refine hxj_clt (by rfl) rfl hk_20 (fun q2 => ?_) (fun q2 => ?_)
  ·
    refine hxa_aload_n (by rfl) rfl ?_
    refine hxa_get (v := .ref 342) (by rfl) (by rfl) (by rfl) rfl ?_
    refine hxa_aload_n (by rfl) rfl ?_
    refine hxj_getK (by rfl) (by rfl) (by rfl) ez1 ?_
    refine hxa_iload_n (by rfl) rfl ?_
    refine hxj_iast (by rfl) (by rfl) rfl (by omega) (by omega) hA (hbok (by rfl) rfl (by omega) (by omega)) (by rfl) (by rfl) (fun A3 hA3 eA3 fA3 gA3 => ?_)
    refine hxa_aload_n (by rfl) rfl ?_
    refine hxa_get (v := .ref 343) (by rfl) (by rfl) (by rfl) rfl ?_
    refine hxa_aload_n (by rfl) rfl ?_
    refine hxj_getK (by rfl) (by rfl) (by rfl) (hkA eA3 ez1) ?_
    refine hxa_iload_n (by rfl) rfl ?_
    refine hxj_iast (by rfl) (by rfl) rfl (by omega) (by omega) hA3 (hbokN (by rfl)) (by rfl) (by rfl) (fun A4 hA4 eA4 fA4 gA4 => ?_)
    refine hxa_aload_n (by rfl) rfl ?_
    refine hxa_dupR (by rfl) ?_
    refine hxj_getK (by rfl) (by rfl) (by rfl) (hkA eA4 (hkA eA3 ez1)) ?_
    refine hxa_iconst (by rfl) rfl ?_
    refine hxj_iadd (by rfl) rfl hk_1 (by omega) (by omega) (fun z5 ez5 => ?_)
    refine hxj_putI (by rfl) (by rfl) (by rfl) (by rfl) hA4 (hbok (by rfl) rfl (by omega) (by omega)) (by rfl) (by rfl) (fun A6 hA6 eA6 fA6 => ?_)
    refine hxa_aload_n (by rfl) rfl ?_
    refine hxj_getK (by rfl) (by rfl) (by rfl) (hkS eA6) ?_
    refine hxa_iconst (by rfl) rfl ?_
    refine hxj_isub (by rfl) rfl hk_1 (by omega) (by omega) (fun z7 ez7 => ?_)
    exact hxa_ireturn (by rfl) rfl (hP _ _ ⟨hA6, _, rfl, Or.inr ⟨by rw [ez1]; omega, by rw [ez1]; omega, by rw [eA6, hup1, ez1]; omega⟩⟩)
  ·
    refine hxa_iconst (by rfl) rfl ?_
    exact hxa_ireturn (by rfl) rfl (hP _ _ ⟨hA, _, rfl, Or.inl ⟨hk_4294967295, by rw [ez1]; omega, rfl⟩⟩)
theorem hX65f {d : Nat} {Bn Br : Int} {A0 A : hs_A} (hA : hJ 0 Bn Br A0 A)  (a1 : Int32) (p1 : 0 ≤ a1.toInt) (q1 : a1.toInt ≤ 9) (a2 : Int32)  : hxC (d + 1) 65 hm_m65 [.ref 341, .int a1, .int a2] A (fun r A' => hJ 0 Bn Br A0 A' ∧ ∃ z : Int32, r = some (.int z) ∧ ((z.toInt = -1 ∧ (20 ≤ (A.1 340 2).toInt) ∧ A'.1 340 2 = A.1 340 2) ∨ (z.toInt = (A.1 340 2).toInt ∧ ((A.1 340 2).toInt < 20) ∧ (A'.1 340 2).toInt = (A.1 340 2).toInt + 1))) := hxC.of (by rfl) (hY65f hA a1 p1 q1 a2  (fun r A' h => h))
theorem hY122f {d : Nat} {Bn Br : Int} {A0 A : hs_A} (hA : hJ 0 Bn Br A0 A)  (a1 : Int32) (a2 : Int32) {H : Int} (hH : ∀ T, hTT T → A.2.2.2 0 3 = T + 1 → (A.1 T 4).toInt = H) {P : Option Value → hs_A → Prop} (hP : ∀ (r : Option Value) (A' : hs_A), (hJ 0 Bn Br A0 A' ∧ ∃ z : Int32, r = some (.int z) ∧ ((z.toInt = -1 ∧ (a1.toInt < 0 ∨ H ≤ a1.toInt ∨ a2.toInt < 0 ∨ 255 < a2.toInt ∨ 20 ≤ (A.1 340 2).toInt) ∧ A'.1 340 2 = A.1 340 2) ∨ (z.toInt = (A.1 340 2).toInt ∧ (0 ≤ a1.toInt ∧ a1.toInt < H ∧ 0 ≤ a2.toInt ∧ a2.toInt ≤ 255 ∧ (A.1 340 2).toInt < 20) ∧ (A'.1 340 2).toInt = (A.1 340 2).toInt + 1))) → P r A') : hxa (d + 1) (some (.int)) hm_t122 0 [.ref 1, .int a1, .int a2] [] A P := by
  have k4294967295 := hk_4294967295
  refine hxa_aload_n (by rfl) rfl ?_
  refine hxa_iload_n (by rfl) rfl ?_
  refine hxa_call0 (by rfl) (by rfl) (by rfl) (by rfl) (by rfl) (by rfl) (hX76f (d := d + 0) hA a1 hH) ?_
  rintro _ _ ⟨rfl, z1, rfl, fz1⟩
  rcases fz1 with fz1 | fz1
  ·
    refine hxj_zeq (by rfl) rfl (fun q2 => False.elim (by omega)) (fun q2 => ?_)
    refine hxa_iload_n (by rfl) rfl ?_
    refine hxa_call2 (by rfl) (by decide) (by rfl) (by rfl) (by rfl) (hX77f (d := d + 0)  a2) ?_
    rintro _ _ ⟨rfl, z3, rfl, fz3⟩
    rcases fz3 with fz3 | fz3
    ·
      refine hxj_zne (by rfl) rfl (fun q4 => ?_) (fun q4 => False.elim (by omega))
      refine hxa_aload_n (by rfl) rfl ?_
      refine hxa_get (v := .ref 341) (by rfl) (by rfl) (by rfl) rfl ?_
      refine hxa_iload_n (by rfl) rfl ?_
      refine hxa_iload_n (by rfl) rfl ?_
      refine hxa_call0 (by rfl) (by rfl) (by rfl) (by rfl) (by rfl) (by rfl) (hX65f (d := d + 0) hA a1 (by omega) (by omega) a2) ?_
      rintro _ A5 ⟨hA5, z6, rfl, f6⟩
      exact hxa_ireturn (by rfl) rfl (hP _ _ ⟨hA5, _, rfl, by rcases f6 with ⟨u1, u2, u3⟩ | ⟨u1, u2, u3⟩; exact Or.inl ⟨u1, by omega, u3⟩; exact Or.inr ⟨u1, by omega, u3⟩⟩)
    ·
      refine hxj_zne (by rfl) rfl (fun q7 => False.elim (by omega)) (fun q7 => ?_)
      refine hxa_iconst (by rfl) rfl ?_
      exact hxa_ireturn (by rfl) rfl (hP _ _ ⟨hA, _, rfl, Or.inl ⟨hk_4294967295, by omega, rfl⟩⟩)
  ·
    refine hxj_zeq (by rfl) rfl (fun q8 => ?_) (fun q8 => False.elim (by omega))
    refine hxa_iconst (by rfl) rfl ?_
    exact hxa_ireturn (by rfl) rfl (hP _ _ ⟨hA, _, rfl, Or.inl ⟨hk_4294967295, by omega, rfl⟩⟩)
theorem hX122f {d : Nat} {Bn Br : Int} {A0 A : hs_A} (hA : hJ 0 Bn Br A0 A)  (a1 : Int32) (a2 : Int32) {H : Int} (hH : ∀ T, hTT T → A.2.2.2 0 3 = T + 1 → (A.1 T 4).toInt = H) : hxC (d + 2) 122 hm_m122 [.ref 1, .int a1, .int a2] A (fun r A' => hJ 0 Bn Br A0 A' ∧ ∃ z : Int32, r = some (.int z) ∧ ((z.toInt = -1 ∧ (a1.toInt < 0 ∨ H ≤ a1.toInt ∨ a2.toInt < 0 ∨ 255 < a2.toInt ∨ 20 ≤ (A.1 340 2).toInt) ∧ A'.1 340 2 = A.1 340 2) ∨ (z.toInt = (A.1 340 2).toInt ∧ (0 ≤ a1.toInt ∧ a1.toInt < H ∧ 0 ≤ a2.toInt ∧ a2.toInt ≤ 255 ∧ (A.1 340 2).toInt < 20) ∧ (A'.1 340 2).toInt = (A.1 340 2).toInt + 1))) := hxC.of (by rfl) (hY122f hA a1 a2 hH (fun r A' h => h))
theorem hY232f {d : Nat} {N : Int} {A0 A : hs_A} (hA : hJ 0 N (N + 72) A0 A) (hN : N ≤ 900000) (a1 : Int32) (a2 : Int32) {H : Int} (hH : (A.2.1 376 (A.1 367 18).toNatClampNeg).toInt = H) {P : Option Value → hs_A → Prop} (hP : ∀ (r : Option Value) (A' : hs_A), (hJ 0 (N + 72) (N + 144) A0 A' ∧ ∃ z : Int32, r = some (.int z) ∧ ((z.toInt = -1 ∧ (a1.toInt < 0 ∨ H ≤ a1.toInt ∨ a2.toInt < 0 ∨ 255 < a2.toInt ∨ 20 ≤ (A.1 367 59).toInt) ∧ A'.1 367 59 = A.1 367 59) ∨ (z.toInt = (A.1 367 59).toInt ∧ (0 ≤ a1.toInt ∧ a1.toInt < H ∧ 0 ≤ a2.toInt ∧ a2.toInt ≤ 255 ∧ (A.1 367 59).toInt < 20) ∧ (A'.1 367 59).toInt = (A.1 367 59).toInt + 1))) → P r A') : hxa (d + 2) (some (.int)) hm_t232 0 [.ref 368, .int a1, .int a2] [] A P := by
  have k4294967295 := hk_4294967295
  refine hxa_aload_n (by rfl) rfl ?_
  refine hxj_getB (by rfl) (by rfl) (by rfl) hA (by rfl) (fun z1 ez1 fz1 gz1 => ?_)
  refine hxa_bipush (by rfl) rfl ?_
  refine hxj_ceq (by rfl) rfl hk_20 (fun q2 => ?_) (fun q2 => ?_)
  ·
    refine hxa_iconst (by rfl) rfl ?_
    exact hxa_ireturn (by rfl) rfl (hP _ _ ⟨(hJ.mono hA (by omega) (by omega)), _, rfl, Or.inl ⟨hk_4294967295, by rw [ez1]; omega, rfl⟩⟩)
  ·
    refine hxa_aload_n (by rfl) rfl ?_
    refine hxa_iload_n (by rfl) rfl ?_
    refine hxa_call0 (by rfl) (by rfl) (by rfl) (by rfl) (by rfl) (by rfl) (hX167f (d := d + 0) hA a1 hH) ?_
    rintro _ _ ⟨rfl, z3, rfl, fz3⟩
    rcases fz3 with fz3 | fz3
    ·
      refine hxj_zeq (by rfl) rfl (fun q4 => False.elim (by omega)) (fun q4 => ?_)
      refine hxa_iload_n (by rfl) rfl ?_
      refine hxa_call2 (by rfl) (by decide) (by rfl) (by rfl) (by rfl) (hX168f (d := d + 0)  a2) ?_
      rintro _ _ ⟨rfl, z5, rfl, fz5⟩
      rcases fz5 with fz5 | fz5
      ·
        refine hxj_zne (by rfl) rfl (fun q6 => ?_) (fun q6 => False.elim (by omega))
        refine hxa_aload_n (by rfl) rfl ?_
        refine hxa_get (v := .ref 407) (by rfl) (by rfl) (by rfl) rfl ?_
        refine hxa_aload_n (by rfl) rfl ?_
        refine hxj_getK (by rfl) (by rfl) (by rfl) ez1 ?_
        refine hxa_iload_n (by rfl) rfl ?_
        refine hxj_iast (by rfl) (by rfl) rfl (by omega) (by omega) hA (hbok (by rfl) rfl (by omega) (by omega)) (by rfl) (by rfl) (fun A7 hA7 eA7 fA7 gA7 => ?_)
        refine hxa_aload_n (by rfl) rfl ?_
        refine hxa_get (v := .ref 408) (by rfl) (by rfl) (by rfl) rfl ?_
        refine hxa_aload_n (by rfl) rfl ?_
        refine hxj_getK (by rfl) (by rfl) (by rfl) (hkA eA7 ez1) ?_
        refine hxa_iload_n (by rfl) rfl ?_
        refine hxj_iast (by rfl) (by rfl) rfl (by omega) (by omega) hA7 (hbokN (by rfl)) (by rfl) (by rfl) (fun A8 hA8 eA8 fA8 gA8 => ?_)
        refine hxa_aload_n (by rfl) rfl ?_
        refine hxa_dupR (by rfl) ?_
        refine hxj_getK (by rfl) (by rfl) (by rfl) (hkA eA8 (hkA eA7 ez1)) ?_
        refine hxa_iconst (by rfl) rfl ?_
        refine hxj_iadd (by rfl) rfl hk_1 (by omega) (by omega) (fun z9 ez9 => ?_)
        refine hxj_putI (by rfl) (by rfl) (by rfl) (by rfl) hA8 (hbok (by rfl) rfl (by omega) (by omega)) (by rfl) (by rfl) (fun A10 hA10 eA10 fA10 => ?_)
        refine hxa_aload_n (by rfl) rfl ?_
        refine hxj_getK (by rfl) (by rfl) (by rfl) (hkS eA10) ?_
        refine hxa_iconst (by rfl) rfl ?_
        refine hxj_isub (by rfl) rfl hk_1 (by omega) (by omega) (fun z11 ez11 => ?_)
        exact hxa_ireturn (by rfl) rfl (hP _ _ ⟨(hJ.mono hA10 (by omega) (by omega)), _, rfl, Or.inr ⟨by rw [ez1]; omega, by rw [ez1]; omega, by rw [eA10, hup1, ez1]; omega⟩⟩)
      ·
        refine hxj_zne (by rfl) rfl (fun q12 => False.elim (by omega)) (fun q12 => ?_)
        refine hxa_iconst (by rfl) rfl ?_
        exact hxa_ireturn (by rfl) rfl (hP _ _ ⟨(hJ.mono hA (by omega) (by omega)), _, rfl, Or.inl ⟨hk_4294967295, by omega, rfl⟩⟩)
    ·
      refine hxj_zeq (by rfl) rfl (fun q13 => ?_) (fun q13 => False.elim (by omega))
      refine hxa_iconst (by rfl) rfl ?_
      exact hxa_ireturn (by rfl) rfl (hP _ _ ⟨(hJ.mono hA (by omega) (by omega)), _, rfl, Or.inl ⟨hk_4294967295, by omega, rfl⟩⟩)
theorem hX232f {d : Nat} {N : Int} {A0 A : hs_A} (hA : hJ 0 N (N + 72) A0 A) (hN : N ≤ 900000) (a1 : Int32) (a2 : Int32) {H : Int} (hH : (A.2.1 376 (A.1 367 18).toNatClampNeg).toInt = H) : hxC (d + 3) 232 hm_m232 [.ref 368, .int a1, .int a2] A (fun r A' => hJ 0 (N + 72) (N + 144) A0 A' ∧ ∃ z : Int32, r = some (.int z) ∧ ((z.toInt = -1 ∧ (a1.toInt < 0 ∨ H ≤ a1.toInt ∨ a2.toInt < 0 ∨ 255 < a2.toInt ∨ 20 ≤ (A.1 367 59).toInt) ∧ A'.1 367 59 = A.1 367 59) ∨ (z.toInt = (A.1 367 59).toInt ∧ (0 ≤ a1.toInt ∧ a1.toInt < H ∧ 0 ≤ a2.toInt ∧ a2.toInt ≤ 255 ∧ (A.1 367 59).toInt < 20) ∧ (A'.1 367 59).toInt = (A.1 367 59).toInt + 1))) := hxC.of (by rfl) (hY232f hA hN a1 a2 hH (fun r A' h => h))
theorem hY123f {d : Nat} {Bn Br : Int} {A0 A : hs_A} (hA : hJ 0 Bn Br A0 A)    {P : Option Value → hs_A → Prop} (hP : ∀ (r : Option Value) (A' : hs_A), (hJ 0 Bn Br A0 A' ∧ ∃ z : Int32, r = some (.int z) ∧ (z = A.1 340 2 ∧ A'.1 340 2 = Int32.ofNat 0)) → P r A') : hxa (d + 0) (some (.int)) hm_t123 0 [.ref 1, .retAddr 0] [] A P := by
  refine hxa_aload_n (by rfl) rfl ?_
  refine hxa_get (v := .ref 341) (by rfl) (by rfl) (by rfl) rfl ?_
  refine hxj_getB (by rfl) (by rfl) (by rfl) hA (by rfl) (fun z1 ez1 fz1 gz1 => ?_)
  refine hxa_s1 (by rfl) (Or.inl ⟨_, rfl, rfl⟩) rfl ?_
  refine hxa_aload_n (by rfl) rfl ?_
  refine hxa_get (v := .ref 341) (by rfl) (by rfl) (by rfl) rfl ?_
  refine hxa_iconst (by rfl) rfl ?_
  refine hxj_putI (by rfl) (by rfl) (by rfl) (by rfl) hA (hbok (by rfl) hk_0 (by omega) (by omega)) (by rfl) (by rfl) (fun A2 hA2 eA2 fA2 => ?_)
  refine hxa_iload_n (by rfl) rfl ?_
  exact hxa_ireturn (by rfl) rfl (hP _ _ ⟨hA2, _, rfl, ⟨ez1.symm, by rw [eA2, hup1]⟩⟩)
theorem hX123f {d : Nat} {Bn Br : Int} {A0 A : hs_A} (hA : hJ 0 Bn Br A0 A)    : hxC (d + 1) 123 hm_m123 [.ref 1] A (fun r A' => hJ 0 Bn Br A0 A' ∧ ∃ z : Int32, r = some (.int z) ∧ (z = A.1 340 2 ∧ A'.1 340 2 = Int32.ofNat 0)) := hxC.of (by rfl) (hY123f hA   (fun r A' h => h))
theorem hY233f {d : Nat} {N : Int} {A0 A : hs_A} (hA : hJ 0 N (N + 72) A0 A) (hN : N ≤ 900000)   {P : Option Value → hs_A → Prop} (hP : ∀ (r : Option Value) (A' : hs_A), (hJ 0 (N + 72) (N + 144) A0 A' ∧ ∃ z : Int32, r = some (.int z) ∧ (z = A.1 367 59 ∧ A'.1 367 59 = Int32.ofNat 0)) → P r A') : hxa (d + 0) (some (.int)) hm_t233 0 [.ref 368, .retAddr 0] [] A P := by
  refine hxa_aload_n (by rfl) rfl ?_
  refine hxj_getB (by rfl) (by rfl) (by rfl) hA (by rfl) (fun z1 ez1 fz1 gz1 => ?_)
  refine hxa_s1 (by rfl) (Or.inl ⟨_, rfl, rfl⟩) rfl ?_
  refine hxa_aload_n (by rfl) rfl ?_
  refine hxa_iconst (by rfl) rfl ?_
  refine hxj_putI (by rfl) (by rfl) (by rfl) (by rfl) hA (hbok (by rfl) hk_0 (by omega) (by omega)) (by rfl) (by rfl) (fun A2 hA2 eA2 fA2 => ?_)
  refine hxa_iload_n (by rfl) rfl ?_
  exact hxa_ireturn (by rfl) rfl (hP _ _ ⟨(hJ.mono hA2 (by omega) (by omega)), _, rfl, ⟨ez1.symm, by rw [eA2, hup1]⟩⟩)
theorem hX233f {d : Nat} {N : Int} {A0 A : hs_A} (hA : hJ 0 N (N + 72) A0 A) (hN : N ≤ 900000)   : hxC (d + 1) 233 hm_m233 [.ref 368] A (fun r A' => hJ 0 (N + 72) (N + 144) A0 A' ∧ ∃ z : Int32, r = some (.int z) ∧ (z = A.1 367 59 ∧ A'.1 367 59 = Int32.ofNat 0)) := hxC.of (by rfl) (hY233f hA hN  (fun r A' h => h))
