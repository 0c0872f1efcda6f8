/-! A LIFE COPIED -/
section HXF
variable {d : Nat} {ret : Option FieldType} {tb : hc_K} {pc len r1 r2 : Nat} {l st : List Value} {A0 A : hs_A} {P : Option Value → hs_A → Prop} {Q : Nat} {Bn Br : Int}
theorem hxj_copyE {z i0 i1 m : Nat} {w : Int32} (hI : hc_get tb pc = some (.invokestatic z, len, r1, 8)) (hs0 : hc_get hs_sh i0 = some (0, 1, [m])) (hs1 : hc_get hs_sh i1 = some (0, 1, [m])) (hw : w.toInt = (m : Int)) (hcat : Nat.ble (hc_cat st) 8 = true) (hA : hJ Q Bn Br A0 A) (hx : ∀ v, hb_ok (hb_a i0) v → hb_ok (hb_a i1) v) (hr : hr_a Q i1 = true) (hn : hq Q i1 = true) (k : ∀ A' : hs_A, hJ Q Bn Br A0 A' → A'.1 = A.1 → A'.2.1 = hs_cpy A.2.1 i0 i1 → A'.2.2 = A.2.2 → hxa d ret tb (pc + 3) l st A' P) {e0 e1 : Int32} (q0 : e0 = 0) (q1 : e1 = 0) : hxa d ret tb pc l (.int w :: .int e1 :: .ref (i1 + 1) :: .int e0 :: .ref (i0 + 1) :: st) A P := by
  subst q0
  subst q1
  exact hxa_copy hI hs0 hs1 (by rw [Int32.lt_iff_toInt_lt]; have : (0 : Int32).toInt = 0 := by decide
                                omega) (by show w.toInt.toNat = m; omega) hcat (k _ (hA.cpy hx hr hn) rfl rfl rfl)
theorem hxj_ixorE {x y : Int32} (hI : hc_get tb pc = some (.ixor, len, r1, r2)) (k : ∀ z : Int32, z = x ^^^ y → hxa d ret tb (pc + 1) l (.int z :: st) A P) : hxa d ret tb pc l (.int y :: .int x :: st) A P := hxa_ixor hI (k _ rfl)
end HXF
def hCp (L M : Nat) (A A' : hs_A) : Prop := (∀ k, 6 ≤ k → k ≤ 10 → A'.1 L k = A.1 M k) ∧ (∀ j, 1 ≤ j → j ≤ 6 → ∀ x, A'.2.1 (L + j) x = A.2.1 (M + j) x) ∧ (∀ i k, ¬ i = L → A'.1 i k = A.1 i k) ∧ (∀ i, (i ≤ L ∨ L + 7 ≤ i) → ∀ x, A'.2.1 i x = A.2.1 i x) ∧ A'.2.2 = A.2.2
theorem hcp1 {f : Nat → Nat → Int32} {i0 i1 b : Nat} : hs_cpy f i0 i1 i1 b = f i0 b := by unfold hs_cpy; rw [if_pos rfl]
theorem hcp2 {f : Nat → Nat → Int32} {i0 i1 a b : Nat} (h : ¬ a = i1) : hs_cpy f i0 i1 a b = f a b := by unfold hs_cpy; rw [if_neg h]
theorem hCp_mk {L M : Nat} (hne : M + 7 ≤ L ∨ L + 7 ≤ M) {A A2 A4 A6 A8 A10 A11 A12 A13 A14 A15 A16 : hs_A} {z1 z3 z5 z7 z9 : Int32} (ez1 : A.1 M 6 = z1) (eA2 : A2.1 = hs_up A.1 L 6 z1) (fA2 : A2.2 = A.2) (ez3 : A2.1 M 7 = z3) (eA4 : A4.1 = hs_up A2.1 L 7 z3) (fA4 : A4.2 = A2.2) (ez5 : A4.1 M 8 = z5) (eA6 : A6.1 = hs_up A4.1 L 8 z5) (fA6 : A6.2 = A4.2) (ez7 : A6.1 M 9 = z7) (eA8 : A8.1 = hs_up A6.1 L 9 z7) (fA8 : A8.2 = A6.2) (ez9 : A8.1 M 10 = z9) (eA10 : A10.1 = hs_up A8.1 L 10 z9) (fA10 : A10.2 = A8.2) (eA11 : A11.1 = A10.1) (fA11 : A11.2.1 = hs_cpy A10.2.1 (M + 1) (L + 1)) (gA11 : A11.2.2 = A10.2.2) (eA12 : A12.1 = A11.1) (fA12 : A12.2.1 = hs_cpy A11.2.1 (M + 2) (L + 2)) (gA12 : A12.2.2 = A11.2.2) (eA13 : A13.1 = A12.1) (fA13 : A13.2.1 = hs_cpy A12.2.1 (M + 3) (L + 3)) (gA13 : A13.2.2 = A12.2.2) (eA14 : A14.1 = A13.1) (fA14 : A14.2.1 = hs_cpy A13.2.1 (M + 4) (L + 4)) (gA14 : A14.2.2 = A13.2.2) (eA15 : A15.1 = A14.1) (fA15 : A15.2.1 = hs_cpy A14.2.1 (M + 5) (L + 5)) (gA15 : A15.2.2 = A14.2.2) (eA16 : A16.1 = A15.1) (fA16 : A16.2.1 = hs_cpy A15.2.1 (M + 6) (L + 6)) (gA16 : A16.2.2 = A15.2.2) : hCp L M A A16 := by
  have hML : ¬ M = L := by omega
  have mA2 : ∀ k, A2.1 M k = A.1 M k := fun k => by rw [eA2, hup2 (fun q => hML q.1)]
  have mA4 : ∀ k, A4.1 M k = A.1 M k := fun k => by rw [eA4, hup2 (fun q => hML q.1)]; exact mA2 k
  have mA6 : ∀ k, A6.1 M k = A.1 M k := fun k => by rw [eA6, hup2 (fun q => hML q.1)]; exact mA4 k
  have mA8 : ∀ k, A8.1 M k = A.1 M k := fun k => by rw [eA8, hup2 (fun q => hML q.1)]; exact mA6 k
  have mA10 : ∀ k, A10.1 M k = A.1 M k := fun k => by rw [eA10, hup2 (fun q => hML q.1)]; exact mA8 k
  have o10 : ∀ i k, ¬ i = L → A10.1 i k = A.1 i k := fun i k h => by rw [eA10, hup2 (fun q => h q.1), eA8, hup2 (fun q => h q.1), eA6, hup2 (fun q => h q.1), eA4, hup2 (fun q => h q.1), eA2, hup2 (fun q => h q.1)]
  have a10 : A10.2 = A.2 := by rw [fA10, fA8, fA6, fA4, fA2]
  refine ⟨fun k h1 h2 => ?_, fun j h1 h2 x => ?_, fun i k h => ?_, fun i h x => ?_, ?_⟩
  · rw [eA16, eA15, eA14, eA13, eA12, eA11]
    have q : k = 6 ∨ k = 7 ∨ k = 8 ∨ k = 9 ∨ k = 10 := by omega
    rcases q with rfl | rfl | rfl | rfl | rfl
    · rw [eA10, hup2 (by omega), eA8, hup2 (by omega), eA6, hup2 (by omega), eA4, hup2 (by omega), eA2, hup1, ← ez1]
    · rw [eA10, hup2 (by omega), eA8, hup2 (by omega), eA6, hup2 (by omega), eA4, hup1, ← ez3]; exact mA2 7
    · rw [eA10, hup2 (by omega), eA8, hup2 (by omega), eA6, hup1, ← ez5]; exact mA4 8
    · rw [eA10, hup2 (by omega), eA8, hup1, ← ez7]; exact mA6 9
    · rw [eA10, hup1, ← ez9]; exact mA8 10
  · have q : j = 1 ∨ j = 2 ∨ j = 3 ∨ j = 4 ∨ j = 5 ∨ j = 6 := by omega
    rcases q with rfl | rfl | rfl | rfl | rfl | rfl
    · rw [fA16, hcp2 (by omega), fA15, hcp2 (by omega), fA14, hcp2 (by omega), fA13, hcp2 (by omega), fA12, hcp2 (by omega), fA11, hcp1, a10]
    · rw [fA16, hcp2 (by omega), fA15, hcp2 (by omega), fA14, hcp2 (by omega), fA13, hcp2 (by omega), fA12, hcp1, fA11, hcp2 (by omega), a10]
    · rw [fA16, hcp2 (by omega), fA15, hcp2 (by omega), fA14, hcp2 (by omega), fA13, hcp1, fA12, hcp2 (by omega), fA11, hcp2 (by omega), a10]
    · rw [fA16, hcp2 (by omega), fA15, hcp2 (by omega), fA14, hcp1, fA13, hcp2 (by omega), fA12, hcp2 (by omega), fA11, hcp2 (by omega), a10]
    · rw [fA16, hcp2 (by omega), fA15, hcp1, fA14, hcp2 (by omega), fA13, hcp2 (by omega), fA12, hcp2 (by omega), fA11, hcp2 (by omega), a10]
    · rw [fA16, hcp1, fA15, hcp2 (by omega), fA14, hcp2 (by omega), fA13, hcp2 (by omega), fA12, hcp2 (by omega), fA11, hcp2 (by omega), a10]
  · rw [eA16, eA15, eA14, eA13, eA12, eA11]
    exact o10 i k h
  · rw [fA16, hcp2 (by omega), fA15, hcp2 (by omega), fA14, hcp2 (by omega), fA13, hcp2 (by omega), fA12, hcp2 (by omega), fA11, hcp2 (by omega), a10]
  · rw [gA16, gA15, gA14, gA13, gA12, gA11, a10]
theorem hY17g {d : Nat} {Bn Br : Int} {A0 A : hs_A} (hA : hJ 0 Bn Br A0 A)  {L : Nat} (hL : hLL L) {L1 : Nat} (hL1 : hLL L1) (hne : L1 + 7 ≤ L ∨ L + 7 ≤ L1) {P : Option Value → hs_A → Prop} (hP : ∀ (r : Option Value) (A' : hs_A), (hJ 0 Bn Br A0 A' ∧ r = none ∧ hCp L L1 A A') → P r A') : hxa (d + 0) none hm_t17 0 [.ref (L + 1), .ref (L1 + 1)] [] A P := by
  refine hxa_aload_n (by rfl) rfl ?_
  refine hxa_aload_n (by rfl) rfl ?_
  refine hxj_getB (by rfl) (hsL hL1) (by rfl) hA (hbL_6 hL1) (fun z1 ez1 fz1 gz1 => ?_)
  refine hxj_putI (by rfl) (hsL hL) (by rfl) (by rfl) hA (hbok (hbL_6 hL) rfl (by omega) (by omega)) (hrL_6 hL) (by rfl) (fun A2 hA2 eA2 fA2 => ?_)
  refine hxa_aload_n (by rfl) rfl ?_
  refine hxa_aload_n (by rfl) rfl ?_
  refine hxj_getI (by rfl) (hsL hL1) (by rfl) (fun z3 ez3 => ?_)
  refine hxj_putI (by rfl) (hsL hL) (by rfl) (by rfl) hA2 (hbokN (hbL_7 hL)) (hrL_7 hL) (by rfl) (fun A4 hA4 eA4 fA4 => ?_)
  refine hxa_aload_n (by rfl) rfl ?_
  refine hxa_aload_n (by rfl) rfl ?_
  refine hxj_getB (by rfl) (hsL hL1) (by rfl) hA4 (hbL_8 hL1) (fun z5 ez5 fz5 gz5 => ?_)
  refine hxj_putI (by rfl) (hsL hL) (by rfl) (by rfl) hA4 (hbok (hbL_8 hL) rfl (by omega) (by omega)) (hrL_8 hL) (by rfl) (fun A6 hA6 eA6 fA6 => ?_)
  refine hxa_aload_n (by rfl) rfl ?_
  refine hxa_aload_n (by rfl) rfl ?_
  refine hxj_getI (by rfl) (hsL hL1) (by rfl) (fun z7 ez7 => ?_)
  refine hxj_putI (by rfl) (hsL hL) (by rfl) (by rfl) hA6 (hbokN (hbL_9 hL)) (hrL_9 hL) (by rfl) (fun A8 hA8 eA8 fA8 => ?_)
  refine hxa_aload_n (by rfl) rfl ?_
  refine hxa_aload_n (by rfl) rfl ?_
  refine hxj_getI (by rfl) (hsL hL1) (by rfl) (fun z9 ez9 => ?_)
  refine hxj_putI (by rfl) (hsL hL) (by rfl) (by rfl) hA8 (hbokN (hbL_10 hL)) (hrL_10 hL) (by rfl) (fun A10 hA10 eA10 fA10 => ?_)
  refine hxa_aload_n (by rfl) rfl ?_
  refine hxa_get (v := .ref (L1 + 2)) (by rfl) (hsL hL1) (by rfl) (hvL hL1 (by omega)) ?_
  refine hxa_iconst (by rfl) rfl ?_
  refine hxa_aload_n (by rfl) rfl ?_
  refine hxa_get (v := .ref (L + 2)) (by rfl) (hsL hL) (by rfl) (hvL hL (by omega)) ?_
  refine hxa_iconst (by rfl) rfl ?_
  refine hxa_bipush (by rfl) rfl ?_
  refine hxj_copyE (by rfl) (hsLa hL1 (by omega) (by omega)) (hsLa hL (by omega) (by omega)) hk_10 (by rfl) hA10 (fun _ _ => hbokN (haL1 hL)) (hrLa hL (by omega) (by omega)) (hqL hL (by omega)) (fun A11 hA11 eA11 fA11 gA11 => ?_) rfl rfl
  refine hxa_aload_n (by rfl) rfl ?_
  refine hxa_get (v := .ref (L1 + 3)) (by rfl) (hsL hL1) (by rfl) (hvL hL1 (by omega)) ?_
  refine hxa_iconst (by rfl) rfl ?_
  refine hxa_aload_n (by rfl) rfl ?_
  refine hxa_get (v := .ref (L + 3)) (by rfl) (hsL hL) (by rfl) (hvL hL (by omega)) ?_
  refine hxa_iconst (by rfl) rfl ?_
  refine hxa_bipush (by rfl) rfl ?_
  refine hxj_copyE (by rfl) (hsLa hL1 (by omega) (by omega)) (hsLa hL (by omega) (by omega)) hk_10 (by rfl) hA11 (fun _ _ => hbokN (haL2 hL)) (hrLa hL (by omega) (by omega)) (hqL hL (by omega)) (fun A12 hA12 eA12 fA12 gA12 => ?_) rfl rfl
  refine hxa_aload_n (by rfl) rfl ?_
  refine hxa_get (v := .ref (L1 + 4)) (by rfl) (hsL hL1) (by rfl) (hvL hL1 (by omega)) ?_
  refine hxa_iconst (by rfl) rfl ?_
  refine hxa_aload_n (by rfl) rfl ?_
  refine hxa_get (v := .ref (L + 4)) (by rfl) (hsL hL) (by rfl) (hvL hL (by omega)) ?_
  refine hxa_iconst (by rfl) rfl ?_
  refine hxa_bipush (by rfl) rfl ?_
  refine hxj_copyE (by rfl) (hsLa hL1 (by omega) (by omega)) (hsLa hL (by omega) (by omega)) hk_10 (by rfl) hA12 (fun _ _ => hbokN (haL3 hL)) (hrLa hL (by omega) (by omega)) (hqL hL (by omega)) (fun A13 hA13 eA13 fA13 gA13 => ?_) rfl rfl
  refine hxa_aload_n (by rfl) rfl ?_
  refine hxa_get (v := .ref (L1 + 5)) (by rfl) (hsL hL1) (by rfl) (hvL hL1 (by omega)) ?_
  refine hxa_iconst (by rfl) rfl ?_
  refine hxa_aload_n (by rfl) rfl ?_
  refine hxa_get (v := .ref (L + 5)) (by rfl) (hsL hL) (by rfl) (hvL hL (by omega)) ?_
  refine hxa_iconst (by rfl) rfl ?_
  refine hxa_bipush (by rfl) rfl ?_
  refine hxj_copyE (by rfl) (hsLa hL1 (by omega) (by omega)) (hsLa hL (by omega) (by omega)) hk_10 (by rfl) hA13 (fun _ _ => hbokN (haL4 hL)) (hrLa hL (by omega) (by omega)) (hqL hL (by omega)) (fun A14 hA14 eA14 fA14 gA14 => ?_) rfl rfl
  refine hxa_aload_n (by rfl) rfl ?_
  refine hxa_get (v := .ref (L1 + 6)) (by rfl) (hsL hL1) (by rfl) (hvL hL1 (by omega)) ?_
  refine hxa_iconst (by rfl) rfl ?_
  refine hxa_aload_n (by rfl) rfl ?_
  refine hxa_get (v := .ref (L + 6)) (by rfl) (hsL hL) (by rfl) (hvL hL (by omega)) ?_
  refine hxa_iconst (by rfl) rfl ?_
  refine hxa_bipush (by rfl) rfl ?_
  refine hxj_copyE (by rfl) (hsLa hL1 (by omega) (by omega)) (hsLa hL (by omega) (by omega)) hk_10 (by rfl) hA14 (fun v q => (haL5 hL).symm ▸ (haL5 hL1) ▸ q) (hrLa hL (by omega) (by omega)) (hqL hL (by omega)) (fun A15 hA15 eA15 fA15 gA15 => ?_) rfl rfl
  refine hxa_aload_n (by rfl) rfl ?_
  refine hxa_get (v := .ref (L1 + 7)) (by rfl) (hsL hL1) (by rfl) (hvL hL1 (by omega)) ?_
  refine hxa_iconst (by rfl) rfl ?_
  refine hxa_aload_n (by rfl) rfl ?_
  refine hxa_get (v := .ref (L + 7)) (by rfl) (hsL hL) (by rfl) (hvL hL (by omega)) ?_
  refine hxa_iconst (by rfl) rfl ?_
  refine hxa_bipush (by rfl) rfl ?_
  refine hxj_copyE (by rfl) (hsLa hL1 (by omega) (by omega)) (hsLa hL (by omega) (by omega)) hk_10 (by rfl) hA15 (fun _ _ => hbokN (haL6 hL)) (hrLa hL (by omega) (by omega)) (hqL hL (by omega)) (fun A16 hA16 eA16 fA16 gA16 => ?_) rfl rfl
  exact hxa_return (by rfl) rfl (hP _ _ ⟨hA16, rfl, hCp_mk hne ez1 eA2 fA2 ez3 eA4 fA4 ez5 eA6 fA6 ez7 eA8 fA8 ez9 eA10 fA10 eA11 fA11 gA11 eA12 fA12 gA12 eA13 fA13 gA13 eA14 fA14 gA14 eA15 fA15 gA15 eA16 fA16 gA16⟩)
theorem hX17g {d : Nat} {Bn Br : Int} {A0 A : hs_A} (hA : hJ 0 Bn Br A0 A)  {L : Nat} (hL : hLL L) {L1 : Nat} (hL1 : hLL L1) (hne : L1 + 7 ≤ L ∨ L + 7 ≤ L1) : hxC (d + 1) 17 hm_m17 [.ref (L + 1), .ref (L1 + 1)] A (fun r A' => hJ 0 Bn Br A0 A' ∧ r = none ∧ hCp L L1 A A') := hxC.of (by rfl) (hY17g hA hL hL1 hne (fun r A' h => h))
theorem hl_l40_at : ∀ n, n < 40 → hl_l40[n]? = some (43 + 7 * n) := by decide +kernel
theorem haa_livesE {j : Int32} (h0 : 0 ≤ j.toInt) (h1 : j.toInt ≤ 39) : ∃ L, hLL L ∧ hl_l40[j.toNatClampNeg]? = some (L + 1) ∧ L = 42 + 7 * j.toNatClampNeg := by
  obtain ⟨L, hL, e⟩ := haa_lives (j := j) rfl h0 h1
  have c := hn_cn (j := j) h0
  refine ⟨L, hL, e, ?_⟩
  rw [hl_l40_at _ (by omega)] at e
  injection e with e
  omega
/-- what the past keeps -/
def hKp (L : Nat) (A A' : hs_A) : Prop := ∃ p : Nat, (p : Int) = ((A.1 40 1).toInt + (A.1 40 2).toInt) % 40 ∧ (∀ k, 6 ≤ k → k ≤ 10 → A'.1 (42 + 7 * p) k = A.1 L k) ∧ (∀ j, 1 ≤ j → j ≤ 6 → ∀ x, A'.2.1 (42 + 7 * p + j) x = A.2.1 (L + j) x) ∧ (∀ i k, ¬ i = 42 + 7 * p → ¬ i = 40 → A'.1 i k = A.1 i k) ∧ (∀ i, (i ≤ 42 + 7 * p ∨ 42 + 7 * p + 7 ≤ i) → ∀ x, A'.2.1 i x = A.2.1 i x) ∧ ((A.1 40 2).toInt < 40 ∧ (A'.1 40 2).toInt = (A.1 40 2).toInt + 1 ∧ A'.1 40 1 = A.1 40 1 ∨ (A.1 40 2).toInt = 40 ∧ A'.1 40 2 = A.1 40 2 ∧ (A'.1 40 1).toInt = ((A.1 40 1).toInt + 1) % 40)
theorem hKp_mk {L p : Nat} {A A6 A' : hs_A} {k0 : Nat} {v : Int32} (hp : (p : Int) = ((A.1 40 1).toInt + (A.1 40 2).toInt) % 40) (c : hCp (42 + 7 * p) L A A6) (e : A'.1 = hs_up A6.1 40 k0 v) (f : A'.2 = A6.2) (hL : ¬ L = 40) (hs : (A.1 40 2).toInt < 40 ∧ (A'.1 40 2).toInt = (A.1 40 2).toInt + 1 ∧ A'.1 40 1 = A.1 40 1 ∨ (A.1 40 2).toInt = 40 ∧ A'.1 40 2 = A.1 40 2 ∧ (A'.1 40 1).toInt = ((A.1 40 1).toInt + 1) % 40) : hKp L A A' := by
  obtain ⟨c1, c2, c3, c4, c5⟩ := c
  refine ⟨p, hp, fun k h1 h2 => ?_, fun j h1 h2 x => ?_, fun i k h1 h2 => ?_, fun i h x => ?_, hs⟩
  · rw [e, hup2 (by omega)]; exact c1 k h1 h2
  · rw [f]; exact c2 j h1 h2 x
  · rw [e, hup2 (fun q => h2 q.1)]; exact c3 i k h1
  · rw [f]; exact c4 i h x
theorem hY34g {d : Nat} {Bn Br : Int} {A0 A : hs_A} (hA : hJ 0 Bn Br A0 A)  {L : Nat} (hL : hLL L) (hL3 : L = 26) {P : Option Value → hs_A → Prop} (hP : ∀ (r : Option Value) (A' : hs_A), (hJ 0 Bn Br A0 A' ∧ r = none ∧ hKp L A A') → P r A') : hxa (d + 1) none hm_t34 0 [.ref 41, .ref (L + 1)] [] A P := by
  refine hxa_aload_n (by rfl) rfl ?_
  refine hxa_get (v := .ref 42) (by rfl) (by rfl) (by rfl) rfl ?_
  refine hxa_aload_n (by rfl) rfl ?_
  refine hxj_getB (by rfl) (by rfl) (by rfl) hA (by rfl) (fun z1 ez1 fz1 gz1 => ?_)
  refine hxa_aload_n (by rfl) rfl ?_
  refine hxj_getB (by rfl) (by rfl) (by rfl) hA (by rfl) (fun z2 ez2 fz2 gz2 => ?_)
  refine hxj_iadd (by rfl) rfl rfl (by omega) (by omega) (fun z3 ez3 => ?_)
  refine hxa_bipush (by rfl) rfl ?_
  refine hxj_iremP (by rfl) rfl hk_40 (by omega) (by omega) (fun z4 ez4 => ?_)
  obtain ⟨L5, hL5, eL5, sL5⟩ := haa_livesE (j := z4) (by omega) (by omega)
  refine hxa_aald (by rfl) (Or.inl rfl) (by rfl) (hn_ix0 rfl (by omega)) eL5 ?_
  refine hxa_aload_n (by rfl) rfl ?_
  refine hxa_call0 (by rfl) (by rfl) (by rfl) (hsL hL5) (by rfl) (by rfl) (hX17g (d := d + 0) hA hL5 hL (by omega)) ?_
  rintro _ A6 ⟨hA6, rfl, c6⟩
  have hc4 := hn_cn (j := z4) (by omega)
  have k1 : A6.1 40 1 = A.1 40 1 := c6.2.2.1 40 1 (by omega)
  have k2 : A6.1 40 2 = A.1 40 2 := c6.2.2.1 40 2 (by omega)
  rw [sL5] at c6
  have hp : ((z4.toNatClampNeg : Nat) : Int) = ((A.1 40 1).toInt + (A.1 40 2).toInt) % 40 := by rw [ez1, ez2]; omega
  refine hxa_aload_n (by rfl) rfl ?_
  refine hxj_getB (by rfl) (by rfl) (by rfl) hA6 (by rfl) (fun z7 ez7 fz7 gz7 => ?_)
  refine hxa_bipush (by rfl) rfl ?_
  refine hxj_cge (by rfl) rfl hk_40 (fun q8 => ?_) (fun q8 => ?_)
  ·
    refine hxa_aload_n (by rfl) rfl ?_
    refine hxa_aload_n (by rfl) rfl ?_
    refine hxj_getB (by rfl) (by rfl) (by rfl) hA6 (by rfl) (fun z9 ez9 fz9 gz9 => ?_)
    refine hxa_iconst (by rfl) rfl ?_
    refine hxj_iadd (by rfl) rfl hk_1 (by omega) (by omega) (fun z10 ez10 => ?_)
    refine hxa_bipush (by rfl) rfl ?_
    refine hxj_iremP (by rfl) rfl hk_40 (by omega) (by omega) (fun z11 ez11 => ?_)
    refine hxj_putI (by rfl) (by rfl) (by rfl) (by rfl) hA6 (hbok (by rfl) rfl (by omega) (by omega)) (by rfl) (by rfl) (fun A12 hA12 eA12 fA12 => ?_)
    exact hxa_return (by rfl) rfl (hP _ _ ⟨hA12, rfl, hKp_mk hp c6 eA12 fA12 (by omega) (Or.inr ⟨by rw [← k2, ez7]; omega, by rw [eA12, hup2 (by omega)]; exact k2, by rw [eA12, hup1, ← k1, ez9]; omega⟩)⟩)
  ·
    refine hxa_aload_n (by rfl) rfl ?_
    refine hxa_dupR (by rfl) ?_
    refine hxj_getK (by rfl) (by rfl) (by rfl) ez7 ?_
    refine hxa_iconst (by rfl) rfl ?_
    refine hxj_iadd (by rfl) rfl hk_1 (by omega) (by omega) (fun z13 ez13 => ?_)
    refine hxj_putI (by rfl) (by rfl) (by rfl) (by rfl) hA6 (hbok (by rfl) rfl (by omega) (by omega)) (by rfl) (by rfl) (fun A14 hA14 eA14 fA14 => ?_)
    refine hxa_goto (by rfl) ?_
    exact hxa_return (by rfl) rfl (hP _ _ ⟨hA14, rfl, hKp_mk hp c6 eA14 fA14 (by omega) (Or.inl ⟨by rw [← k2, ez7]; omega, by rw [eA14, hup1, ← k2, ez7]; omega, by rw [eA14, hup2 (by omega)]; exact k1⟩)⟩)
theorem hX34g {d : Nat} {Bn Br : Int} {A0 A : hs_A} (hA : hJ 0 Bn Br A0 A)  {L : Nat} (hL : hLL L) (hL3 : L = 26) : hxC (d + 2) 34 hm_m34 [.ref 41, .ref (L + 1)] A (fun r A' => hJ 0 Bn Br A0 A' ∧ r = none ∧ hKp L A A') := hxC.of (by rfl) (hY34g hA hL hL3 (fun r A' h => h))
/-! A LIFE AND A ROW: who lives where, which sets are on, the hour -/
def hOnb (x : Int32) (g : Nat → Int32) (H : Int) : Prop := ∃ n : Nat, (n < 1024 ∧ n < 2 ^ H.toNat) ∧ x = Int32.ofNat n ∧ ∀ h : Nat, (h : Int) < H → g (50 + h) = Int32.ofNat (n / 2 ^ h % 2)
/-- a life of the class at L is the row g of the reference -/
def hLw (L : Nat) (g : Nat → Int32) (H : Int) (A : hs_A) : Prop := (A.1 L 6).toInt = H ∧ (A.1 L 7 = g 70 ∧ A.1 L 8 = g 71 ∧ A.1 L 10 = g 72) ∧ hOnb (A.1 L 9) g H ∧ ∀ h : Nat, (h : Int) < H → (A.2.1 (L + 1) h = g h ∧ A.2.1 (L + 2) h = g (10 + h) ∧ A.2.1 (L + 3) h = g (40 + h)) ∧ (A.2.1 (L + 4) h = g (20 + h) ∧ A.2.1 (L + 5) h = g (30 + h) ∧ A.2.1 (L + 6) h = g (60 + h))
theorem hOnb.mv {x x' : Int32} {g g' : Nat → Int32} {H : Int} (h : hOnb x g H) (hH : H ≤ 10) (ex : x' = x) (eg : ∀ k : Nat, k < 73 → g' k = g k) : hOnb x' g' H := by
  obtain ⟨n, h1, h2, h3⟩ := h
  exact ⟨n, h1, ex.trans h2, fun k hk => (eg _ (by omega)).trans (h3 k hk)⟩
theorem hLw.mv {L L' : Nat} {g g' : Nat → Int32} {H : Int} {A A' : hs_A} (h : hLw L g H A) (hH : H ≤ 10) (e : ∀ k, 6 ≤ k → k ≤ 10 → A'.1 L' k = A.1 L k) (f : ∀ j, 1 ≤ j → j ≤ 6 → ∀ x : Nat, x < 10 → A'.2.1 (L' + j) x = A.2.1 (L + j) x) (eg : ∀ k : Nat, k < 73 → g' k = g k) : hLw L' g' H A' := by
  obtain ⟨h1, ⟨h2, h3, h4⟩, h5, h6⟩ := h
  refine ⟨by rw [e 6 (by omega) (by omega)]; exact h1, ⟨by rw [e 7 (by omega) (by omega), eg 70 (by omega)]; exact h2, by rw [e 8 (by omega) (by omega), eg 71 (by omega)]; exact h3, by rw [e 10 (by omega) (by omega), eg 72 (by omega)]; exact h4⟩, h5.mv hH (e 9 (by omega) (by omega)) eg, fun k hk => ?_⟩
  obtain ⟨⟨a1, a2, a3⟩, a4, a5, a6⟩ := h6 k hk
  exact ⟨⟨by rw [f 1 (by omega) (by omega) k (by omega), eg k (by omega)]; exact a1, by rw [f 2 (by omega) (by omega) k (by omega), eg (10 + k) (by omega)]; exact a2, by rw [f 3 (by omega) (by omega) k (by omega), eg (40 + k) (by omega)]; exact a3⟩, by rw [f 4 (by omega) (by omega) k (by omega), eg (20 + k) (by omega)]; exact a4, by rw [f 5 (by omega) (by omega) k (by omega), eg (30 + k) (by omega)]; exact a5, by rw [f 6 (by omega) (by omega) k (by omega), eg (60 + k) (by omega)]; exact a6⟩
/-- what a row holds, as far as laws want it -/
def huO (ro : Nat → Int32) (n : Nat) : Prop := (∀ h, h < n → (0 ≤ (ro h).toInt ∧ (ro h).toInt ≤ 255) ∧ (0 ≤ (ro (40 + h)).toInt ∧ (ro (40 + h)).toInt ≤ 255) ∧ (0 ≤ (ro (30 + h)).toInt ∧ (ro (30 + h)).toInt ≤ 255) ∧ 0 ≤ (ro (60 + h)).toInt ∧ ro (40 + h) &&& ro h = ro (40 + h)) ∧ 0 ≤ (ro 70).toInt ∧ ((ro 71).toInt = -1 ∨ 0 ≤ (ro 71).toInt ∧ (ro 71).toInt ≤ 255)
theorem huO.mv {g g' : Nat → Int32} {n : Nat} (h : huO g n) (hn : n ≤ 10) (e : ∀ k : Nat, k < 73 → g' k = g k) : huO g' n := by
  obtain ⟨h1, h2, h3⟩ := h
  refine ⟨fun k hk => ?_, by rw [e 70 (by omega)]; exact h2, by rw [e 71 (by omega)]; exact h3⟩
  rw [e k (by omega), e (40 + k) (by omega), e (30 + k) (by omega), e (60 + k) (by omega)]
  exact h1 k hk
def hLo (L : Nat) (g : Nat → Int32) (H : Int) (A : hs_A) : Prop := hLw L g H A ∧ huO g H.toNat
theorem hLo.mv {L L' : Nat} {g g' : Nat → Int32} {H : Int} {A A' : hs_A} (h : hLo L g H A) (hH : H ≤ 10) (e : ∀ k, 6 ≤ k → k ≤ 10 → A'.1 L' k = A.1 L k) (f : ∀ j, 1 ≤ j → j ≤ 6 → ∀ x : Nat, x < 10 → A'.2.1 (L' + j) x = A.2.1 (L + j) x) (eg : ∀ k : Nat, k < 73 → g' k = g k) : hLo L' g' H A' := ⟨h.1.mv hH e f eg, h.2.mv (by omega) eg⟩
/-- the past: what is kept of each thing done -/
def hPs (H : Int) (A : hs_A) : Prop := A.1 40 2 = A.1 367 51 ∧ ∀ i : Nat, (i : Int) < (A.1 40 2).toInt → hLo (42 + 7 * (((A.1 40 1).toInt + i) % 40).toNat) (fun k => A.2.1 399 (73 * i + k)) H A
def hSl (H : Int) (A : hs_A) : Prop := ∀ s : Nat, s < 3 → ¬ (A.2.1 408 s).toInt = 0 → hLo (346 + 7 * s) (fun k => A.2.1 409 (73 * s + k)) H A
def hNw (H : Int) (A : hs_A) : Prop := hLo 26 (A.2.1 395) H A
/-- what the class's past keeps -/
def hKq (A A' : hs_A) : Prop := ∃ p : Nat, (p : Int) = ((A.1 40 1).toInt + (A.1 40 2).toInt) % 40 ∧ (∀ k, 6 ≤ k → k ≤ 10 → A'.1 (42 + 7 * p) k = A.1 26 k) ∧ (∀ j, 1 ≤ j → j ≤ 6 → ∀ x : Nat, x < 10 → A'.2.1 (42 + 7 * p + j) x = A.2.1 (26 + j) x) ∧ (∀ q : Nat, q < 40 → ¬ q = p → (∀ k, 6 ≤ k → k ≤ 10 → A'.1 (42 + 7 * q) k = A.1 (42 + 7 * q) k) ∧ ∀ j, 1 ≤ j → j ≤ 6 → ∀ x : Nat, x < 10 → A'.2.1 (42 + 7 * q + j) x = A.2.1 (42 + 7 * q + j) x) ∧ ((A.1 40 2).toInt < 40 ∧ (A'.1 40 2).toInt = (A.1 40 2).toInt + 1 ∧ A'.1 40 1 = A.1 40 1 ∨ (A.1 40 2).toInt = 40 ∧ A'.1 40 2 = A.1 40 2 ∧ (A'.1 40 1).toInt = ((A.1 40 1).toInt + 1) % 40)
theorem hKp.q {A A' : hs_A} (h : hKp 26 A A') : hKq A A' := by
  obtain ⟨p, h1, h2, h3, h4, h5, h6⟩ := h
  exact ⟨p, h1, h2, fun j a b x _ => h3 j a b x, fun q hq hne => ⟨fun k _ _ => h4 _ k (by omega) (by omega), fun j a b x _ => h5 _ (by omega) x⟩, h6⟩
/-- past cells untouched -/
def hPk (A A' : hs_A) : Prop := (∀ q : Nat, q < 40 → (∀ k, 6 ≤ k → k ≤ 10 → A'.1 (42 + 7 * q) k = A.1 (42 + 7 * q) k) ∧ ∀ j, 1 ≤ j → j ≤ 6 → ∀ x : Nat, x < 10 → A'.2.1 (42 + 7 * q + j) x = A.2.1 (42 + 7 * q + j) x) ∧ A'.1 40 1 = A.1 40 1 ∧ A'.1 40 2 = A.1 40 2
theorem hKq.k {A A1 A' : hs_A} (h : hKq A A1) (w : hPk A1 A') : hKq A A' := by
  obtain ⟨p, h1, h2, h3, h4, h6⟩ := h
  have hp : p < 40 := by omega
  refine ⟨p, h1, fun k a b => ((w.1 p hp).1 k a b).trans (h2 k a b), fun j a b x hx => ((w.1 p hp).2 j a b x hx).trans (h3 j a b x hx), fun q hq hne => ⟨fun k a b => ((w.1 q hq).1 k a b).trans ((h4 q hq hne).1 k a b), fun j a b x hx => ((w.1 q hq).2 j a b x hx).trans ((h4 q hq hne).2 j a b x hx)⟩, ?_⟩
  rw [w.2.1, w.2.2]
  exact h6
theorem hPk.trans {A A1 A' : hs_A} (h : hPk A A1) (w : hPk A1 A') : hPk A A' := ⟨fun q hq => ⟨fun k a b => ((w.1 q hq).1 k a b).trans ((h.1 q hq).1 k a b), fun j a b x hx => ((w.1 q hq).2 j a b x hx).trans ((h.1 q hq).2 j a b x hx)⟩, w.2.1.trans h.2.1, w.2.2.trans h.2.2⟩
set_option maxRecDepth 1000000 in
theorem hPk_sh1 : ∀ q, q < 40 → hc_get hs_sh (42 + 7 * q) = some (3, 2, [44 + 7 * q, 45 + 7 * q, 46 + 7 * q, 47 + 7 * q, 48 + 7 * q, 49 + 7 * q, 0, 0, 0, 0, 0]) := by decide +kernel
set_option maxRecDepth 1000000 in
theorem hPk_sh2 : ∀ q, q < 40 → ∀ j, j < 6 → hc_get hs_sh (42 + 7 * q + (j + 1)) = some (0, 1, [10]) := by decide +kernel
set_option maxRecDepth 1000000 in
theorem hPk_sh3 : ∀ q, q < 40 → ∀ j, j < 7 → ug_g (42 + 7 * q + j) = ug_g (42 + j) := by decide +kernel
theorem hPk_sh (q : Nat) (hq : q < 40) : hc_get hs_sh (42 + 7 * q) = some (3, 2, [44 + 7 * q, 45 + 7 * q, 46 + 7 * q, 47 + 7 * q, 48 + 7 * q, 49 + 7 * q, 0, 0, 0, 0, 0]) ∧ (∀ j, j < 7 → 1 ≤ j → hc_get hs_sh (42 + 7 * q + j) = some (0, 1, [10]) ∧ ug_g (42 + 7 * q + j) = ug_g (42 + j)) ∧ ug_g (42 + 7 * q) = ug_g 42 := ⟨hPk_sh1 q hq, fun j a b => ⟨by rw [show j = (j - 1) + 1 by omega]; exact hPk_sh2 q hq (j - 1) (by omega), hPk_sh3 q hq j a⟩, hPk_sh3 q hq 0 (by omega)⟩
theorem hPk.uf {W : Nat} {A A' : hs_A} (w : uf_W W A A') (c : (Nat.testBit W (ug_o (ug_g 42) 6) || (Nat.testBit W (ug_o (ug_g 42) 7) || (Nat.testBit W (ug_o (ug_g 42) 8) || (Nat.testBit W (ug_o (ug_g 42) 9) || (Nat.testBit W (ug_o (ug_g 42) 10) || (Nat.testBit W (ug_g 43) || (Nat.testBit W (ug_g 44) || (Nat.testBit W (ug_g 45) || (Nat.testBit W (ug_g 46) || (Nat.testBit W (ug_g 47) || (Nat.testBit W (ug_g 48) || (Nat.testBit W (ug_o (ug_g 40) 1) || Nat.testBit W (ug_o (ug_g 40) 2))))))))))))) = false) : hPk A A' := by
  simp only [Bool.or_eq_false_iff] at c
  obtain ⟨c6, c7, c8, c9, c10, d1, d2, d3, d4, d5, d6, e1, e2⟩ := c
  refine ⟨fun q hq => ?_, w.1 40 _ _ 1 rfl rfl e1, w.1 40 _ _ 2 rfl rfl e2⟩
  obtain ⟨s1, s2, s3⟩ := hPk_sh q hq
  refine ⟨fun k a b => ?_, fun j a b x hx => ?_⟩
  · have hk : k = 6 ∨ k = 7 ∨ k = 8 ∨ k = 9 ∨ k = 10 := by omega
    rcases hk with rfl | rfl | rfl | rfl | rfl
    · exact w.1 _ _ _ 6 s1 rfl (by rw [s3]; exact c6)
    · exact w.1 _ _ _ 7 s1 rfl (by rw [s3]; exact c7)
    · exact w.1 _ _ _ 8 s1 rfl (by rw [s3]; exact c8)
    · exact w.1 _ _ _ 9 s1 rfl (by rw [s3]; exact c9)
    · exact w.1 _ _ _ 10 s1 rfl (by rw [s3]; exact c10)
  · have hk : j = 1 ∨ j = 2 ∨ j = 3 ∨ j = 4 ∨ j = 5 ∨ j = 6 := by omega
    have sj := s2 j (by omega) a
    refine w.2.1 _ _ _ x sj.1 hx ?_
    rw [sj.2]
    rcases hk with rfl | rfl | rfl | rfl | rfl | rfl
    · exact d1
    · exact d2
    · exact d3
    · exact d4
    · exact d5
    · exact d6
/-- a thing done: class's past and reference's history -/
theorem hPs.push {H : Int} {A A1 A2 : hs_A} {g : Nat → Int32} (h : hPs H A) (n : hNw H A) (hH : H ≤ 10) (b1 : 0 ≤ (A.1 40 1).toInt ∧ (A.1 40 1).toInt ≤ 39) (b2 : 0 ≤ (A.1 40 2).toInt) (K : hKq A A1) (w2 : hPk A1 A2) (D : hDone A A2 g) : hPs H A2 := by
  obtain ⟨p, k1, k2, k3, k4, k5⟩ := K
  obtain ⟨d1, u, s, d2, d3, d4, d5, d6⟩ := D
  have k5 : (A.1 40 2).toInt < 40 ∧ (A1.1 40 2).toInt = (A.1 40 2).toInt + 1 ∧ A1.1 40 1 = A.1 40 1 ∨ (A.1 40 2).toInt = 40 ∧ (A1.1 40 2).toInt = (A.1 40 2).toInt ∧ (A1.1 40 1).toInt = ((A.1 40 1).toInt + 1) % 40 := by
    rcases k5 with x | ⟨x, y, z⟩
    · exact Or.inl x
    · exact Or.inr ⟨x, congrArg Int32.toInt y, z⟩
  have hu := congrArg Int32.toInt h.1
  have hp : p < 40 := by omega
  have e1 := w2.2.1
  have e2 := w2.2.2
  have e2' := congrArg Int32.toInt e2
  refine ⟨Int32.toInt_inj.mp (by omega), fun i hi => ?_⟩
  rw [e1]
  by_cases q : i = u
  · subst q
    have hq : (((A1.1 40 1).toInt + (i : Int)) % 40).toNat = p := by
      rcases k5 with ⟨x1, x2, x3⟩ | ⟨x1, x2, x3⟩
      · rw [x3]; omega
      · omega
    rw [hq]
    exact n.mv hH (fun k a b => ((w2.1 p hp).1 k a b).trans (k2 k a b)) (fun j a b x hx => ((w2.1 p hp).2 j a b x hx).trans (k3 j a b x hx)) (fun k hk => d5 k hk)
  · have hiu : i < u := by omega
    have hq : ∃ r : Nat, r < 40 ∧ ¬ r = p ∧ (((A1.1 40 1).toInt + (i : Int)) % 40).toNat = r ∧ (((A.1 40 1).toInt + ((i + s : Nat) : Int)) % 40).toNat = r ∧ ((i + s : Nat) : Int) < (A.1 40 2).toInt := by
      refine ⟨(((A.1 40 1).toInt + ((i + s : Nat) : Int)) % 40).toNat, by omega, ?_, ?_, rfl, by omega⟩
      · rcases d4 with ⟨y1, y2⟩ | ⟨y1, y2, y3⟩ <;> omega
      · rcases k5 with ⟨x1, x2, x3⟩ | ⟨x1, x2, x3⟩
        · rw [x3]
          rcases d4 with ⟨y1, y2⟩ | ⟨y1, y2, y3⟩ <;> omega
        · rcases d4 with ⟨y1, y2⟩ | ⟨y1, y2, y3⟩ <;> omega
    obtain ⟨r, r1, r2, r3, r4, r5⟩ := hq
    have old := h.2 (i + s) r5
    rw [r4] at old
    rw [r3]
    exact old.mv hH (fun k a b => ((w2.1 r r1).1 k a b).trans ((k4 r r1 r2).1 k a b)) (fun j a b x hx => ((w2.1 r r1).2 j a b x hx).trans ((k4 r r1 r2).2 j a b x hx)) (fun k hk => d6 i hiu k hk)
theorem hPk.put {A A' : hs_A} {i k : Nat} {v : Int32} (e : A'.1 = hs_up A.1 i k v) (f : A'.2 = A.2) (hi : i < 40 ∨ 322 ≤ i) : hPk A A' := ⟨fun q hq => ⟨fun k a b => by rw [e, hup2 (by omega)], fun j a b x hx => by rw [f]⟩, by rw [e, hup2 (by omega)], by rw [e, hup2 (by omega)]⟩
theorem hY82g {d : Nat} {Bn Br : Int} {A0 A : hs_A} (hA : hJ 0 Bn Br A0 A)    {P : Option Value → hs_A → Prop} (hP : ∀ (r : Option Value) (A' : hs_A), (hJ 0 Bn Br A0 A' ∧ r = none ∧ hKq A A') → P r A') : hxa (d + 2) none hm_t82 0 [.ref 1] [] A P := by
  refine hxa_aload_n (by rfl) rfl ?_
  refine hxa_get (v := .ref 41) (by rfl) (by rfl) (by rfl) rfl ?_
  refine hxa_aload_n (by rfl) rfl ?_
  refine hxa_get (v := .ref 27) (by rfl) (by rfl) (by rfl) rfl ?_
  refine hxa_call0 (by rfl) (by rfl) (by rfl) (by rfl) (by rfl) (by rfl) (hX34g (d := d + 0) hA hL26 rfl) ?_
  rintro _ A1 ⟨hA1, rfl, c1⟩
  refine hxa_aload_n (by rfl) rfl ?_
  refine hxa_get (v := .ref 329) (by rfl) (by rfl) (by rfl) rfl ?_
  refine hxa_iconst (by rfl) rfl ?_
  refine hxj_putI (by rfl) (by rfl) (by rfl) (by rfl) hA1 (hbok (by rfl) hk_0 (by omega) (by omega)) (by rfl) (by rfl) (fun A2 hA2 eA2 fA2 => ?_)
  exact hxa_return (by rfl) rfl (hP _ _ ⟨hA2, rfl, c1.q.k (hPk.put eA2 fA2 (by omega))⟩)
theorem hX82g {d : Nat} {Bn Br : Int} {A0 A : hs_A} (hA : hJ 0 Bn Br A0 A)    : hxC (d + 3) 82 hm_m82 [.ref 1] A (fun r A' => hJ 0 Bn Br A0 A' ∧ r = none ∧ hKq A A') := hxC.of (by rfl) (hY82g hA   (fun r A' h => h))
theorem uf_i82 {d : Nat} {A : hs_A} {P : Option Value → hs_A → Prop} (hH : uf_H A) (w : hxC d 82 hm_m82 [.ref 1] A P) : hxC d 82 hm_m82 [.ref 1] A (fun r A' => P r A' ∧ uf_W ug_x141.2.2.2.1 A A' ∧ uf_H A') := uf_X (X := ug_x141) (j := 141) rfl rfl (ug_L.cons uf_r0 uf_nil) hH w
theorem hY18g {d : Nat} {Bn Br : Int} {A0 A : hs_A} (hA : hJ 0 Bn Br A0 A)  {L : Nat} (hL : hLL L) (a1 : Int32)  {P : Option Value → hs_A → Prop} (hP : ∀ (r : Option Value) (A' : hs_A), (A = A' ∧ ∃ z : Int32, r = some (.int z) ∧ ((z.toInt = 1 ∧ ¬ hBit (A.1 L 9) a1 = 0) ∨ (z.toInt = 0 ∧ hBit (A.1 L 9) a1 = 0))) → P r A') : hxa (d + 0) (some (.boolean)) hm_t18 0 [.ref (L + 1), .int a1] [] A P := by
  have k0 := hk_0
  have k1 := hk_1
  refine hxa_aload_n (by rfl) rfl ?_
  refine hxj_getI (by rfl) (hsL hL) (by rfl) (fun z1 ez1 => ?_)
  refine hxa_iload_n (by rfl) rfl ?_
  refine hxj_ishrE (by rfl) (fun z2 ez2 => ?_)
  refine hxa_iconst (by rfl) rfl ?_
  refine hxj_iandE (by rfl) (fun z3 ez3 => ?_)
  have hb : hBit (A.1 L 9) a1 = z3.toInt := by unfold hBit; rw [ez3, ez2, ez1]
  refine hxj_zeq (by rfl) rfl (fun q4 => ?_) (fun q4 => ?_)
  ·
    refine hxa_iconst (by rfl) rfl ?_
    exact hxa_ireturn (by rfl) (by rfl) (hP _ _ ⟨rfl, _, rfl, by omega⟩)
  ·
    refine hxa_iconst (by rfl) rfl ?_
    refine hxa_goto (by rfl) ?_
    exact hxa_ireturn (by rfl) (by rfl) (hP _ _ ⟨rfl, _, rfl, by omega⟩)
theorem hX18g {d : Nat} {Bn Br : Int} {A0 A : hs_A} (hA : hJ 0 Bn Br A0 A)  {L : Nat} (hL : hLL L) (a1 : Int32)  : hxC (d + 1) 18 hm_m18 [.ref (L + 1), .int a1] A (fun r A' => A = A' ∧ ∃ z : Int32, r = some (.int z) ∧ ((z.toInt = 1 ∧ ¬ hBit (A.1 L 9) a1 = 0) ∨ (z.toInt = 0 ∧ hBit (A.1 L 9) a1 = 0))) := hxC.of (by rfl) (hY18g hA hL a1  (fun r A' h => h))
theorem hY83g {d : Nat} {Bn Br : Int} {A0 A : hs_A} (hA : hJ 0 Bn Br A0 A)  (a1 : Int32) (a2 : Int32) (p2 : 0 ≤ a2.toInt) (q2 : a2.toInt ≤ 1) {H : Int} (hH : ∀ T, hTT T → A.2.2.2 0 3 = T + 1 → (A.1 T 4).toInt = H) (uH : uf_H A) {P : Option Value → hs_A → Prop} (hP : ∀ (r : Option Value) (A' : hs_A), (hJ 0 Bn Br A0 A' ∧ ∃ z : Int32, r = some (.int z) ∧ ((z.toInt = 1 ∧ 0 ≤ a1.toInt ∧ a1.toInt < H ∧ a1.toInt ≤ 9 ∧ ¬ (hBit (A.1 26 9) a1 = 0 ∧ a2.toInt = 0 ∨ ¬ hBit (A.1 26 9) a1 = 0 ∧ a2.toInt = 1) ∧ hKq A A' ∧ A'.1 26 9 = A.1 26 9 ^^^ (Int32.ofNat 1 <<< (a1 &&& 31))) ∨ (z.toInt = 0 ∧ (a1.toInt < 0 ∨ H ≤ a1.toInt ∨ (hBit (A.1 26 9) a1 = 0 ∧ a2.toInt = 0 ∨ ¬ hBit (A.1 26 9) a1 = 0 ∧ a2.toInt = 1)) ∧ A' = A))) → P r A') : hxa (d + 3) (some (.boolean)) hm_t83 0 [.ref 1, .int a1, .int a2] [] A P := by
  have k0 := hk_0
  have k1 := hk_1
  refine hxa_aload_n (by rfl) rfl ?_
  refine hxa_iload_n (by rfl) rfl ?_
  refine hxa_call0 (by rfl) (by rfl) (by rfl) (by rfl) (by rfl) (by rfl) (hX76f (d := d + 2) hA a1 hH) ?_
  rintro _ _ ⟨rfl, z1, rfl, fz1⟩
  rcases fz1 with fz1 | fz1
  ·
    refine hxj_zeq (by rfl) rfl (fun q2 => False.elim (by omega)) (fun q2 => ?_)
    refine hxa_aload_n (by rfl) rfl ?_
    refine hxa_get (v := .ref 27) (by rfl) (by rfl) (by rfl) rfl ?_
    refine hxa_iload_n (by rfl) rfl ?_
    refine hxa_call0 (by rfl) (by rfl) (by rfl) (by rfl) (by rfl) (by rfl) (hX18g (d := d + 2) hA hL26 a1) ?_
    rintro _ _ ⟨rfl, z3, rfl, fz3⟩
    refine hxa_iload_n (by rfl) rfl ?_
    refine hxj_cne (by rfl) rfl rfl (fun q4 => ?_) (fun q4 => ?_)
    ·
      refine hxa_aload_n (by rfl) rfl ?_
      refine hxa_call0 (by rfl) (by rfl) (by rfl) (by rfl) (by rfl) (by rfl) (uf_i82 uH (hX82g (d := d + 0) hA)) ?_
      rintro _ A5 ⟨⟨hA5, rfl, c5⟩, w5, -⟩
      refine hxa_aload_n (by rfl) rfl ?_
      refine hxa_get (v := .ref 27) (by rfl) (by rfl) (by rfl) rfl ?_
      refine hxa_dupR (by rfl) ?_
      refine hxj_getI (by rfl) (by rfl) (by rfl) (fun z6 ez6 => ?_)
      refine hxa_iconst (by rfl) rfl ?_
      refine hxa_iload_n (by rfl) rfl ?_
      refine hxj_ishlE (by rfl) (fun z7 ez7 => ?_)
      refine hxj_ixorE (by rfl) (fun z8 ez8 => ?_)
      refine hxj_putI (by rfl) (by rfl) (by rfl) (by rfl) hA5 (hbokN (by rfl)) (by rfl) (by rfl) (fun A9 hA9 eA9 fA9 => ?_)
      refine hxa_iconst (by rfl) rfl ?_
      exact hxa_ireturn (by rfl) (by rfl) (hP _ _ ⟨hA9, _, rfl, Or.inl ⟨hk_1, by omega, by omega, by omega, by omega, c5.k (hPk.put eA9 fA9 (by omega)), by rw [eA9, hup1, ez8, ez7, ← ez6, w5.1 26 _ _ 9 rfl rfl (by decide +kernel)]⟩⟩)
    ·
      refine hxa_iconst (by rfl) rfl ?_
      exact hxa_ireturn (by rfl) (by rfl) (hP _ _ ⟨hA, _, rfl, Or.inr ⟨hk_0, by omega, rfl⟩⟩)
  ·
    refine hxj_zeq (by rfl) rfl (fun q10 => ?_) (fun q10 => False.elim (by omega))
    refine hxa_iconst (by rfl) rfl ?_
    exact hxa_ireturn (by rfl) (by rfl) (hP _ _ ⟨hA, _, rfl, Or.inr ⟨hk_0, by omega, rfl⟩⟩)
theorem hX83g {d : Nat} {Bn Br : Int} {A0 A : hs_A} (hA : hJ 0 Bn Br A0 A)  (a1 : Int32) (a2 : Int32) (p2 : 0 ≤ a2.toInt) (q2 : a2.toInt ≤ 1) {H : Int} (hH : ∀ T, hTT T → A.2.2.2 0 3 = T + 1 → (A.1 T 4).toInt = H) (uH : uf_H A) : hxC (d + 4) 83 hm_m83 [.ref 1, .int a1, .int a2] A (fun r A' => hJ 0 Bn Br A0 A' ∧ ∃ z : Int32, r = some (.int z) ∧ ((z.toInt = 1 ∧ 0 ≤ a1.toInt ∧ a1.toInt < H ∧ a1.toInt ≤ 9 ∧ ¬ (hBit (A.1 26 9) a1 = 0 ∧ a2.toInt = 0 ∨ ¬ hBit (A.1 26 9) a1 = 0 ∧ a2.toInt = 1) ∧ hKq A A' ∧ A'.1 26 9 = A.1 26 9 ^^^ (Int32.ofNat 1 <<< (a1 &&& 31))) ∨ (z.toInt = 0 ∧ (a1.toInt < 0 ∨ H ≤ a1.toInt ∨ (hBit (A.1 26 9) a1 = 0 ∧ a2.toInt = 0 ∨ ¬ hBit (A.1 26 9) a1 = 0 ∧ a2.toInt = 1)) ∧ A' = A))) := hxC.of (by rfl) (hY83g hA a1 a2 p2 q2 hH uH (fun r A' h => h))
theorem hY84g {d : Nat} {Bn Br : Int} {A0 A : hs_A} (hA : hJ 0 Bn Br A0 A)  (a1 : Int32) {H : Int} (hH : ∀ T, hTT T → A.2.2.2 0 3 = T + 1 → (A.1 T 4).toInt = H) {P : Option Value → hs_A → Prop} (hP : ∀ (r : Option Value) (A' : hs_A), (hJ 0 Bn Br A0 A' ∧ ∃ z : Int32, r = some (.int z) ∧ (((z.toInt = 1 ∧ 0 ≤ a1.toInt ∧ a1.toInt ≤ 255 ∧ ¬ H = 0) ∨ (z.toInt = 0 ∧ (a1.toInt < 0 ∨ 255 < a1.toInt ∨ H = 0))) ∧ (z.toInt = 1 → hKq A A' ∧ A'.1 26 8 = a1) ∧ (¬ z.toInt = 1 → A' = A))) → P r A') : hxa (d + 3) (some (.boolean)) hm_t84 0 [.ref 1, .int a1] [] A P := by
  have k0 := hk_0
  have k1 := hk_1
  obtain ⟨T0, hT0, -, eT0⟩ := hA.T
  refine hxa_iload_n (by rfl) rfl ?_
  refine hxa_call2 (by rfl) (by decide) (by rfl) (by rfl) (by rfl) (hX77f (d := d + 2)  a1) ?_
  rintro _ _ ⟨rfl, z1, rfl, fz1⟩
  rcases fz1 with fz1 | fz1
  ·
    refine hxj_zeq (by rfl) rfl (fun q2 => False.elim (by omega)) (fun q2 => ?_)
    refine hxa_aload_n (by rfl) rfl ?_
    refine hxj_getT (by rfl) (by rfl) (by rfl) (hA.Tw eT0) ?_
    refine hxj_getB (by rfl) (hsT hT0) (by rfl) hA (hbT_4 hT0) (fun z3 ez3 fz3 gz3 => ?_)
    have hh := hH T0 hT0 (hA.Tw eT0)
    rw [ez3] at hh
    refine hxj_zne (by rfl) rfl (fun q4 => ?_) (fun q4 => ?_)
    ·
      refine hxa_aload_n (by rfl) rfl ?_
      refine hxa_call0 (by rfl) (by rfl) (by rfl) (by rfl) (by rfl) (by rfl) (hX82g (d := d + 0) hA) ?_
      rintro _ A5 ⟨hA5, rfl, c5⟩
      refine hxa_aload_n (by rfl) rfl ?_
      refine hxa_get (v := .ref 27) (by rfl) (by rfl) (by rfl) rfl ?_
      refine hxa_iload_n (by rfl) rfl ?_
      refine hxj_putI (by rfl) (by rfl) (by rfl) (by rfl) hA5 (hbok (by rfl) rfl (by omega) (by omega)) (by rfl) (by rfl) (fun A6 hA6 eA6 fA6 => ?_)
      refine hxa_iconst (by rfl) rfl ?_
      exact hxa_ireturn (by rfl) (by rfl) (hP _ _ ⟨hA6, _, rfl, ⟨by omega, fun _ => ⟨c5.k (hPk.put eA6 fA6 (by omega)), by rw [eA6, hup1]⟩, fun q => absurd hk_1 q⟩⟩)
    ·
      refine hxa_iconst (by rfl) rfl ?_
      exact hxa_ireturn (by rfl) (by rfl) (hP _ _ ⟨hA, _, rfl, ⟨by omega, fun q => False.elim (by omega), fun _ => rfl⟩⟩)
  ·
    refine hxj_zeq (by rfl) rfl (fun q7 => ?_) (fun q7 => False.elim (by omega))
    refine hxa_iconst (by rfl) rfl ?_
    exact hxa_ireturn (by rfl) (by rfl) (hP _ _ ⟨hA, _, rfl, ⟨by omega, fun q => False.elim (by omega), fun _ => rfl⟩⟩)
theorem hX84g {d : Nat} {Bn Br : Int} {A0 A : hs_A} (hA : hJ 0 Bn Br A0 A)  (a1 : Int32) {H : Int} (hH : ∀ T, hTT T → A.2.2.2 0 3 = T + 1 → (A.1 T 4).toInt = H) : hxC (d + 4) 84 hm_m84 [.ref 1, .int a1] A (fun r A' => hJ 0 Bn Br A0 A' ∧ ∃ z : Int32, r = some (.int z) ∧ (((z.toInt = 1 ∧ 0 ≤ a1.toInt ∧ a1.toInt ≤ 255 ∧ ¬ H = 0) ∨ (z.toInt = 0 ∧ (a1.toInt < 0 ∨ 255 < a1.toInt ∨ H = 0))) ∧ (z.toInt = 1 → hKq A A' ∧ A'.1 26 8 = a1) ∧ (¬ z.toInt = 1 → A' = A))) := hxC.of (by rfl) (hY84g hA a1 hH (fun r A' h => h))
theorem hsw {f : Nat → Nat → Int32} {C a b : Nat} {x y : Int32} (hx : f C a = x) (hy : f C b = y) (hab : ¬ a = b) : ∀ k : Nat, hs_up (hs_up f C a y) C b x C k = if k = a then f C b else if k = b then f C a else f C k := fun k => by
  by_cases q : k = b
  · subst q
    rw [hup1, if_neg (fun w => hab w.symm), if_pos rfl, hx]
  · rw [hup2 (fun w => q w.2)]
    by_cases p : k = a
    · subst p
      rw [hup1, if_pos rfl, hy]
    · rw [hup2 (fun w => p w.2), if_neg p, if_neg q]
theorem hY25g {d : Nat} {Bn Br : Int} {A0 A : hs_A} (hA : hJ 0 Bn Br A0 A)  {C1 : Nat} (hC1 : hc_get hs_sh C1 = some (0, 1, [10])) (nC1 : hb_a C1 = none) (rC1 : hr_a 0 C1 = true) (gC1 : hq 0 C1 = true) (a2 : Int32) (p2 : 0 ≤ a2.toInt) (q2 : a2.toInt ≤ 9) (a3 : Int32) (p3 : 0 ≤ a3.toInt) (q3 : a3.toInt ≤ 9) (hab : ¬ a2.toInt = a3.toInt) {P : Option Value → hs_A → Prop} (hP : ∀ (r : Option Value) (A' : hs_A), (hJ 0 Bn Br A0 A' ∧ r = none ∧ ((∀ x : Nat, A'.2.1 C1 x = if x = a2.toNatClampNeg then A.2.1 C1 a3.toNatClampNeg else if x = a3.toNatClampNeg then A.2.1 C1 a2.toNatClampNeg else A.2.1 C1 x) ∧ (∀ i, ¬ i = C1 → ∀ x, A'.2.1 i x = A.2.1 i x) ∧ A'.1 = A.1)) → P r A') : hxa (d + 0) none hm_t25 0 [.ref (C1 + 1), .int a2, .int a3, .retAddr 0] [] A P := by
  refine hxa_aload_n (by rfl) rfl ?_
  refine hxa_iload_n (by rfl) rfl ?_
  refine hxj_iald (by rfl) hC1 rfl (by omega) (by omega) (fun z1 ez1 => ?_)
  refine hxa_s1 (by rfl) (Or.inl ⟨_, rfl, rfl⟩) rfl ?_
  refine hxa_aload_n (by rfl) rfl ?_
  refine hxa_iload_n (by rfl) rfl ?_
  refine hxa_aload_n (by rfl) rfl ?_
  refine hxa_iload_n (by rfl) rfl ?_
  refine hxj_iald (by rfl) hC1 rfl (by omega) (by omega) (fun z2 ez2 => ?_)
  refine hxj_iast (by rfl) hC1 rfl (by omega) (by omega) hA (hbokN nC1) rC1 gC1 (fun A3 hA3 eA3 fA3 gA3 => ?_)
  refine hxa_aload_n (by rfl) rfl ?_
  refine hxa_iload_n (by rfl) rfl ?_
  refine hxa_iload_n (by rfl) rfl ?_
  refine hxj_iast (by rfl) hC1 rfl (by omega) (by omega) hA3 (hbokN nC1) rC1 gC1 (fun A4 hA4 eA4 fA4 gA4 => ?_)
  exact hxa_return (by rfl) rfl (hP _ _ ⟨hA4, rfl, ⟨fun x => by rw [fA4, fA3]; exact hsw ez1 ez2 (by have := hn_cn (j := a2) (by omega); have := hn_cn (j := a3) (by omega); omega) x, fun i hi x => by rw [fA4, hup2 (fun w => hi w.1), fA3, hup2 (fun w => hi w.1)], by rw [eA4, eA3]⟩⟩)
theorem hX25g {d : Nat} {Bn Br : Int} {A0 A : hs_A} (hA : hJ 0 Bn Br A0 A)  {C1 : Nat} (hC1 : hc_get hs_sh C1 = some (0, 1, [10])) (nC1 : hb_a C1 = none) (rC1 : hr_a 0 C1 = true) (gC1 : hq 0 C1 = true) (a2 : Int32) (p2 : 0 ≤ a2.toInt) (q2 : a2.toInt ≤ 9) (a3 : Int32) (p3 : 0 ≤ a3.toInt) (q3 : a3.toInt ≤ 9) (hab : ¬ a2.toInt = a3.toInt) : hxC (d + 1) 25 hm_m25 [.ref (C1 + 1), .int a2, .int a3] A (fun r A' => hJ 0 Bn Br A0 A' ∧ r = none ∧ ((∀ x : Nat, A'.2.1 C1 x = if x = a2.toNatClampNeg then A.2.1 C1 a3.toNatClampNeg else if x = a3.toNatClampNeg then A.2.1 C1 a2.toNatClampNeg else A.2.1 C1 x) ∧ (∀ i, ¬ i = C1 → ∀ x, A'.2.1 i x = A.2.1 i x) ∧ A'.1 = A.1)) := hxC.of (by rfl) (hY25g hA hC1 nC1 rC1 gC1 a2 p2 q2 a3 p3 q3 hab (fun r A' h => h))
theorem hY24g {d : Nat} {Bn Br : Int} {A0 A : hs_A} (hA : hJ 0 Bn Br A0 A)  {L : Nat} (hL : hLL L) (a1 : Int32) (p1 : 0 ≤ a1.toInt) (q1 : a1.toInt ≤ 9) (a2 : Int32) (p2 : 0 ≤ a2.toInt) (q2 : a2.toInt ≤ 9) (hab : ¬ a1.toInt = a2.toInt) {P : Option Value → hs_A → Prop} (hP : ∀ (r : Option Value) (A' : hs_A), (hJ 0 Bn Br A0 A' ∧ r = none ∧ (((∀ x : Nat, A'.2.1 (L + 1) x = if x = a1.toNatClampNeg then A.2.1 (L + 1) a2.toNatClampNeg else if x = a2.toNatClampNeg then A.2.1 (L + 1) a1.toNatClampNeg else A.2.1 (L + 1) x) ∧ (∀ x : Nat, A'.2.1 (L + 2) x = if x = a1.toNatClampNeg then A.2.1 (L + 2) a2.toNatClampNeg else if x = a2.toNatClampNeg then A.2.1 (L + 2) a1.toNatClampNeg else A.2.1 (L + 2) x) ∧ (∀ x : Nat, A'.2.1 (L + 3) x = if x = a1.toNatClampNeg then A.2.1 (L + 3) a2.toNatClampNeg else if x = a2.toNatClampNeg then A.2.1 (L + 3) a1.toNatClampNeg else A.2.1 (L + 3) x) ∧ (∀ x : Nat, A'.2.1 (L + 4) x = if x = a1.toNatClampNeg then A.2.1 (L + 4) a2.toNatClampNeg else if x = a2.toNatClampNeg then A.2.1 (L + 4) a1.toNatClampNeg else A.2.1 (L + 4) x)) ∧ (∀ i, ¬ (L + 1 ≤ i ∧ i ≤ L + 4) → ∀ x, A'.2.1 i x = A.2.1 i x) ∧ A'.1 = A.1)) → P r A') : hxa (d + 1) none hm_t24 0 [.ref (L + 1), .int a1, .int a2] [] A P := by
  refine hxa_aload_n (by rfl) rfl ?_
  refine hxa_get (v := .ref (L + 2)) (by rfl) (hsL hL) (by rfl) (hvL hL (by omega)) ?_
  refine hxa_iload_n (by rfl) rfl ?_
  refine hxa_iload_n (by rfl) rfl ?_
  refine hxa_call2 (by rfl) (by decide) (by rfl) (by rfl) (by rfl) (hX25g (d := d + 0) hA (C1 := (L + 1)) (hsLa hL (by omega) (by omega)) (haL1 hL) (hrLa hL (by omega) (by omega)) (hqL hL (by omega)) a1 (by omega) (by omega) a2 (by omega) (by omega) hab) ?_
  rintro _ A1 ⟨hA1, rfl, s1, o1, e1⟩
  refine hxa_aload_n (by rfl) rfl ?_
  refine hxa_get (v := .ref (L + 3)) (by rfl) (hsL hL) (by rfl) (hvL hL (by omega)) ?_
  refine hxa_iload_n (by rfl) rfl ?_
  refine hxa_iload_n (by rfl) rfl ?_
  refine hxa_call2 (by rfl) (by decide) (by rfl) (by rfl) (by rfl) (hX25g (d := d + 0) hA1 (C1 := (L + 2)) (hsLa hL (by omega) (by omega)) (haL2 hL) (hrLa hL (by omega) (by omega)) (hqL hL (by omega)) a1 (by omega) (by omega) a2 (by omega) (by omega) hab) ?_
  rintro _ A2 ⟨hA2, rfl, s2, o2, e2⟩
  refine hxa_aload_n (by rfl) rfl ?_
  refine hxa_get (v := .ref (L + 4)) (by rfl) (hsL hL) (by rfl) (hvL hL (by omega)) ?_
  refine hxa_iload_n (by rfl) rfl ?_
  refine hxa_iload_n (by rfl) rfl ?_
  refine hxa_call2 (by rfl) (by decide) (by rfl) (by rfl) (by rfl) (hX25g (d := d + 0) hA2 (C1 := (L + 3)) (hsLa hL (by omega) (by omega)) (haL3 hL) (hrLa hL (by omega) (by omega)) (hqL hL (by omega)) a1 (by omega) (by omega) a2 (by omega) (by omega) hab) ?_
  rintro _ A3 ⟨hA3, rfl, s3, o3, e3⟩
  refine hxa_aload_n (by rfl) rfl ?_
  refine hxa_get (v := .ref (L + 5)) (by rfl) (hsL hL) (by rfl) (hvL hL (by omega)) ?_
  refine hxa_iload_n (by rfl) rfl ?_
  refine hxa_iload_n (by rfl) rfl ?_
  refine hxa_call2 (by rfl) (by decide) (by rfl) (by rfl) (by rfl) (hX25g (d := d + 0) hA3 (C1 := (L + 4)) (hsLa hL (by omega) (by omega)) (haL4 hL) (hrLa hL (by omega) (by omega)) (hqL hL (by omega)) a1 (by omega) (by omega) a2 (by omega) (by omega) hab) ?_
  rintro _ A4 ⟨hA4, rfl, s4, o4, e4⟩
  exact hxa_return (by rfl) rfl (hP _ _ ⟨hA4, rfl, ⟨⟨fun x => by rw [o4 (L + 1) (by omega), o3 (L + 1) (by omega), o2 (L + 1) (by omega), s1 x], fun x => by rw [o4 (L + 2) (by omega), o3 (L + 2) (by omega), s2 x, o1 (L + 2) (by omega), o1 (L + 2) (by omega), o1 (L + 2) (by omega)], fun x => by rw [o4 (L + 3) (by omega), s3 x, o2 (L + 3) (by omega), o1 (L + 3) (by omega), o2 (L + 3) (by omega), o1 (L + 3) (by omega), o2 (L + 3) (by omega), o1 (L + 3) (by omega)], fun x => by rw [s4 x, o3 (L + 4) (by omega), o2 (L + 4) (by omega), o1 (L + 4) (by omega), o3 (L + 4) (by omega), o2 (L + 4) (by omega), o1 (L + 4) (by omega), o3 (L + 4) (by omega), o2 (L + 4) (by omega), o1 (L + 4) (by omega)]⟩, fun i hi x => by rw [o4 i (by omega), o3 i (by omega), o2 i (by omega), o1 i (by omega)], by rw [e4, e3, e2, e1]⟩⟩)
theorem hX24g {d : Nat} {Bn Br : Int} {A0 A : hs_A} (hA : hJ 0 Bn Br A0 A)  {L : Nat} (hL : hLL L) (a1 : Int32) (p1 : 0 ≤ a1.toInt) (q1 : a1.toInt ≤ 9) (a2 : Int32) (p2 : 0 ≤ a2.toInt) (q2 : a2.toInt ≤ 9) (hab : ¬ a1.toInt = a2.toInt) : hxC (d + 2) 24 hm_m24 [.ref (L + 1), .int a1, .int a2] A (fun r A' => hJ 0 Bn Br A0 A' ∧ r = none ∧ (((∀ x : Nat, A'.2.1 (L + 1) x = if x = a1.toNatClampNeg then A.2.1 (L + 1) a2.toNatClampNeg else if x = a2.toNatClampNeg then A.2.1 (L + 1) a1.toNatClampNeg else A.2.1 (L + 1) x) ∧ (∀ x : Nat, A'.2.1 (L + 2) x = if x = a1.toNatClampNeg then A.2.1 (L + 2) a2.toNatClampNeg else if x = a2.toNatClampNeg then A.2.1 (L + 2) a1.toNatClampNeg else A.2.1 (L + 2) x) ∧ (∀ x : Nat, A'.2.1 (L + 3) x = if x = a1.toNatClampNeg then A.2.1 (L + 3) a2.toNatClampNeg else if x = a2.toNatClampNeg then A.2.1 (L + 3) a1.toNatClampNeg else A.2.1 (L + 3) x) ∧ (∀ x : Nat, A'.2.1 (L + 4) x = if x = a1.toNatClampNeg then A.2.1 (L + 4) a2.toNatClampNeg else if x = a2.toNatClampNeg then A.2.1 (L + 4) a1.toNatClampNeg else A.2.1 (L + 4) x)) ∧ (∀ i, ¬ (L + 1 ≤ i ∧ i ≤ L + 4) → ∀ x, A'.2.1 i x = A.2.1 i x) ∧ A'.1 = A.1)) := hxC.of (by rfl) (hY24g hA hL a1 p1 q1 a2 p2 q2 hab (fun r A' h => h))
theorem hY23g {d : Nat} {Bn Br : Int} {A0 A : hs_A} (hA : hJ 0 Bn Br A0 A)  {L : Nat} (hL : hLL L) (a1 : Int32) (p1 : 0 ≤ a1.toInt) (q1 : a1.toInt ≤ 9) (a2 : Int32) (p2 : 0 ≤ a2.toInt) (q2 : a2.toInt ≤ 255)  {P : Option Value → hs_A → Prop} (hP : ∀ (r : Option Value) (A' : hs_A), (hJ 0 Bn Br A0 A' ∧ r = none ∧ (A'.1 = A.1 ∧ A'.2.1 (L + 5) a1.toNatClampNeg = a2 ∧ A'.2.1 (L + 3) a1.toNatClampNeg = A.2.1 (L + 3) a1.toNatClampNeg ||| (a2 &&& A.2.1 (L + 1) a1.toNatClampNeg) ∧ ∀ i j, ¬ (i = L + 5 ∧ j = a1.toNatClampNeg) → ¬ (i = L + 3 ∧ j = a1.toNatClampNeg) → A'.2.1 i j = A.2.1 i j)) → P r A') : hxa (d + 0) none hm_t23 0 [.ref (L + 1), .int a1, .int a2] [] A P := by
  refine hxa_aload_n (by rfl) rfl ?_
  refine hxa_get (v := .ref (L + 6)) (by rfl) (hsL hL) (by rfl) (hvL hL (by omega)) ?_
  refine hxa_iload_n (by rfl) rfl ?_
  refine hxa_iload_n (by rfl) rfl ?_
  refine hxj_iast (by rfl) (hsLa hL (by omega) (by omega)) rfl (by omega) (by omega) hA (hbok (haL5 hL) rfl (by omega) (by omega)) (hrLa hL (by omega) (by omega)) (hqL hL (by omega)) (fun A1 hA1 eA1 fA1 gA1 => ?_)
  refine hxa_aload_n (by rfl) rfl ?_
  refine hxa_get (v := .ref (L + 4)) (by rfl) (hsL hL) (by rfl) (hvL hL (by omega)) ?_
  refine hxa_iload_n (by rfl) rfl ?_
  refine hxa_dup2IR (by rfl) ?_
  refine hxj_iald (by rfl) (hsLa hL (by omega) (by omega)) rfl (by omega) (by omega) (fun z2 ez2 => ?_)
  refine hxa_iload_n (by rfl) rfl ?_
  refine hxa_aload_n (by rfl) rfl ?_
  refine hxa_get (v := .ref (L + 2)) (by rfl) (hsL hL) (by rfl) (hvL hL (by omega)) ?_
  refine hxa_iload_n (by rfl) rfl ?_
  refine hxj_iald (by rfl) (hsLa hL (by omega) (by omega)) rfl (by omega) (by omega) (fun z3 ez3 => ?_)
  refine hxj_iandE (by rfl) (fun z4 ez4 => ?_)
  refine hxj_iorE (by rfl) (fun z5 ez5 => ?_)
  refine hxj_iast (by rfl) (hsLa hL (by omega) (by omega)) rfl (by omega) (by omega) hA1 (hbokN (haL3 hL)) (hrLa hL (by omega) (by omega)) (hqL hL (by omega)) (fun A6 hA6 eA6 fA6 gA6 => ?_)
  exact hxa_return (by rfl) rfl (hP _ _ ⟨hA6, rfl, ⟨eA6.trans eA1, by rw [fA6, hup2 (by omega), fA1, hup1], by rw [fA6, hup1, ez5, ez4, ← ez2, ← ez3, fA1, hup2 (by omega), hup2 (by omega)], fun i j h1 h2 => by rw [fA6, hup2 h2, fA1, hup2 h1]⟩⟩)
theorem hX23g {d : Nat} {Bn Br : Int} {A0 A : hs_A} (hA : hJ 0 Bn Br A0 A)  {L : Nat} (hL : hLL L) (a1 : Int32) (p1 : 0 ≤ a1.toInt) (q1 : a1.toInt ≤ 9) (a2 : Int32) (p2 : 0 ≤ a2.toInt) (q2 : a2.toInt ≤ 255)  : hxC (d + 1) 23 hm_m23 [.ref (L + 1), .int a1, .int a2] A (fun r A' => hJ 0 Bn Br A0 A' ∧ r = none ∧ (A'.1 = A.1 ∧ A'.2.1 (L + 5) a1.toNatClampNeg = a2 ∧ A'.2.1 (L + 3) a1.toNatClampNeg = A.2.1 (L + 3) a1.toNatClampNeg ||| (a2 &&& A.2.1 (L + 1) a1.toNatClampNeg) ∧ ∀ i j, ¬ (i = L + 5 ∧ j = a1.toNatClampNeg) → ¬ (i = L + 3 ∧ j = a1.toNatClampNeg) → A'.2.1 i j = A.2.1 i j)) := hxC.of (by rfl) (hY23g hA hL a1 p1 q1 a2 p2 q2  (fun r A' h => h))
/-! THINGS DONE -/
theorem hDone.row {A A2 A5 A6 : hs_A} {g : Nat → Int32} (D : hDone A5 A6 (fun k => A5.2.1 396 k)) (w2 : uf_W ug_x113.2.2.2.1 A A2) (e5 : A5.1 = A2.1) (o5 : ∀ i, ¬ i = 396 → ∀ x, A5.2.1 i x = A2.2.1 i x) (hg : ∀ k : Nat, k < 73 → A5.2.1 396 k = g k) : hDone A A6 g := by
  have D2 : hDone A A6 (fun k => A5.2.1 396 k) := D.pre (fun k hk => (o5 395 (by omega) k).trans (w2.2.1 395 _ _ k rfl hk (by decide +kernel))) (fun j hj => (o5 399 (by omega) j).trans (w2.2.1 399 _ _ j rfl hj (by decide +kernel))) (by rw [e5]; exact w2.1 367 _ _ 51 rfl rfl (by decide +kernel))
  exact ⟨fun k hk => (D2.1 k hk).trans (hg k hk), D2.2⟩
theorem hY191g {d : Nat} {N : Int} {A0 A : hs_A} (hA : hJ 0 N (N + 72) A0 A) (hN : N ≤ 900000) (a1 : Int32) (a2 : Int32) (p2 : 0 ≤ a2.toInt) (q2 : a2.toInt ≤ 1) {H : Int} (hH : (A.2.1 376 (A.1 367 18).toNatClampNeg).toInt = H) (uH : uf_H A) {P : Option Value → hs_A → Prop} (hP : ∀ (r : Option Value) (A' : hs_A), (hJ 0 (N + 72) (N + 144) A0 A' ∧ ∃ z : Int32, r = some (.int z) ∧ ((z.toInt = 1 ∧ 0 ≤ a1.toInt ∧ a1.toInt < H ∧ a1.toInt ≤ 9 ∧ ¬ (¬ (A.2.1 395 (50 + a1.toNatClampNeg)).toInt = 1 ∧ a2.toInt = 0 ∨ (A.2.1 395 (50 + a1.toNatClampNeg)).toInt = 1 ∧ a2.toInt = 1) ∧ hDone A A' (fun k => if k = 50 + a1.toNatClampNeg then a2 else A.2.1 395 k)) ∨ (z.toInt = 0 ∧ (a1.toInt < 0 ∨ H ≤ a1.toInt ∨ (¬ (A.2.1 395 (50 + a1.toNatClampNeg)).toInt = 1 ∧ a2.toInt = 0 ∨ (A.2.1 395 (50 + a1.toNatClampNeg)).toInt = 1 ∧ a2.toInt = 1)) ∧ A' = A))) → P r A') : hxa (d + 2) (some (.boolean)) hm_t191 0 [.ref 368, .int a1, .int a2] [] A P := by
  have k0 := hk_0
  have k1 := hk_1
  have L26 : ∀ (y26_0 : Int32) (by26_0 : 0 ≤ y26_0.toInt) (cy26_0 : y26_0.toInt ≤ 1) (ba1 : 0 ≤ a1.toInt) (ca1 : a1.toInt ≤ 9) (hHa : a1.toInt < H) (iy : (y26_0.toInt = 1 ∧ (A.2.1 395 (50 + a1.toNatClampNeg)).toInt = 1 ∨ y26_0.toInt = 0 ∧ ¬ (A.2.1 395 (50 + a1.toNatClampNeg)).toInt = 1)), hxa (d + 2) (some (.boolean)) hm_t191 26 [.ref 368, .int a1, .int a2] [.int y26_0] A P := by
    intro y26_0 by26_0 cy26_0 ba1 ca1 hHa iy
    refine hxa_iload_n (by rfl) rfl ?_
    refine hxj_cne (by rfl) rfl rfl (fun q1 => ?_) (fun q1 => ?_)
    ·
      refine hxa_aload_n (by rfl) rfl ?_
      refine hxa_call0 (by rfl) (by rfl) (by rfl) (by rfl) (by rfl) (by rfl) (uf_i171 uH (hX171g (d := d + 1) hA)) ?_
      rintro _ A2 ⟨⟨hA2, rfl, c2⟩, w2, H2⟩
      refine hxa_aload_n (by rfl) rfl ?_
      refine hxa_get (v := .ref 397) (by rfl) (by rfl) (by rfl) rfl ?_
      refine hxa_bipush (by rfl) rfl ?_
      refine hxa_iload_n (by rfl) rfl ?_
      refine hxj_iadd (by rfl) hk_50 rfl (by omega) (by omega) (fun z3 ez3 => ?_)
      refine hxa_iload_n (by rfl) rfl ?_
      refine hxj_zeq (by rfl) rfl (fun q4 => ?_) (fun q4 => ?_)
      ·
        refine hxa_iconst (by rfl) rfl ?_
        refine hxj_iast396 (by rfl) rfl (by omega) (by omega) hk_0 hA2 (by omega) (fun A5 hA5 eA5 fA5 gA5 => ?_)
        refine hxa_aload_n (by rfl) rfl ?_
        refine hxa_call0 (by rfl) (by rfl) (by rfl) (by rfl) (by rfl) (by rfl) (hX190g (d := d + 0) hA5 (by omega) (H2.e (congrArg (fun q => q.2) gA5))) ?_
        rintro _ A6 ⟨hA6, rfl, D6⟩
        refine hxa_iconst (by rfl) rfl ?_
        exact hxa_ireturn (by rfl) (by rfl) (hP _ _ ⟨(hJ.mono hA6 (by omega) (by omega)), _, rfl, Or.inl ⟨hk_1, by omega, by omega, by omega, by omega, D6.row w2 eA5 (fun i hi x => by rw [fA5, hup2 (fun w => hi w.1)]) (fun k hk => by rw [fA5]; have hc3 := hn_cn (j := z3) (by omega); have hc1 := hn_cn (j := a1) (by omega); by_cases q : k = 50 + a1.toNatClampNeg; (rw [if_pos q, show z3.toNatClampNeg = k by omega, hup1]; exact Int32.toInt_inj.mp (by omega)); (rw [if_neg q, hup2 (fun w => q (by omega))]; exact c2 k hk))⟩⟩)
      ·
        refine hxa_iconst (by rfl) rfl ?_
        refine hxa_goto (by rfl) ?_
        refine hxj_iast396 (by rfl) rfl (by omega) (by omega) hk_1 hA2 (by omega) (fun A7 hA7 eA7 fA7 gA7 => ?_)
        refine hxa_aload_n (by rfl) rfl ?_
        refine hxa_call0 (by rfl) (by rfl) (by rfl) (by rfl) (by rfl) (by rfl) (hX190g (d := d + 0) hA7 (by omega) (H2.e (congrArg (fun q => q.2) gA7))) ?_
        rintro _ A8 ⟨hA8, rfl, D8⟩
        refine hxa_iconst (by rfl) rfl ?_
        exact hxa_ireturn (by rfl) (by rfl) (hP _ _ ⟨(hJ.mono hA8 (by omega) (by omega)), _, rfl, Or.inl ⟨hk_1, by omega, by omega, by omega, by omega, D8.row w2 eA7 (fun i hi x => by rw [fA7, hup2 (fun w => hi w.1)]) (fun k hk => by rw [fA7]; have hc3 := hn_cn (j := z3) (by omega); have hc1 := hn_cn (j := a1) (by omega); by_cases q : k = 50 + a1.toNatClampNeg; (rw [if_pos q, show z3.toNatClampNeg = k by omega, hup1]; exact Int32.toInt_inj.mp (by omega)); (rw [if_neg q, hup2 (fun w => q (by omega))]; exact c2 k hk))⟩⟩)
    ·
      refine hxa_iconst (by rfl) rfl ?_
      exact hxa_ireturn (by rfl) (by rfl) (hP _ _ ⟨(hJ.mono hA (by omega) (by omega)), _, rfl, Or.inr ⟨hk_0, by omega, rfl⟩⟩)
  refine hxa_aload_n (by rfl) rfl ?_
  refine hxa_iload_n (by rfl) rfl ?_
  refine hxa_call0 (by rfl) (by rfl) (by rfl) (by rfl) (by rfl) (by rfl) (hX167f (d := d + 0) hA a1 hH) ?_
  rintro _ _ ⟨rfl, z9, rfl, fz9⟩
  rcases fz9 with fz9 | fz9
  ·
    refine hxj_zeq (by rfl) rfl (fun q10 => False.elim (by omega)) (fun q10 => ?_)
    refine hxa_aload_n (by rfl) rfl ?_
    refine hxa_get (v := .ref 396) (by rfl) (by rfl) (by rfl) rfl ?_
    refine hxa_bipush (by rfl) rfl ?_
    refine hxa_iload_n (by rfl) rfl ?_
    refine hxj_iadd (by rfl) hk_50 rfl (by omega) (by omega) (fun z11 ez11 => ?_)
    refine hxj_iald395 (by rfl) rfl (by omega) (by omega) hA (fun z12 ez12 fz12 => ?_)
    have hx12 : (A.2.1 395 (50 + a1.toNatClampNeg)).toInt = z12.toInt := by rw [← ez12, show z11.toNatClampNeg = 50 + a1.toNatClampNeg by have := hn_cn (j := z11) (by omega); have := hn_cn (j := a1) (by omega); omega]
    refine hxa_iconst (by rfl) rfl ?_
    refine hxj_cne (by rfl) rfl hk_1 (fun q13 => ?_) (fun q13 => ?_)
    ·
      refine hxa_iconst (by rfl) rfl ?_
      exact L26 (Int32.ofNat 0) (by omega) (by omega) (by omega) (by omega) (by omega) (by first | exact Or.inr ⟨hk_0, by rw [hx12]; omega⟩ | exact Or.inl ⟨hk_1, by rw [hx12]; omega⟩)
    ·
      refine hxa_iconst (by rfl) rfl ?_
      refine hxa_goto (by rfl) ?_
      exact L26 (Int32.ofNat 1) (by omega) (by omega) (by omega) (by omega) (by omega) (by first | exact Or.inr ⟨hk_0, by rw [hx12]; omega⟩ | exact Or.inl ⟨hk_1, by rw [hx12]; omega⟩)
  ·
    refine hxj_zeq (by rfl) rfl (fun q14 => ?_) (fun q14 => False.elim (by omega))
    refine hxa_iconst (by rfl) rfl ?_
    exact hxa_ireturn (by rfl) (by rfl) (hP _ _ ⟨(hJ.mono hA (by omega) (by omega)), _, rfl, Or.inr ⟨hk_0, by omega, rfl⟩⟩)
theorem hX191g {d : Nat} {N : Int} {A0 A : hs_A} (hA : hJ 0 N (N + 72) A0 A) (hN : N ≤ 900000) (a1 : Int32) (a2 : Int32) (p2 : 0 ≤ a2.toInt) (q2 : a2.toInt ≤ 1) {H : Int} (hH : (A.2.1 376 (A.1 367 18).toNatClampNeg).toInt = H) (uH : uf_H A) : hxC (d + 3) 191 hm_m191 [.ref 368, .int a1, .int a2] A (fun r A' => hJ 0 (N + 72) (N + 144) A0 A' ∧ ∃ z : Int32, r = some (.int z) ∧ ((z.toInt = 1 ∧ 0 ≤ a1.toInt ∧ a1.toInt < H ∧ a1.toInt ≤ 9 ∧ ¬ (¬ (A.2.1 395 (50 + a1.toNatClampNeg)).toInt = 1 ∧ a2.toInt = 0 ∨ (A.2.1 395 (50 + a1.toNatClampNeg)).toInt = 1 ∧ a2.toInt = 1) ∧ hDone A A' (fun k => if k = 50 + a1.toNatClampNeg then a2 else A.2.1 395 k)) ∨ (z.toInt = 0 ∧ (a1.toInt < 0 ∨ H ≤ a1.toInt ∨ (¬ (A.2.1 395 (50 + a1.toNatClampNeg)).toInt = 1 ∧ a2.toInt = 0 ∨ (A.2.1 395 (50 + a1.toNatClampNeg)).toInt = 1 ∧ a2.toInt = 1)) ∧ A' = A))) := hxC.of (by rfl) (hY191g hA hN a1 a2 p2 q2 hH uH (fun r A' h => h))
theorem hY192g {d : Nat} {N : Int} {A0 A : hs_A} (hA : hJ 0 N (N + 72) A0 A) (hN : N ≤ 900000) (a1 : Int32) {H : Int} (hH : (A.2.1 376 (A.1 367 18).toNatClampNeg).toInt = H) (uH : uf_H A) {P : Option Value → hs_A → Prop} (hP : ∀ (r : Option Value) (A' : hs_A), (hJ 0 (N + 72) (N + 144) A0 A' ∧ ∃ z : Int32, r = some (.int z) ∧ (((z.toInt = 1 ∧ 0 ≤ a1.toInt ∧ a1.toInt ≤ 255 ∧ ¬ H = 0) ∨ (z.toInt = 0 ∧ (a1.toInt < 0 ∨ 255 < a1.toInt ∨ H = 0))) ∧ (z.toInt = 1 → hDone A A' (fun k => if k = 71 then a1 else A.2.1 395 k)) ∧ (¬ z.toInt = 1 → A' = A))) → P r A') : hxa (d + 2) (some (.boolean)) hm_t192 0 [.ref 368, .int a1] [] A P := by
  have k0 := hk_0
  have k1 := hk_1
  refine hxa_iload_n (by rfl) rfl ?_
  refine hxa_call2 (by rfl) (by decide) (by rfl) (by rfl) (by rfl) (hX168f (d := d + 0)  a1) ?_
  rintro _ _ ⟨rfl, z1, rfl, fz1⟩
  rcases fz1 with fz1 | fz1
  ·
    refine hxj_zeq (by rfl) rfl (fun q2 => False.elim (by omega)) (fun q2 => ?_)
    refine hxa_aload_n (by rfl) rfl ?_
    refine hxa_get (v := .ref 377) (by rfl) (by rfl) (by rfl) rfl ?_
    refine hxa_aload_n (by rfl) rfl ?_
    refine hxj_getB (by rfl) (by rfl) (by rfl) hA (by rfl) (fun z3 ez3 fz3 gz3 => ?_)
    refine hxj_ialdB (by rfl) (by rfl) rfl (by omega) (by omega) hA (by rfl) (fun z4 ez4 fz4 gz4 => ?_)
    have hh := hH
    rw [ez3, ez4] at hh
    refine hxj_zne (by rfl) rfl (fun q5 => ?_) (fun q5 => ?_)
    ·
      refine hxa_aload_n (by rfl) rfl ?_
      refine hxa_call0 (by rfl) (by rfl) (by rfl) (by rfl) (by rfl) (by rfl) (uf_i171 uH (hX171g (d := d + 1) hA)) ?_
      rintro _ A6 ⟨⟨hA6, rfl, c6⟩, w6, H6⟩
      refine hxa_aload_n (by rfl) rfl ?_
      refine hxa_get (v := .ref 397) (by rfl) (by rfl) (by rfl) rfl ?_
      refine hxa_bipush (by rfl) rfl ?_
      refine hxa_iload_n (by rfl) rfl ?_
      refine hxj_iast396 (by rfl) hk_71 (by omega) (by omega) rfl hA6 (by omega) (fun A7 hA7 eA7 fA7 gA7 => ?_)
      refine hxa_aload_n (by rfl) rfl ?_
      refine hxa_call0 (by rfl) (by rfl) (by rfl) (by rfl) (by rfl) (by rfl) (hX190g (d := d + 0) hA7 (by omega) (H6.e (congrArg (fun q => q.2) gA7))) ?_
      rintro _ A8 ⟨hA8, rfl, D8⟩
      refine hxa_iconst (by rfl) rfl ?_
      exact hxa_ireturn (by rfl) (by rfl) (hP _ _ ⟨(hJ.mono hA8 (by omega) (by omega)), _, rfl, ⟨by omega, fun _ => D8.row w6 eA7 (fun i hi x => by rw [fA7, hup2 (fun w => hi w.1)]) (fun k hk => by rw [fA7, show (Int32.ofNat 71).toNatClampNeg = 71 from rfl]; by_cases q : k = 71; (rw [if_pos q, q, hup1]); (rw [if_neg q, hup2 (fun w => q w.2)]; exact c6 k hk)), fun q => absurd hk_1 q⟩⟩)
    ·
      refine hxa_iconst (by rfl) rfl ?_
      exact hxa_ireturn (by rfl) (by rfl) (hP _ _ ⟨(hJ.mono hA (by omega) (by omega)), _, rfl, ⟨by omega, fun q => False.elim (by omega), fun _ => rfl⟩⟩)
  ·
    refine hxj_zeq (by rfl) rfl (fun q9 => ?_) (fun q9 => False.elim (by omega))
    refine hxa_iconst (by rfl) rfl ?_
    exact hxa_ireturn (by rfl) (by rfl) (hP _ _ ⟨(hJ.mono hA (by omega) (by omega)), _, rfl, ⟨by omega, fun q => False.elim (by omega), fun _ => rfl⟩⟩)
theorem hX192g {d : Nat} {N : Int} {A0 A : hs_A} (hA : hJ 0 N (N + 72) A0 A) (hN : N ≤ 900000) (a1 : Int32) {H : Int} (hH : (A.2.1 376 (A.1 367 18).toNatClampNeg).toInt = H) (uH : uf_H A) : hxC (d + 3) 192 hm_m192 [.ref 368, .int a1] A (fun r A' => hJ 0 (N + 72) (N + 144) A0 A' ∧ ∃ z : Int32, r = some (.int z) ∧ (((z.toInt = 1 ∧ 0 ≤ a1.toInt ∧ a1.toInt ≤ 255 ∧ ¬ H = 0) ∨ (z.toInt = 0 ∧ (a1.toInt < 0 ∨ 255 < a1.toInt ∨ H = 0))) ∧ (z.toInt = 1 → hDone A A' (fun k => if k = 71 then a1 else A.2.1 395 k)) ∧ (¬ z.toInt = 1 → A' = A))) := hxC.of (by rfl) (hY192g hA hN a1 hH uH (fun r A' h => h))
theorem hY199g {d : Nat} {N : Int} {A0 A : hs_A} (hA : hJ 0 N (N + 72) A0 A) (hN : N ≤ 900000)   {P : Option Value → hs_A → Prop} (hP : ∀ (r : Option Value) (A' : hs_A), (hJ 0 (N + 72) (N + 144) A0 A' ∧ ∃ z : Int32, r = some (.int z) ∧ ((z.toInt = 1 ∧ ∃ u : Nat, (A.1 367 51).toInt = (u : Int) + 1 ∧ (A'.1 367 51).toInt = (u : Int) ∧ ∀ k : Nat, k < 73 → A'.2.1 395 k = A.2.1 399 (73 * u + k)) ∨ (z.toInt = 0 ∧ (A.1 367 51).toInt = 0 ∧ A' = A))) → P r A') : hxa (d + 0) (some (.boolean)) hm_t199 0 [.ref 368, .retAddr 0] [] A P := by
  have k0 := hk_0
  have k1 := hk_1
  have L21 : ∀ (m21 : Nat) (w21_0 : Int32) (x21_1 : Int32) (Ac21 : hs_A) (hAc21 : hJ 0 N (N + 72) A0 Ac21) (ek21_0 : Ac21.1 367 51 = w21_0) (bx21_1 : 0 ≤ x21_1.toInt) (cx21_1 : x21_1.toInt ≤ 73) (bw21_0 : 0 ≤ w21_0.toInt) (cw21_0 : w21_0.toInt ≤ 39) (hm21 : 73 - x21_1.toInt < (m21 : Int)) (iv21 : (∀ k : Nat, (k : Int) < x21_1.toInt → Ac21.2.1 395 k = A.2.1 399 (73 * w21_0.toNatClampNeg + k)) ∧ (∀ k : Nat, Ac21.2.1 399 k = A.2.1 399 k) ∧ (A.1 367 51).toInt = w21_0.toInt + 1), hxa (d + 0) (some (.boolean)) hm_t199 21 [.ref 368, .int x21_1] [] Ac21 P := by
    intro m21
    induction m21 with
    | zero => intro w21_0 x21_1 Ac21 hAc21 ek21_0 bx21_1 cx21_1 bw21_0 cw21_0 hm21 iv21;  exact False.elim (by omega)
    | succ m21 ih21 =>
      intro w21_0 x21_1 Ac21 hAc21 ek21_0 bx21_1 cx21_1 bw21_0 cw21_0 hm21 iv21
      refine hxa_iload_n (by rfl) rfl ?_
      refine hxa_bipush (by rfl) rfl ?_
      refine hxj_cge (by rfl) rfl hk_73 (fun q1 => ?_) (fun q1 => ?_)
      ·
        refine hxa_iconst (by rfl) rfl ?_
        exact hxa_ireturn (by rfl) (by rfl) (hP _ _ ⟨(hJ.mono hAc21 (by omega) (by omega)), _, rfl, Or.inl ⟨hk_1, w21_0.toNatClampNeg, by have := hn_cn (j := w21_0) (by omega); omega, by rw [ek21_0]; have := hn_cn (j := w21_0) (by omega); omega, fun k hk => iv21.1 k (by omega)⟩⟩)
      ·
        refine hxa_aload_n (by rfl) rfl ?_
        refine hxa_get (v := .ref 396) (by rfl) (by rfl) (by rfl) rfl ?_
        refine hxa_iload_n (by rfl) rfl ?_
        refine hxa_aload_n (by rfl) rfl ?_
        refine hxa_get (v := .ref 400) (by rfl) (by rfl) (by rfl) rfl ?_
        refine hxa_bipush (by rfl) rfl ?_
        refine hxa_aload_n (by rfl) rfl ?_
        refine hxj_getK (by rfl) (by rfl) (by rfl) ek21_0 ?_
        refine hxj_imul (by rfl) hk_73 rfl (by omega) (by omega) (fun z2 ez2 => ?_)
        refine hxa_iload_n (by rfl) rfl ?_
        refine hxj_iadd (by rfl) rfl rfl (by omega) (by omega) (fun z3 ez3 => ?_)
        refine hxj_iald399 (by rfl) rfl (by omega) (by omega) hAc21 (fun z4 ez4 fz4 => ?_)
        refine hxj_iast395 (by rfl) rfl (by omega) (by omega) rfl hAc21 (by omega) (fun A5 hA5 eA5 fA5 gA5 => ?_)
        refine hxj_iinc (by rfl) rfl rfl hk_1 (by omega) (by omega) (fun _ => rfl) (fun z6 ez6 => ?_)
        refine hxa_goto (by rfl) ?_
        exact ih21 w21_0 z6 A5 hA5 (hkA eA5 ek21_0) (by omega) (by omega) (by omega) (by omega) (by omega) (⟨fun k hk => by rw [fA5]; have hc1 := hn_cn (j := x21_1) (by omega); have hc3 := hn_cn (j := z3) (by omega); have hcw := hn_cn (j := w21_0) (by omega); by_cases q : k = x21_1.toNatClampNeg; (rw [q, hup1, ← ez4, iv21.2.1, show z3.toNatClampNeg = 73 * w21_0.toNatClampNeg + x21_1.toNatClampNeg by omega]); (rw [hup2 (fun w => q w.2)]; exact iv21.1 k (by omega)), fun k => by rw [fA5, hup2 (by omega)]; exact iv21.2.1 k, iv21.2.2⟩)
  refine hxa_aload_n (by rfl) rfl ?_
  refine hxj_getB (by rfl) (by rfl) (by rfl) hA (by rfl) (fun z7 ez7 fz7 gz7 => ?_)
  refine hxj_zne (by rfl) rfl (fun q8 => ?_) (fun q8 => ?_)
  ·
    refine hxa_aload_n (by rfl) rfl ?_
    refine hxa_dupR (by rfl) ?_
    refine hxj_getK (by rfl) (by rfl) (by rfl) ez7 ?_
    refine hxa_iconst (by rfl) rfl ?_
    refine hxj_isub (by rfl) rfl hk_1 (by omega) (by omega) (fun z9 ez9 => ?_)
    refine hxj_putI (by rfl) (by rfl) (by rfl) (by rfl) hA (hbok (by rfl) rfl (by omega) (by omega)) (by rfl) (by rfl) (fun A10 hA10 eA10 fA10 => ?_)
    refine hxa_iconst (by rfl) rfl ?_
    refine hxa_s1 (by rfl) (Or.inl ⟨_, rfl, rfl⟩) rfl ?_
    exact L21 (Int.toNat (73 - 0) + 1) z9 (Int32.ofNat 0) A10 hA10 (hkS eA10) (by omega) (by omega) (by omega) (by omega) (by omega) (⟨fun k hk => absurd hk (by omega), fun k => by rw [fA10], by rw [ez7]; omega⟩)
  ·
    refine hxa_iconst (by rfl) rfl ?_
    exact hxa_ireturn (by rfl) (by rfl) (hP _ _ ⟨(hJ.mono hA (by omega) (by omega)), _, rfl, Or.inr ⟨hk_0, by rw [ez7]; omega, rfl⟩⟩)
theorem hX199g {d : Nat} {N : Int} {A0 A : hs_A} (hA : hJ 0 N (N + 72) A0 A) (hN : N ≤ 900000)   : hxC (d + 1) 199 hm_m199 [.ref 368] A (fun r A' => hJ 0 (N + 72) (N + 144) A0 A' ∧ ∃ z : Int32, r = some (.int z) ∧ ((z.toInt = 1 ∧ ∃ u : Nat, (A.1 367 51).toInt = (u : Int) + 1 ∧ (A'.1 367 51).toInt = (u : Int) ∧ ∀ k : Nat, k < 73 → A'.2.1 395 k = A.2.1 399 (73 * u + k)) ∨ (z.toInt = 0 ∧ (A.1 367 51).toInt = 0 ∧ A' = A))) := hxC.of (by rfl) (hY199g hA hN  (fun r A' h => h))
/-! AN HOUR: what of the row it leaves alone -/
def hRk (A A' : hs_A) : Prop := ∀ k : Nat, (k < 30 ∨ 50 ≤ k ∧ k < 60 ∨ k = 70) → A'.2.1 396 k = A.2.1 396 k
theorem hRk.st {A Ac A' : hs_A} {c j : Nat} {v : Int32} (h : hRk A Ac) (f : A'.2.1 = hs_up Ac.2.1 c j v) (hc : ¬ c = 396) : hRk A A' := fun k hk => by
  rw [f, hup2 (fun w => hc w.1.symm)]
  exact h k hk
theorem hRk.s6 {A Ac A' : hs_A} {z v : Int32} (h : hRk A Ac) (f : A'.2.1 = hs_up Ac.2.1 396 z.toNatClampNeg v) (h0 : 0 ≤ z.toInt) (hj : 30 ≤ z.toInt ∧ z.toInt < 50 ∨ 60 ≤ z.toInt ∧ ¬ z.toInt = 70) : hRk A A' := fun k hk => by
  have c := hn_cn (j := z) h0
  rw [f, hup2 (fun w => by omega)]
  exact h k hk
theorem hRk.pu {A Ac A' : hs_A} (h : hRk A Ac) (f : A'.2 = Ac.2) : hRk A A' := fun k hk => by
  rw [f]
  exact h k hk
theorem hRk.w {W : Nat} {A Ac A' : hs_A} (h : hRk A Ac) (w : uf_W W Ac A') (b : Nat.testBit W (ug_g 396) = false) : hRk A A' := fun k hk => (w.2.1 396 _ _ k rfl (by omega) b).trans (h k hk)
theorem uf_j180 {d : Nat} {A : hs_A} {P : Option Value → hs_A → Prop} {a1 : Int32} (hH : uf_H A) (w : hxC d 180 hm_m180 [.ref 368, .int a1] A P) : hxC d 180 hm_m180 [.ref 368, .int a1] A (fun r A' => P r A' ∧ uf_W ug_x206.2.2.2.1 A A' ∧ uf_H A') := uf_X (X := ug_x206) (j := 206) rfl rfl (ug_L.cons uf_r1 (uf_int uf_nil)) hH w
theorem uf_j181 {d : Nat} {A : hs_A} {P : Option Value → hs_A → Prop} {a1 a2 a3 : Int32} (hH : uf_H A) (w : hxC d 181 hm_m181 [.ref 368, .int a1, .int a2, .int a3] A P) : hxC d 181 hm_m181 [.ref 368, .int a1, .int a2, .int a3] A (fun r A' => P r A' ∧ uf_W ug_x200.2.2.2.1 A A' ∧ uf_H A') := uf_X (X := ug_x200) (j := 200) rfl rfl (ug_L.cons uf_r1 (uf_int (uf_int (uf_int uf_nil)))) hH w
theorem uf_j184 {d : Nat} {A : hs_A} {P : Option Value → hs_A → Prop} (hH : uf_H A) (w : hxC d 184 hm_m184 [.ref 368] A P) : hxC d 184 hm_m184 [.ref 368] A (fun r A' => P r A' ∧ uf_W ug_x202.2.2.2.1 A A' ∧ uf_H A') := uf_X (X := ug_x202) (j := 202) rfl rfl (ug_L.cons uf_r1 uf_nil) hH w
theorem uf_j185 {d : Nat} {A : hs_A} {P : Option Value → hs_A → Prop} {a1 : Int32} (hH : uf_H A) (w : hxC d 185 hm_m185 [.ref 368, .int a1] A P) : hxC d 185 hm_m185 [.ref 368, .int a1] A (fun r A' => P r A' ∧ uf_W ug_x159.2.2.2.1 A A' ∧ uf_H A') := uf_X (X := ug_x159) (j := 159) rfl rfl (ug_L.cons uf_r1 (uf_int uf_nil)) hH w
def hRq (A A' : hs_A) : Prop := (∀ k : Nat, (k < 30 ∨ 50 ≤ k ∧ k < 60) → A'.2.1 396 k = A.2.1 396 k) ∧ (A'.2.1 396 70).toInt = (A.2.1 396 70).toInt + 1
theorem hRq_mk {A Ac A18 A19 : hs_A} {z15 z17 v : Int32} (h : hRk A Ac) (e15 : Ac.2.1 396 (Int32.ofNat 70).toNatClampNeg = z15) (e17 : z17.toInt = z15.toInt + 1) (f18 : A18.2.1 = hs_up Ac.2.1 396 (Int32.ofNat 70).toNatClampNeg z17) (f19 : A19.2.1 = hs_up A18.2.1 396 (Int32.ofNat 71).toNatClampNeg v) : hRq A A19 := by
  rw [show (Int32.ofNat 70).toNatClampNeg = 70 from rfl] at e15 f18
  rw [show (Int32.ofNat 71).toNatClampNeg = 71 from rfl] at f19
  refine ⟨fun k hk => ?_, ?_⟩
  · rw [f19, hup2 (fun w => by omega), f18, hup2 (fun w => by omega)]
    exact h k (by omega)
  · rw [f19, hup2 (by omega), f18, hup1, ← h 70 (by omega), e15]
    exact e17
theorem hY184g {d : Nat} {Bn Br : Int} {A0 A : hs_A} (hA : hJ 0 Bn Br A0 A) (hBr : Br ≤ 1000000)  (uH : uf_H A) {P : Option Value → hs_A → Prop} (hP : ∀ (r : Option Value) (A' : hs_A), (hJ 0 Bn (Br + 1) A0 A' ∧ r = none ∧ (hRq A A')) → P r A') : hxa (d + 4) none hm_t184 0 [.ref 368, .retAddr 0] [] A P := by
  have kk72 := hk_72
  have kk70 := hk_70
  have kk71 := hk_71
  have rA : hRk A A := fun _ _ => rfl
  have uA : uf_H A := uH
  have k0 := hk_0
  have L127 : ∀ (m127 : Nat) (x127_1 : Int32) (Ac127 : hs_A) (hAc127 : hJ 0 Bn Br A0 Ac127) (bx127_1 : 0 ≤ x127_1.toInt) (cx127_1 : x127_1.toInt ≤ 10) (hm127 : 10 - x127_1.toInt < (m127 : Int)) (iv127 : hRk A Ac127 ∧ uf_H Ac127), hxa (d + 4) none hm_t184 127 [.ref 368, .int x127_1] [] Ac127 P := by
    intro m127
    induction m127 with
    | zero => intro x127_1 Ac127 hAc127 bx127_1 cx127_1 hm127 iv127;  exact False.elim (by omega)
    | succ m127 ih127 =>
      intro x127_1 Ac127 hAc127 bx127_1 cx127_1 hm127 iv127
      have rAc127 := iv127.1
      have uAc127 := iv127.2
      have L205 : ∀ (Ac205 : hs_A) (hAc205 : hJ 0 Bn Br A0 Ac205) (cx127_1 : x127_1.toInt ≤ 9) (iv205 : hRk A Ac205 ∧ uf_H Ac205), hxa (d + 4) none hm_t184 205 [.ref 368, .int x127_1] [] Ac205 P := by
        intro Ac205 hAc205 cx127_1 iv205
        have rAc205 := iv205.1
        have uAc205 := iv205.2
        refine hxa_aload_n (by rfl) rfl ?_
        refine hxa_get (v := .ref 399) (by rfl) (by rfl) (by rfl) rfl ?_
        refine hxa_iload_n (by rfl) rfl ?_
        refine hxj_zald (by rfl) (by rfl) rfl (by omega) (by omega) (fun z1 ez1 => ?_)
        refine hxj_zne (by rfl) rfl (fun q2 => ?_) (fun q2 => ?_)
        ·
          refine hxa_aload_n (by rfl) rfl ?_
          refine hxa_get (v := .ref 397) (by rfl) (by rfl) (by rfl) rfl ?_
          refine hxa_bipush (by rfl) rfl ?_
          refine hxa_iload_n (by rfl) rfl ?_
          refine hxj_iadd (by rfl) hk_60 rfl (by omega) (by omega) (fun z3 ez3 => ?_)
          refine hxa_aload_n (by rfl) rfl ?_
          refine hxa_get (v := .ref 382) (by rfl) (by rfl) (by rfl) rfl ?_
          refine hxa_aload_n (by rfl) rfl ?_
          refine hxj_getB (by rfl) (by rfl) (by rfl) hAc205 (by rfl) (fun z4 ez4 fz4 gz4 => ?_)
          refine hxj_iald (by rfl) (by rfl) rfl (by omega) (by omega) (fun z5 ez5 => ?_)
          refine hxj_iast396 (by rfl) rfl (by omega) (by omega) rfl hAc205 (by omega) (fun A6 hA6 eA6 fA6 gA6 => ?_)
          have rA6 : hRk A A6 := rAc205.s6 fA6 (by omega) (by omega)
          have uA6 : uf_H A6 := uAc205.e (congrArg (fun q => q.2) gA6)
          refine hxa_aload_n (by rfl) rfl ?_
          refine hxa_get (v := .ref 397) (by rfl) (by rfl) (by rfl) rfl ?_
          refine hxa_bipush (by rfl) rfl ?_
          refine hxa_dup2IR (by rfl) ?_
          refine hxj_iald396 (by rfl) hk_72 (by omega) (by omega) hA6 (fun z7 ez7 fz7 => ?_)
          refine hxa_iconst (by rfl) rfl ?_
          refine hxj_iaddU (by rfl) (fun z8 => ?_)
          refine hxj_iast396 (by rfl) hk_72 (by omega) (by omega) rfl hA6 (by omega) (fun A9 hA9 eA9 fA9 gA9 => ?_)
          have rA9 : hRk A A9 := rA6.s6 fA9 (by omega) (by omega)
          have uA9 : uf_H A9 := uA6.e (congrArg (fun q => q.2) gA9)
          refine hxj_iinc (by rfl) rfl rfl hk_1 (by omega) (by omega) (fun _ => rfl) (fun z10 ez10 => ?_)
          refine hxa_goto (by rfl) ?_
          exact ih127 z10 A9 hA9 (by omega) (by omega) (by omega) ⟨rA9, uA9⟩
        ·
          refine hxa_goto (by rfl) ?_
          refine hxj_iinc (by rfl) rfl rfl hk_1 (by omega) (by omega) (fun _ => rfl) (fun z11 ez11 => ?_)
          refine hxa_goto (by rfl) ?_
          exact ih127 z11 Ac205 hAc205 (by omega) (by omega) (by omega) ⟨rAc205, uAc205⟩
      refine hxa_iload_n (by rfl) rfl ?_
      refine hxa_aload_n (by rfl) rfl ?_
      refine hxa_get (v := .ref 377) (by rfl) (by rfl) (by rfl) rfl ?_
      refine hxa_aload_n (by rfl) rfl ?_
      refine hxj_getB (by rfl) (by rfl) (by rfl) hAc127 (by rfl) (fun z12 ez12 fz12 gz12 => ?_)
      refine hxj_ialdB (by rfl) (by rfl) rfl (by omega) (by omega) hAc127 (by rfl) (fun z13 ez13 fz13 gz13 => ?_)
      refine hxj_cge (by rfl) rfl rfl (fun q14 => ?_) (fun q14 => ?_)
      ·
        refine hxa_aload_n (by rfl) rfl ?_
        refine hxa_get (v := .ref 397) (by rfl) (by rfl) (by rfl) rfl ?_
        refine hxa_bipush (by rfl) rfl ?_
        refine hxa_dup2IR (by rfl) ?_
        refine hxj_iald396 (by rfl) hk_70 (by omega) (by omega) hAc127 (fun z15 ez15 fz15 => ?_)
        have H16 : hJ 0 Bn (Br + 1) A0 Ac127 := hJ.mono hAc127 (by omega) (by omega)
        refine hxa_iconst (by rfl) rfl ?_
        refine hxj_iadd (by rfl) rfl hk_1 (by omega) (by omega) (fun z17 ez17 => ?_)
        refine hxj_iast396 (by rfl) hk_70 (by omega) (by omega) rfl H16 (by omega) (fun A18 hA18 eA18 fA18 gA18 => ?_)
        refine hxa_aload_n (by rfl) rfl ?_
        refine hxa_get (v := .ref 397) (by rfl) (by rfl) (by rfl) rfl ?_
        refine hxa_bipush (by rfl) rfl ?_
        refine hxa_iconst (by rfl) rfl ?_
        refine hxj_iast396 (by rfl) hk_71 (by omega) (by omega) hk_4294967295 hA18 (by omega) (fun A19 hA19 eA19 fA19 gA19 => ?_)
        exact hxa_return (by rfl) rfl (hP _ _ ⟨hA19, rfl, hRq_mk rAc127 ez15 ez17 fA18 fA19⟩)
      ·
        refine hxa_aload_n (by rfl) rfl ?_
        refine hxa_get (v := .ref 397) (by rfl) (by rfl) (by rfl) rfl ?_
        refine hxa_bipush (by rfl) rfl ?_
        refine hxa_iload_n (by rfl) rfl ?_
        refine hxj_iadd (by rfl) hk_30 rfl (by omega) (by omega) (fun z20 ez20 => ?_)
        refine hxa_aload_n (by rfl) rfl ?_
        refine hxa_get (v := .ref 398) (by rfl) (by rfl) (by rfl) rfl ?_
        refine hxa_iload_n (by rfl) rfl ?_
        refine hxj_iald (by rfl) (by rfl) rfl (by omega) (by omega) (fun z21 ez21 => ?_)
        refine hxj_iast396 (by rfl) rfl (by omega) (by omega) rfl hAc127 (by omega) (fun A22 hA22 eA22 fA22 gA22 => ?_)
        have rA22 : hRk A A22 := rAc127.s6 fA22 (by omega) (by omega)
        have uA22 : uf_H A22 := uAc127.e (congrArg (fun q => q.2) gA22)
        refine hxa_aload_n (by rfl) rfl ?_
        refine hxa_get (v := .ref 397) (by rfl) (by rfl) (by rfl) rfl ?_
        refine hxa_bipush (by rfl) rfl ?_
        refine hxa_iload_n (by rfl) rfl ?_
        refine hxj_iadd (by rfl) hk_40 rfl (by omega) (by omega) (fun z23 ez23 => ?_)
        refine hxa_dup2IR (by rfl) ?_
        refine hxj_iald396 (by rfl) rfl (by omega) (by omega) hA22 (fun z24 ez24 fz24 => ?_)
        refine hxa_aload_n (by rfl) rfl ?_
        refine hxa_get (v := .ref 398) (by rfl) (by rfl) (by rfl) rfl ?_
        refine hxa_iload_n (by rfl) rfl ?_
        refine hxj_iald (by rfl) (by rfl) rfl (by omega) (by omega) (fun z25 ez25 => ?_)
        refine hxa_aload_n (by rfl) rfl ?_
        refine hxa_get (v := .ref 397) (by rfl) (by rfl) (by rfl) rfl ?_
        refine hxa_iload_n (by rfl) rfl ?_
        refine hxj_iald396 (by rfl) rfl (by omega) (by omega) hA22 (fun z26 ez26 fz26 => ?_)
        refine hxj_iandU (by rfl) (fun z27 => ?_)
        refine hxj_iorU (by rfl) (fun z28 => ?_)
        refine hxj_iast396 (by rfl) rfl (by omega) (by omega) rfl hA22 (by omega) (fun A29 hA29 eA29 fA29 gA29 => ?_)
        have rA29 : hRk A A29 := rA22.s6 fA29 (by omega) (by omega)
        have uA29 : uf_H A29 := uA22.e (congrArg (fun q => q.2) gA29)
        refine hxa_aload_n (by rfl) rfl ?_
        refine hxa_get (v := .ref 397) (by rfl) (by rfl) (by rfl) rfl ?_
        refine hxa_bipush (by rfl) rfl ?_
        refine hxa_iload_n (by rfl) rfl ?_
        refine hxj_iadd (by rfl) hk_60 rfl (by omega) (by omega) (fun z30 ez30 => ?_)
        refine hxj_iald396 (by rfl) rfl (by omega) (by omega) hA29 (fun z31 ez31 fz31 => ?_)
        refine hxj_zle (by rfl) rfl (fun q32 => ?_) (fun q32 => ?_)
        ·
          exact L205 A29 hA29 (by omega) ⟨rA29, uA29⟩
        ·
          refine hxa_aload_n (by rfl) rfl ?_
          refine hxa_get (v := .ref 397) (by rfl) (by rfl) (by rfl) rfl ?_
          refine hxa_bipush (by rfl) rfl ?_
          refine hxa_iload_n (by rfl) rfl ?_
          refine hxj_iadd (by rfl) hk_60 rfl (by omega) (by omega) (fun z33 ez33 => ?_)
          refine hxa_dup2IR (by rfl) ?_
          refine hxj_iald396 (by rfl) rfl (by omega) (by omega) hA29 (fun z34 ez34 fz34 => ?_)
          refine hxa_iconst (by rfl) rfl ?_
          refine hxj_isubU (by rfl) (fun z35 => ?_)
          refine hxj_iast396 (by rfl) rfl (by omega) (by omega) rfl hA29 (by omega) (fun A36 hA36 eA36 fA36 gA36 => ?_)
          have rA36 : hRk A A36 := rA29.s6 fA36 (by omega) (by omega)
          have uA36 : uf_H A36 := uA29.e (congrArg (fun q => q.2) gA36)
          exact L205 A36 hA36 (by omega) ⟨rA36, uA36⟩
  have L2 : ∀ (m2 : Nat) (x2_1 : Int32) (Ac2 : hs_A) (hAc2 : hJ 0 Bn Br A0 Ac2) (bx2_1 : 0 ≤ x2_1.toInt) (cx2_1 : x2_1.toInt ≤ 10) (hm2 : 10 - x2_1.toInt < (m2 : Int)) (iv2 : hRk A Ac2 ∧ uf_H Ac2), hxa (d + 4) none hm_t184 2 [.ref 368, .int x2_1] [] Ac2 P := by
    intro m2
    induction m2 with
    | zero => intro x2_1 Ac2 hAc2 bx2_1 cx2_1 hm2 iv2;  exact False.elim (by omega)
    | succ m2 ih2 =>
      intro x2_1 Ac2 hAc2 bx2_1 cx2_1 hm2 iv2
      have rAc2 := iv2.1
      have uAc2 := iv2.2
      have L64 : ∀ (y64_1 : Int32) (y64_2 : Int32) (Ac64 : hs_A) (hAc64 : hJ 0 Bn Br A0 Ac64) (by64_1 : 0 ≤ y64_1.toInt) (cy64_1 : y64_1.toInt ≤ 9) (cx2_1 : x2_1.toInt ≤ 9) (iv64 : hRk A Ac64 ∧ uf_H Ac64), hxa (d + 4) none hm_t184 64 [.ref 368, .int x2_1] [.int y64_2, .int y64_1, .ref 398] Ac64 P := by
        intro y64_1 y64_2 Ac64 hAc64 by64_1 cy64_1 cx2_1 iv64
        have rAc64 := iv64.1
        have uAc64 := iv64.2
        refine hxj_iast (by rfl) (by rfl) rfl (by omega) (by omega) hAc64 (hbokN (by rfl)) (by rfl) (by rfl) (fun A37 hA37 eA37 fA37 gA37 => ?_)
        have rA37 : hRk A A37 := rAc64.st fA37 (by omega)
        have uA37 : uf_H A37 := uAc64.e (congrArg (fun q => q.2) gA37)
        refine hxa_aload_n (by rfl) rfl ?_
        refine hxa_get (v := .ref 399) (by rfl) (by rfl) (by rfl) rfl ?_
        refine hxa_iload_n (by rfl) rfl ?_
        refine hxa_aload_n (by rfl) rfl ?_
        refine hxj_getI (by rfl) (by rfl) (by rfl) (fun z38 ez38 => ?_)
        refine hxj_zne (by rfl) rfl (fun q39 => ?_) (fun q39 => ?_)
        ·
          refine hxa_iconst (by rfl) rfl ?_
          refine hxj_zast (by rfl) (by rfl) rfl (by omega) (by omega) hk_0 (by omega) (by omega) hA37 (hbokN (by rfl)) (by rfl) (by rfl) (fun A40 hA40 eA40 fA40 gA40 => ?_)
          have rA40 : hRk A A40 := rA37.st fA40 (by omega)
          have uA40 : uf_H A40 := uA37.e (congrArg (fun q => q.2) gA40)
          refine hxj_iinc (by rfl) rfl rfl hk_1 (by omega) (by omega) (fun _ => rfl) (fun z41 ez41 => ?_)
          refine hxa_goto (by rfl) ?_
          exact ih2 z41 A40 hA40 (by omega) (by omega) (by omega) ⟨rA40, uA40⟩
        ·
          refine hxa_aload_n (by rfl) rfl ?_
          refine hxa_get (v := .ref 397) (by rfl) (by rfl) (by rfl) rfl ?_
          refine hxa_bipush (by rfl) rfl ?_
          refine hxa_iload_n (by rfl) rfl ?_
          refine hxj_iadd (by rfl) hk_60 rfl (by omega) (by omega) (fun z42 ez42 => ?_)
          refine hxj_iald396 (by rfl) rfl (by omega) (by omega) hA37 (fun z43 ez43 fz43 => ?_)
          refine hxj_zne (by rfl) rfl (fun q44 => ?_) (fun q44 => ?_)
          ·
            refine hxa_iconst (by rfl) rfl ?_
            refine hxj_zast (by rfl) (by rfl) rfl (by omega) (by omega) hk_0 (by omega) (by omega) hA37 (hbokN (by rfl)) (by rfl) (by rfl) (fun A45 hA45 eA45 fA45 gA45 => ?_)
            have rA45 : hRk A A45 := rA37.st fA45 (by omega)
            have uA45 : uf_H A45 := uA37.e (congrArg (fun q => q.2) gA45)
            refine hxj_iinc (by rfl) rfl rfl hk_1 (by omega) (by omega) (fun _ => rfl) (fun z46 ez46 => ?_)
            refine hxa_goto (by rfl) ?_
            exact ih2 z46 A45 hA45 (by omega) (by omega) (by omega) ⟨rA45, uA45⟩
          ·
            refine hxa_aload_n (by rfl) rfl ?_
            refine hxa_bipush (by rfl) rfl ?_
            refine hxa_aload_n (by rfl) rfl ?_
            refine hxa_get (v := .ref 397) (by rfl) (by rfl) (by rfl) rfl ?_
            refine hxa_bipush (by rfl) rfl ?_
            refine hxj_iald396 (by rfl) hk_70 (by omega) (by omega) hA37 (fun z47 ez47 fz47 => ?_)
            refine hxj_imulU (by rfl) (fun z48 => ?_)
            refine hxa_iload_n (by rfl) rfl ?_
            refine hxj_iaddU (by rfl) (fun z49 => ?_)
            refine hxa_call0 (by rfl) (by rfl) (by rfl) (by rfl) (by rfl) (by rfl) (hX174 (d := d + 2) hA37 z49) ?_
            rintro _ _ ⟨rfl, z50, rfl⟩
            refine hxa_aload_n (by rfl) rfl ?_
            refine hxa_iload_n (by rfl) rfl ?_
            refine hxa_call0 (by rfl) (by rfl) (by rfl) (by rfl) (by rfl) (by rfl) (uf_j180 uA37 (hX180 (d := d + 1) hA37 x2_1 (by omega) (by omega))) ?_
            rintro _ A51 ⟨⟨hA51, z52, rfl⟩, wA51, HA51⟩
            have rA51 : hRk A A51 := rA37.w wA51 (by decide +kernel)
            have uA51 : uf_H A51 := HA51
            have rgz50 := hn_rng z50
            have rgz52 := hn_rng z52
            refine hxj_cge (by rfl) rfl rfl (fun q53 => ?_) (fun q53 => ?_)
            ·
              refine hxa_iconst (by rfl) rfl ?_
              refine hxj_zast (by rfl) (by rfl) rfl (by omega) (by omega) hk_0 (by omega) (by omega) hA51 (hbokN (by rfl)) (by rfl) (by rfl) (fun A54 hA54 eA54 fA54 gA54 => ?_)
              have rA54 : hRk A A54 := rA51.st fA54 (by omega)
              have uA54 : uf_H A54 := uA51.e (congrArg (fun q => q.2) gA54)
              refine hxj_iinc (by rfl) rfl rfl hk_1 (by omega) (by omega) (fun _ => rfl) (fun z55 ez55 => ?_)
              refine hxa_goto (by rfl) ?_
              exact ih2 z55 A54 hA54 (by omega) (by omega) (by omega) ⟨rA54, uA54⟩
            ·
              refine hxa_iconst (by rfl) rfl ?_
              refine hxa_goto (by rfl) ?_
              refine hxj_zast (by rfl) (by rfl) rfl (by omega) (by omega) hk_1 (by omega) (by omega) hA51 (hbokN (by rfl)) (by rfl) (by rfl) (fun A56 hA56 eA56 fA56 gA56 => ?_)
              have rA56 : hRk A A56 := rA51.st fA56 (by omega)
              have uA56 : uf_H A56 := uA51.e (congrArg (fun q => q.2) gA56)
              refine hxj_iinc (by rfl) rfl rfl hk_1 (by omega) (by omega) (fun _ => rfl) (fun z57 ez57 => ?_)
              refine hxa_goto (by rfl) ?_
              exact ih2 z57 A56 hA56 (by omega) (by omega) (by omega) ⟨rA56, uA56⟩
      refine hxa_iload_n (by rfl) rfl ?_
      refine hxa_aload_n (by rfl) rfl ?_
      refine hxa_get (v := .ref 377) (by rfl) (by rfl) (by rfl) rfl ?_
      refine hxa_aload_n (by rfl) rfl ?_
      refine hxj_getB (by rfl) (by rfl) (by rfl) hAc2 (by rfl) (fun z58 ez58 fz58 gz58 => ?_)
      refine hxj_ialdB (by rfl) (by rfl) rfl (by omega) (by omega) hAc2 (by rfl) (fun z59 ez59 fz59 gz59 => ?_)
      refine hxj_cge (by rfl) rfl rfl (fun q60 => ?_) (fun q60 => ?_)
      ·
        refine hxa_iconst (by rfl) rfl ?_
        refine hxa_s1 (by rfl) (Or.inl ⟨_, rfl, rfl⟩) rfl ?_
        exact L127 (Int.toNat (10 - 0) + 1) (Int32.ofNat 0) Ac2 hAc2 (by omega) (by omega) (by omega) ⟨rAc2, uAc2⟩
      ·
        refine hxa_aload_n (by rfl) rfl ?_
        refine hxa_get (v := .ref 398) (by rfl) (by rfl) (by rfl) rfl ?_
        refine hxa_iload_n (by rfl) rfl ?_
        refine hxa_aload_n (by rfl) rfl ?_
        refine hxa_iload_n (by rfl) rfl ?_
        refine hxa_call0 (by rfl) (by rfl) (by rfl) (by rfl) (by rfl) (by rfl) (hX182 (d := d + 3) hAc2 x2_1 (by omega) (by omega)) ?_
        rintro _ _ ⟨rfl, z61, rfl, fz61⟩
        refine hxj_zne (by rfl) rfl (fun q62 => ?_) (fun q62 => ?_)
        ·
          refine hxa_iload_n (by rfl) rfl ?_
          refine hxj_zne (by rfl) rfl (fun q63 => ?_) (fun q63 => ?_)
          ·
            refine hxa_aload_n (by rfl) rfl ?_
            refine hxa_iload_n (by rfl) rfl ?_
            refine hxa_aload_n (by rfl) rfl ?_
            refine hxa_get (v := .ref 397) (by rfl) (by rfl) (by rfl) rfl ?_
            refine hxa_bipush (by rfl) rfl ?_
            refine hxa_iload_n (by rfl) rfl ?_
            refine hxj_iadd (by rfl) hk_29 rfl (by omega) (by omega) (fun z64 ez64 => ?_)
            refine hxj_iald396 (by rfl) rfl (by omega) (by omega) hAc2 (fun z65 ez65 fz65 => ?_)
            refine hxa_aload_n (by rfl) rfl ?_
            refine hxa_get (v := .ref 397) (by rfl) (by rfl) (by rfl) rfl ?_
            refine hxa_bipush (by rfl) rfl ?_
            refine hxj_iald396 (by rfl) hk_70 (by omega) (by omega) hAc2 (fun z66 ez66 fz66 => ?_)
            refine hxa_call0 (by rfl) (by rfl) (by rfl) (by rfl) (by rfl) (by rfl) (uf_j181 uAc2 (hX181 (d := d + 0) hAc2 x2_1 (by omega) (by omega) z65 z66)) ?_
            rintro _ A67 ⟨⟨hA67, z68, rfl, fz68⟩, wA67, HA67⟩
            have rA67 : hRk A A67 := rAc2.w wA67 (by decide +kernel)
            have uA67 : uf_H A67 := HA67
            exact L64 x2_1 z68 A67 hA67 (by omega) (by omega) (by omega) ⟨rA67, uA67⟩
          ·
            refine hxa_aload_n (by rfl) rfl ?_
            refine hxa_call0 (by rfl) (by rfl) (by rfl) (by rfl) (by rfl) (by rfl) (hX183 (d := d + 3) hAc2 ) ?_
            rintro _ _ ⟨rfl, z69, rfl⟩
            refine hxa_goto (by rfl) ?_
            exact L64 x2_1 z69 Ac2 hAc2 (by omega) (by omega) (by omega) ⟨rAc2, uAc2⟩
        ·
          refine hxa_iconst (by rfl) rfl ?_
          refine hxa_goto (by rfl) ?_
          exact L64 x2_1 (Int32.ofNat 0) Ac2 hAc2 (by omega) (by omega) (by omega) ⟨rAc2, uAc2⟩
  refine hxa_iconst (by rfl) rfl ?_
  refine hxa_s1 (by rfl) (Or.inl ⟨_, rfl, rfl⟩) rfl ?_
  exact L2 (Int.toNat (10 - 0) + 1) (Int32.ofNat 0) A hA (by omega) (by omega) (by omega) ⟨rA, uA⟩
theorem hX184g {d : Nat} {Bn Br : Int} {A0 A : hs_A} (hA : hJ 0 Bn Br A0 A) (hBr : Br ≤ 1000000)  (uH : uf_H A) : hxC (d + 5) 184 hm_m184 [.ref 368] A (fun r A' => hJ 0 Bn (Br + 1) A0 A' ∧ r = none ∧ (hRq A A')) := hxC.of (by rfl) (hY184g hA hBr uH (fun r A' h => h))
def hRn (n : Int) (A A' : hs_A) : Prop := (∀ k : Nat, (k < 30 ∨ 50 ≤ k ∧ k < 60) → A'.2.1 396 k = A.2.1 396 k) ∧ (A'.2.1 396 70).toInt = (A.2.1 396 70).toInt + n
theorem hRn.s {n : Int} {A Ac A' : hs_A} (h : hRn n A Ac) (q : hRq Ac A') : hRn (n + 1) A A' := ⟨fun k hk => (q.1 k hk).trans (h.1 k hk), by rw [q.2, h.2]; omega⟩
theorem hY185g {d : Nat} {Bn Br : Int} {A0 A : hs_A} (hA : hJ 0 Bn Br A0 A) (hBr : Br ≤ 990000) (a1 : Int32) (p1 : 0 ≤ a1.toInt) (q1 : a1.toInt ≤ 72) (uH : uf_H A) {P : Option Value → hs_A → Prop} (hP : ∀ (r : Option Value) (A' : hs_A), (hJ 0 Bn (Br + 72) A0 A' ∧ r = none ∧ (hRn a1.toInt A A')) → P r A') : hxa (d + 5) none hm_t185 0 [.ref 368, .int a1, .retAddr 0] [] A P := by
  have k0 := hk_0
  have L2 : ∀ (m2 : Nat) (x2_2 : Int32) (Ac2 : hs_A) (hAc2 : hJ 0 Bn (Br + x2_2.toInt) A0 Ac2) (bx2_2 : 0 ≤ x2_2.toInt) (cx2_2 : x2_2.toInt ≤ 72) (dx2_2 : x2_2.toInt ≤ a1.toInt) (hm2 : 72 - x2_2.toInt < (m2 : Int)) (iv2 : hRn x2_2.toInt A Ac2 ∧ uf_H Ac2), hxa (d + 5) none hm_t185 2 [.ref 368, .int a1, .int x2_2] [] Ac2 P := by
    intro m2
    induction m2 with
    | zero => intro x2_2 Ac2 hAc2 bx2_2 cx2_2 dx2_2 hm2 iv2;  exact False.elim (by omega)
    | succ m2 ih2 =>
      intro x2_2 Ac2 hAc2 bx2_2 cx2_2 dx2_2 hm2 iv2
      refine hxa_iload_n (by rfl) rfl ?_
      refine hxa_iload_n (by rfl) rfl ?_
      refine hxj_cge (by rfl) rfl rfl (fun q1 => ?_) (fun q1 => ?_)
      ·
        exact hxa_return (by rfl) rfl (hP _ _ ⟨(hJ.mono hAc2 (by omega) (by omega)), rfl, by have e : x2_2.toInt = a1.toInt := (by omega); rw [← e]; exact iv2.1⟩)
      ·
        refine hxa_aload_n (by rfl) rfl ?_
        refine hxa_call0 (by rfl) (by rfl) (by rfl) (by rfl) (by rfl) (by rfl) (uf_j184 iv2.2 (hX184g (d := d + 0) hAc2 (by omega) iv2.2)) ?_
        rintro _ A2 ⟨⟨hA2, rfl, c2⟩, w2, H2⟩
        refine hxj_iinc (by rfl) rfl rfl hk_1 (by omega) (by omega) (fun _ => rfl) (fun z3 ez3 => ?_)
        refine hxa_goto (by rfl) ?_
        exact ih2 z3 A2 (hJ.mono hA2 (by omega) (by omega)) (by omega) (by omega) (by omega) (by omega) (⟨by rw [ez3]; exact iv2.1.s c2, H2⟩)
  refine hxa_iconst (by rfl) rfl ?_
  refine hxa_s1 (by rfl) (Or.inl ⟨_, rfl, rfl⟩) rfl ?_
  exact L2 (Int.toNat (72 - 0) + 1) (Int32.ofNat 0) A (hJ.mono hA (by omega) (by omega)) (by omega) (by omega) (by omega) (by omega) (⟨⟨fun _ _ => rfl, by rw [hk_0]; omega⟩, uH⟩)
theorem hX185g {d : Nat} {Bn Br : Int} {A0 A : hs_A} (hA : hJ 0 Bn Br A0 A) (hBr : Br ≤ 990000) (a1 : Int32) (p1 : 0 ≤ a1.toInt) (q1 : a1.toInt ≤ 72) (uH : uf_H A) : hxC (d + 6) 185 hm_m185 [.ref 368, .int a1] A (fun r A' => hJ 0 Bn (Br + 72) A0 A' ∧ r = none ∧ (hRn a1.toInt A A')) := hxC.of (by rfl) (hY185g hA hBr a1 p1 q1 uH (fun r A' h => h))
/-! HOURS OF THE CLASS -/
set_option maxRecDepth 1000000 in
theorem uf_tt : uf_rk [2, 11] 3 = true ∧ uf_rk [2, 11] 12 = true := by decide +kernel
theorem uf_tV {T : Nat} (h : hTT T) : ug_V (some (.inl [2, 11])) (.ref (T + 1)) := by
  rcases h with rfl | rfl
  · exact uf_rk_ok uf_tt.1
  · exact uf_rk_ok uf_tt.2
section HXG
variable {d : Nat} {ret : Option FieldType} {tb : hc_K} {pc len r1 r2 : Nat} {l st : List Value} {A : hs_A} {P : Option Value → hs_A → Prop}
theorem hxj_iaddE {x y : Int32} (hI : hc_get tb pc = some (.iadd, len, r1, r2)) (k : ∀ z : Int32, z = x + y → hxa d ret tb (pc + 1) l (.int z :: st) A P) : hxa d ret tb pc l (.int y :: .int x :: st) A P := hxa_iadd hI (k _ rfl)
end HXG
theorem uf_m23 {d : Nat} {A : hs_A} {P : Option Value → hs_A → Prop} {a1 a2 : Int32} (hH : uf_H A) (w : hxC d 23 hm_m23 [.ref 27, .int a1, .int a2] A P) : hxC d 23 hm_m23 [.ref 27, .int a1, .int a2] A (fun r A' => P r A' ∧ uf_W ug_x142.2.2.2.1 A A' ∧ uf_H A') := uf_X (X := ug_x142) (j := 142) rfl rfl (ug_L.cons (uf_rk_ok (by decide +kernel)) (uf_int (uf_int uf_nil))) hH w
theorem uf_m4 {d : Nat} {A : hs_A} {P : Option Value → hs_A → Prop}  (hH : uf_H A) (w : hxC d 4 hm_m4 [.ref 324] A P) : hxC d 4 hm_m4 [.ref 324] A (fun r A' => P r A' ∧ uf_W ug_x192.2.2.2.1 A A' ∧ uf_H A') := uf_X (X := ug_x192) (j := 192) rfl rfl (ug_L.cons (uf_rk_ok (by decide +kernel)) uf_nil) hH w
theorem uf_m5 {d : Nat} {A : hs_A} {P : Option Value → hs_A → Prop} {a1 : Int32} (hH : uf_H A) (w : hxC d 5 hm_m5 [.ref 324, .int a1] A P) : hxC d 5 hm_m5 [.ref 324, .int a1] A (fun r A' => P r A' ∧ uf_W ug_x134.2.2.2.1 A A' ∧ uf_H A') := uf_X (X := ug_x134) (j := 134) rfl rfl (ug_L.cons (uf_rk_ok (by decide +kernel)) (uf_int uf_nil)) hH w
theorem uf_m1 {d : Nat} {A : hs_A} {P : Option Value → hs_A → Prop} {T : Nat} (hT : hTT T) {a1 a2 : Int32} (hH : uf_H A) (w : hxC d 1 hm_m1 [.ref 324, .ref (T + 1), .ref 27, .int a1, .int a2] A P) : hxC d 1 hm_m1 [.ref 324, .ref (T + 1), .ref 27, .int a1, .int a2] A (fun r A' => P r A' ∧ uf_W ug_x133.2.2.2.1 A A' ∧ uf_H A') := uf_X (X := ug_x133) (j := 133) rfl rfl (ug_L.cons (uf_rk_ok (by decide +kernel)) (ug_L.cons (uf_tV hT) (ug_L.cons (uf_rk_ok (by decide +kernel)) (uf_int (uf_int uf_nil))))) hH w
theorem uf_m26 {d : Nat} {A : hs_A} {P : Option Value → hs_A → Prop} {T : Nat} (hT : hTT T) {a1 a2 : Int32} (hH : uf_H A) (w : hxC d 26 hm_m26 [.ref 27, .ref (T + 1), .ref 324, .int a1, .int a2] A P) : hxC d 26 hm_m26 [.ref 27, .ref (T + 1), .ref 324, .int a1, .int a2] A (fun r A' => P r A' ∧ uf_W ug_x150.2.2.2.1 A A' ∧ uf_H A') := uf_X (X := ug_x150) (j := 150) rfl rfl (ug_L.cons (uf_rk_ok (by decide +kernel)) (ug_L.cons (uf_tV hT) (ug_L.cons (uf_rk_ok (by decide +kernel)) (uf_int (uf_int uf_nil))))) hH w
theorem uf_m24 {d : Nat} {A : hs_A} {P : Option Value → hs_A → Prop} {a1 a2 : Int32} (hH : uf_H A) (w : hxC d 24 hm_m24 [.ref 27, .int a1, .int a2] A P) : hxC d 24 hm_m24 [.ref 27, .int a1, .int a2] A (fun r A' => P r A' ∧ uf_W ug_x145.2.2.2.1 A A' ∧ uf_H A') := uf_X (X := ug_x145) (j := 145) rfl rfl (ug_L.cons (uf_rk_ok (by decide +kernel)) (uf_int (uf_int uf_nil))) hH w
theorem hY26g {d : Nat} {Bn Br : Int} {A0 A : hs_A} (hA : hJ 0 Bn Br A0 A)  {T : Nat} (hT : hTT T) (eT : A0.2.2.2 0 3 = T + 1) (a3 : Int32) (p3 : 0 ≤ a3.toInt) (q3 : a3.toInt ≤ 1) (a4 : Int32) (uH : uf_H A) {P : Option Value → hs_A → Prop} (hP : ∀ (r : Option Value) (A' : hs_A), (hJ 0 Bn Br A0 A' ∧ r = none ∧ A'.1 26 7 = A.1 26 7 + Int32.ofNat 1) → P r A') : hxa (d + 3) none hm_t26 0 [.ref 27, .ref (T + 1), .ref 324, .int a3, .int a4, .retAddr 0, .retAddr 0, .retAddr 0] [] A P := by
  have rA : A.1 26 7 = A.1 26 7 := rfl
  have uA : uf_H A := uH
  have k0 := hk_0
  have L15 : ∀ (m15 : Nat) (x15_5 : Int32) (x15_6 : Int32) (x15_7 : Value) (Ac15 : hs_A) (hAc15 : hJ 0 Bn Br A0 Ac15) (bx15_5 : 0 ≤ x15_5.toInt) (cx15_5 : x15_5.toInt ≤ 255) (bx15_6 : -1 ≤ x15_6.toInt) (cx15_6 : x15_6.toInt ≤ 9) (hm15 : x15_6.toInt - (-1) < (m15 : Int)) (iv15 : Ac15.1 26 7 = A.1 26 7 ∧ uf_H Ac15), hxa (d + 3) none hm_t26 15 [.ref 27, .ref (T + 1), .ref 324, .int a3, .int a4, .int x15_5, .int x15_6, x15_7] [] Ac15 P := by
    intro m15
    induction m15 with
    | zero => intro x15_5 x15_6 x15_7 Ac15 hAc15 bx15_5 cx15_5 bx15_6 cx15_6 hm15 iv15;  exact False.elim (by omega)
    | succ m15 ih15 =>
      intro x15_5 x15_6 x15_7 Ac15 hAc15 bx15_5 cx15_5 bx15_6 cx15_6 hm15 iv15
      have rAc15 := iv15.1
      have uAc15 := iv15.2
      have L69 : ∀ (x69_7 : Int32) (Ac69 : hs_A) (hAc69 : hJ 0 Bn Br A0 Ac69) (bx69_7 : 0 ≤ x69_7.toInt) (cx69_7 : x69_7.toInt ≤ 255) (bx15_6 : 0 ≤ x15_6.toInt) (iv69 : Ac69.1 26 7 = A.1 26 7 ∧ uf_H Ac69), hxa (d + 3) none hm_t26 69 [.ref 27, .ref (T + 1), .ref 324, .int a3, .int a4, .int x15_5, .int x15_6, .int x69_7] [] Ac69 P := by
        intro x69_7 Ac69 hAc69 bx69_7 cx69_7 bx15_6 iv69
        have rAc69 := iv69.1
        have uAc69 := iv69.2
        refine hxa_aload_n (by rfl) rfl ?_
        refine hxa_get (v := .ref 33) (by rfl) (by rfl) (by rfl) (by rfl) ?_
        refine hxa_iload (by rfl) rfl ?_
        refine hxj_iald (by rfl) (by rfl) rfl (by omega) (by omega) (fun z1 ez1 => ?_)
        refine hxj_zle (by rfl) rfl (fun q2 => ?_) (fun q2 => ?_)
        ·
          refine hxa_iload_n (by rfl) rfl ?_
          refine hxj_zeq (by rfl) rfl (fun q3 => ?_) (fun q3 => ?_)
          ·
            refine hxa_aload_n (by rfl) rfl ?_
            refine hxa_iload (by rfl) rfl ?_
            refine hxa_iload (by rfl) rfl ?_
            refine hxa_call0 (by rfl) (by rfl) (by rfl) (by rfl) (by rfl) (by rfl) (uf_m23 uAc69 (hX23 (d := d + 2) hAc69 hL26 x15_6 (by omega) (by omega) x69_7 (by omega) (by omega))) ?_
            rintro _ A4 ⟨⟨hA4, rfl⟩, wA4, HA4⟩
            have rA4 : A4.1 26 7 = A.1 26 7 := (wA4.1 26 _ _ 7 rfl rfl (by decide +kernel)).trans rAc69
            have uA4 : uf_H A4 := HA4
            refine hxj_iinc (by rfl) rfl rfl hk_4294967295 (by omega) (by omega) (fun _ => rfl) (fun z5 ez5 => ?_)
            refine hxa_goto (by rfl) ?_
            exact ih15 x15_5 z5 (.int x69_7) A4 hA4 (by omega) (by omega) (by omega) (by omega) (by omega) ⟨rA4, uA4⟩
          ·
            refine hxa_iload (by rfl) rfl ?_
            refine hxa_bipush (by rfl) rfl ?_
            refine hxa_aload_n (by rfl) rfl ?_
            refine hxj_getI (by rfl) (by rfl) (by rfl) (fun z6 ez6 => ?_)
            refine hxj_imulU (by rfl) (fun z7 => ?_)
            refine hxa_iload (by rfl) rfl ?_
            refine hxj_iaddU (by rfl) (fun z8 => ?_)
            refine hxa_call2 (by rfl) (by decide) (by rfl) (by rfl) (by rfl) (hX27 (d := d + 1)  a4 z8) ?_
            rintro _ _ ⟨rfl, z9, rfl⟩
            refine hxa_aload_n (by rfl) rfl ?_
            refine hxa_call0 (by rfl) (by rfl) (by rfl) (by rfl) (by rfl) (by rfl) (uf_m4 uAc69 (hX4 (d := d + 1) hAc69 )) ?_
            rintro _ A10 ⟨⟨hA10, z11, rfl⟩, wA10, HA10⟩
            have rA10 : A10.1 26 7 = A.1 26 7 := (wA10.1 26 _ _ 7 rfl rfl (by decide +kernel)).trans rAc69
            have uA10 : uf_H A10 := HA10
            have rgz9 := hn_rng z9
            have rgz11 := hn_rng z11
            refine hxj_cge (by rfl) rfl rfl (fun q12 => ?_) (fun q12 => ?_)
            ·
              refine hxa_aload_n (by rfl) rfl ?_
              refine hxa_iload (by rfl) rfl ?_
              refine hxa_iload (by rfl) rfl ?_
              refine hxa_call0 (by rfl) (by rfl) (by rfl) (by rfl) (by rfl) (by rfl) (uf_m23 uA10 (hX23 (d := d + 2) hA10 hL26 x15_6 (by omega) (by omega) x69_7 (by omega) (by omega))) ?_
              rintro _ A13 ⟨⟨hA13, rfl⟩, wA13, HA13⟩
              have rA13 : A13.1 26 7 = A.1 26 7 := (wA13.1 26 _ _ 7 rfl rfl (by decide +kernel)).trans rA10
              have uA13 : uf_H A13 := HA13
              refine hxj_iinc (by rfl) rfl rfl hk_4294967295 (by omega) (by omega) (fun _ => rfl) (fun z14 ez14 => ?_)
              refine hxa_goto (by rfl) ?_
              exact ih15 x15_5 z14 (.int x69_7) A13 hA13 (by omega) (by omega) (by omega) (by omega) (by omega) ⟨rA13, uA13⟩
            ·
              refine hxa_aload_n (by rfl) rfl ?_
              refine hxa_get (v := .ref 33) (by rfl) (by rfl) (by rfl) (by rfl) ?_
              refine hxa_iload (by rfl) rfl ?_
              refine hxa_aload_n (by rfl) rfl ?_
              refine hxj_getI (by rfl) (hsT hT) (by rfl) (fun z15 ez15 => ?_)
              refine hxj_iast (by rfl) (by rfl) rfl (by omega) (by omega) hA10 (hbokN (by rfl)) (by rfl) (by rfl) (fun A16 hA16 eA16 fA16 gA16 => ?_)
              have rA16 : A16.1 26 7 = A.1 26 7 := (by rw [eA16]; exact rA10)
              have uA16 : uf_H A16 := uA10.e (congrArg (fun q => q.2) gA16)
              refine hxa_aload_n (by rfl) rfl ?_
              refine hxa_dupR (by rfl) ?_
              refine hxj_getI (by rfl) (by rfl) (by rfl) (fun z17 ez17 => ?_)
              refine hxa_iconst (by rfl) rfl ?_
              refine hxj_iaddU (by rfl) (fun z18 => ?_)
              refine hxj_putI (by rfl) (by rfl) (by rfl) (by rfl) hA16 (hbokN (by rfl)) (by rfl) (by rfl) (fun A19 hA19 eA19 fA19 => ?_)
              have rA19 : A19.1 26 7 = A.1 26 7 := (by rw [eA19, hup2 (by omega)]; exact rA16)
              have uA19 : uf_H A19 := uA16.e (congrArg (fun q => q.2.2) fA19)
              refine hxa_aload_n (by rfl) rfl ?_
              refine hxa_iload (by rfl) rfl ?_
              refine hxa_iload (by rfl) rfl ?_
              refine hxa_call0 (by rfl) (by rfl) (by rfl) (by rfl) (by rfl) (by rfl) (uf_m23 uA19 (hX23 (d := d + 2) hA19 hL26 x15_6 (by omega) (by omega) x69_7 (by omega) (by omega))) ?_
              rintro _ A20 ⟨⟨hA20, rfl⟩, wA20, HA20⟩
              have rA20 : A20.1 26 7 = A.1 26 7 := (wA20.1 26 _ _ 7 rfl rfl (by decide +kernel)).trans rA19
              have uA20 : uf_H A20 := HA20
              refine hxj_iinc (by rfl) rfl rfl hk_4294967295 (by omega) (by omega) (fun _ => rfl) (fun z21 ez21 => ?_)
              refine hxa_goto (by rfl) ?_
              exact ih15 x15_5 z21 (.int x69_7) A20 hA20 (by omega) (by omega) (by omega) (by omega) (by omega) ⟨rA20, uA20⟩
        ·
          refine hxa_aload_n (by rfl) rfl ?_
          refine hxa_get (v := .ref 33) (by rfl) (by rfl) (by rfl) (by rfl) ?_
          refine hxa_iload (by rfl) rfl ?_
          refine hxa_dup2IR (by rfl) ?_
          refine hxj_iald (by rfl) (by rfl) rfl (by omega) (by omega) (fun z22 ez22 => ?_)
          refine hxa_iconst (by rfl) rfl ?_
          refine hxj_isubU (by rfl) (fun z23 => ?_)
          refine hxj_iast (by rfl) (by rfl) rfl (by omega) (by omega) hAc69 (hbokN (by rfl)) (by rfl) (by rfl) (fun A24 hA24 eA24 fA24 gA24 => ?_)
          have rA24 : A24.1 26 7 = A.1 26 7 := (by rw [eA24]; exact rAc69)
          have uA24 : uf_H A24 := uAc69.e (congrArg (fun q => q.2) gA24)
          refine hxa_goto (by rfl) ?_
          refine hxa_aload_n (by rfl) rfl ?_
          refine hxa_iload (by rfl) rfl ?_
          refine hxa_iload (by rfl) rfl ?_
          refine hxa_call0 (by rfl) (by rfl) (by rfl) (by rfl) (by rfl) (by rfl) (uf_m23 uA24 (hX23 (d := d + 2) hA24 hL26 x15_6 (by omega) (by omega) x69_7 (by omega) (by omega))) ?_
          rintro _ A25 ⟨⟨hA25, rfl⟩, wA25, HA25⟩
          have rA25 : A25.1 26 7 = A.1 26 7 := (wA25.1 26 _ _ 7 rfl rfl (by decide +kernel)).trans rA24
          have uA25 : uf_H A25 := HA25
          refine hxj_iinc (by rfl) rfl rfl hk_4294967295 (by omega) (by omega) (fun _ => rfl) (fun z26 ez26 => ?_)
          refine hxa_goto (by rfl) ?_
          exact ih15 x15_5 z26 (.int x69_7) A25 hA25 (by omega) (by omega) (by omega) (by omega) (by omega) ⟨rA25, uA25⟩
      refine hxa_iload (by rfl) rfl ?_
      refine hxj_zlt (by rfl) rfl (fun q27 => ?_) (fun q27 => ?_)
      ·
        refine hxa_aload_n (by rfl) rfl ?_
        refine hxa_iconst (by rfl) rfl ?_
        refine hxj_putI (by rfl) (by rfl) (by rfl) (by rfl) hAc15 (hbok (by rfl) hk_4294967295 (by omega) (by omega)) (by rfl) (by rfl) (fun A28 hA28 eA28 fA28 => ?_)
        have rA28 : A28.1 26 7 = A.1 26 7 := (by rw [eA28, hup2 (by omega)]; exact rAc15)
        have uA28 : uf_H A28 := uAc15.e (congrArg (fun q => q.2.2) fA28)
        refine hxa_aload_n (by rfl) rfl ?_
        refine hxa_dupR (by rfl) ?_
        refine hxj_getI (by rfl) (by rfl) (by rfl) (fun z29 ez29 => ?_)
        refine hxa_iconst (by rfl) rfl ?_
        refine hxj_iaddE (by rfl) (fun z30 ez30 => ?_)
        refine hxj_putI (by rfl) (by rfl) (by rfl) (by rfl) hA28 (hbokN (by rfl)) (by rfl) (by rfl) (fun A31 hA31 eA31 fA31 => ?_)
        exact hxa_return (by rfl) rfl (hP _ _ ⟨hA31, rfl, by rw [eA31, hup1, ez30, ← ez29, rA28]⟩)
      ·
        refine hxa_aload_n (by rfl) rfl ?_
        refine hxa_aload_n (by rfl) rfl ?_
        refine hxa_aload_n (by rfl) rfl ?_
        refine hxa_iload (by rfl) rfl ?_
        refine hxa_aload_n (by rfl) rfl ?_
        refine hxj_getI (by rfl) (by rfl) (by rfl) (fun z32 ez32 => ?_)
        refine hxa_call0 (by rfl) (by rfl) (by rfl) (by rfl) (by rfl) (by rfl) (uf_m1 hT uAc15 (hX1 (d := d + 1) hAc15 hT eT hL26 x15_6 (by omega) (by omega) z32)) ?_
        rintro _ A33 ⟨⟨hA33, rfl⟩, wA33, HA33⟩
        have rA33 : A33.1 26 7 = A.1 26 7 := (wA33.1 26 _ _ 7 rfl rfl (by decide +kernel)).trans rAc15
        have uA33 : uf_H A33 := HA33
        refine hxa_iconst (by rfl) rfl ?_
        refine hxa_s1 (by rfl) (Or.inr ⟨_, rfl, rfl⟩) rfl ?_
        refine hxa_aload_n (by rfl) rfl ?_
        refine hxa_iload (by rfl) rfl ?_
        refine hxa_call0 (by rfl) (by rfl) (by rfl) (by rfl) (by rfl) (by rfl) (hX19 (d := d + 1) hA33 hL26 x15_6 (by omega) (by omega)) ?_
        rintro _ _ ⟨rfl, z34, rfl, fz34⟩
        refine hxj_zeq (by rfl) rfl (fun q35 => ?_) (fun q35 => ?_)
        ·
          exact L69 (Int32.ofNat 0) A33 hA33 (by omega) (by omega) (by omega) ⟨rA33, uA33⟩
        ·
          refine hxa_iload (by rfl) rfl ?_
          refine hxj_zne (by rfl) rfl (fun q36 => ?_) (fun q36 => ?_)
          ·
            refine hxa_aload_n (by rfl) rfl ?_
            refine hxa_aload_n (by rfl) rfl ?_
            refine hxa_get (v := .ref 32) (by rfl) (by rfl) (by rfl) (by rfl) ?_
            refine hxa_iload (by rfl) rfl ?_
            refine hxa_iconst (by rfl) rfl ?_
            refine hxj_isub (by rfl) rfl hk_1 (by omega) (by omega) (fun z37 ez37 => ?_)
            refine hxj_ialdB (by rfl) (by rfl) rfl (by omega) (by omega) hA33 (by rfl) (fun z38 ez38 fz38 gz38 => ?_)
            refine hxa_call0 (by rfl) (by rfl) (by rfl) (by rfl) (by rfl) (by rfl) (uf_m5 uA33 (hX5 (d := d + 0) hA33 z38)) ?_
            rintro _ A39 ⟨⟨hA39, z40, rfl, fz40⟩, wA39, HA39⟩
            have rA39 : A39.1 26 7 = A.1 26 7 := (wA39.1 26 _ _ 7 rfl rfl (by decide +kernel)).trans rA33
            have uA39 : uf_H A39 := HA39
            refine hxa_s1 (by rfl) (Or.inr ⟨_, rfl, rfl⟩) rfl ?_
            exact L69 z40 A39 hA39 (by omega) (by omega) (by omega) ⟨rA39, uA39⟩
          ·
            refine hxa_iload (by rfl) rfl ?_
            refine hxa_goto (by rfl) ?_
            refine hxa_s1 (by rfl) (Or.inr ⟨_, rfl, rfl⟩) rfl ?_
            exact L69 x15_5 A33 hA33 (by omega) (by omega) (by omega) ⟨rA33, uA33⟩
  refine hxa_aload_n (by rfl) rfl ?_
  refine hxa_aload_n (by rfl) rfl ?_
  refine hxa_call0 (by rfl) (by rfl) (by rfl) (by rfl) (by rfl) (by rfl) (hX22 (d := d + 1) hA hL26 hT eT) ?_
  rintro _ _ ⟨rfl, z41, rfl, fz41⟩
  refine hxa_s1 (by rfl) (Or.inr ⟨_, rfl, rfl⟩) rfl ?_
  refine hxa_aload_n (by rfl) rfl ?_
  refine hxj_getB (by rfl) (by rfl) (by rfl) hA (by rfl) (fun z42 ez42 fz42 gz42 => ?_)
  refine hxa_iconst (by rfl) rfl ?_
  refine hxj_isub (by rfl) rfl hk_1 (by omega) (by omega) (fun z43 ez43 => ?_)
  refine hxa_s1 (by rfl) (Or.inr ⟨_, rfl, rfl⟩) rfl ?_
  exact L15 (Int.toNat (z43.toInt - (-1)) + 1) z41 z43 (.retAddr 0) A hA (by omega) (by omega) (by omega) (by omega) (by omega) ⟨rA, uA⟩
theorem hX26g {d : Nat} {Bn Br : Int} {A0 A : hs_A} (hA : hJ 0 Bn Br A0 A)  {T : Nat} (hT : hTT T) (eT : A0.2.2.2 0 3 = T + 1) (a3 : Int32) (p3 : 0 ≤ a3.toInt) (q3 : a3.toInt ≤ 1) (a4 : Int32) (uH : uf_H A) : hxC (d + 4) 26 hm_m26 [.ref 27, .ref (T + 1), .ref 324, .int a3, .int a4] A (fun r A' => hJ 0 Bn Br A0 A' ∧ r = none ∧ A'.1 26 7 = A.1 26 7 + Int32.ofNat 1) := hxC.of (by rfl) (hY26g hA hT eT a3 p3 q3 a4 uH (fun r A' h => h))
theorem hY87g {d : Nat} {Bn Br : Int} {A0 A : hs_A} (hA : hJ 0 Bn Br A0 A)  (a1 : Int32) (uH : uf_H A) (hb : 0 ≤ (A.1 26 7).toInt ∧ (A.1 26 7).toInt ≤ 1000000) {P : Option Value → hs_A → Prop} (hP : ∀ (r : Option Value) (A' : hs_A), (hJ 0 Bn Br A0 A' ∧ ∃ z : Int32, r = some (.int z) ∧ ((0 ≤ a1.toInt ∧ a1.toInt ≤ 72 ∧ z = A'.1 26 7 ∧ (A'.1 26 7).toInt = (A.1 26 7).toInt + a1.toInt ∧ (a1.toInt = 0 ∧ hPk A A' ∨ 0 < a1.toInt ∧ hKq A A')) ∨ ((a1.toInt < 0 ∨ 72 < a1.toInt) ∧ z.toInt = -1 ∧ A' = A))) → P r A') : hxa (d + 4) (some (.int)) hm_t87 0 [.ref 1, .int a1, .retAddr 0] [] A P := by
  have k0 := hk_0
  have k1 := hk_1
  have k4294967295 := hk_4294967295
  have k72 := hk_72
  obtain ⟨T0, hT0, -, eT0⟩ := hA.T
  have L22 : ∀ (m22 : Nat) (x22_2 : Int32) (Ac22 : hs_A) (hAc22 : hJ 0 Bn Br A0 Ac22) (bx22_2 : 0 ≤ x22_2.toInt) (cx22_2 : x22_2.toInt ≤ 72) (ba1 : 0 ≤ a1.toInt) (ca1 : a1.toInt ≤ 72) (dx22 : x22_2.toInt ≤ a1.toInt) (hm22 : 72 - x22_2.toInt < (m22 : Int)) (iv22 : (a1.toInt = 0 ∧ hPk A Ac22 ∨ 0 < a1.toInt ∧ hKq A Ac22) ∧ (Ac22.1 26 7).toInt = (A.1 26 7).toInt + x22_2.toInt ∧ uf_H Ac22), hxa (d + 4) (some (.int)) hm_t87 22 [.ref 1, .int a1, .int x22_2] [] Ac22 P := by
    intro m22
    induction m22 with
    | zero => intro x22_2 Ac22 hAc22 bx22_2 cx22_2 ba1 ca1 dx22 hm22 iv22;  exact False.elim (by omega)
    | succ m22 ih22 =>
      intro x22_2 Ac22 hAc22 bx22_2 cx22_2 ba1 ca1 dx22 hm22 iv22
      refine hxa_iload_n (by rfl) rfl ?_
      refine hxa_iload_n (by rfl) rfl ?_
      refine hxj_cge (by rfl) rfl rfl (fun q1 => ?_) (fun q1 => ?_)
      ·
        refine hxa_aload_n (by rfl) rfl ?_
        refine hxa_get (v := .ref 27) (by rfl) (by rfl) (by rfl) rfl ?_
        refine hxj_getI (by rfl) (by rfl) (by rfl) (fun z2 ez2 => ?_)
        exact hxa_ireturn (by rfl) rfl (hP _ _ ⟨hAc22, _, rfl, Or.inl ⟨by omega, by omega, ez2.symm, by rw [iv22.2.1]; omega, iv22.1⟩⟩)
      ·
        refine hxa_aload_n (by rfl) rfl ?_
        refine hxa_get (v := .ref 27) (by rfl) (by rfl) (by rfl) rfl ?_
        refine hxa_aload_n (by rfl) rfl ?_
        refine hxj_getT (by rfl) (by rfl) (by rfl) (hAc22.Tw eT0) ?_
        refine hxa_aload_n (by rfl) rfl ?_
        refine hxa_get (v := .ref 324) (by rfl) (by rfl) (by rfl) rfl ?_
        refine hxa_iconst (by rfl) rfl ?_
        refine hxa_aload_n (by rfl) rfl ?_
        refine hxj_getT (by rfl) (by rfl) (by rfl) (hAc22.Tw eT0) ?_
        refine hxj_getI (by rfl) (hsT hT0) (by rfl) (fun z3 ez3 => ?_)
        refine hxa_call0 (by rfl) (by rfl) (by rfl) (by rfl) (by rfl) (by rfl) (uf_m26 hT0 iv22.2.2 (hX26g (d := d + 0) hAc22 hT0 eT0 (Int32.ofNat 1) (by omega) (by omega) z3 iv22.2.2)) ?_
        rintro _ A4 ⟨⟨hA4, rfl, c4⟩, w4, H4⟩
        refine hxj_iinc (by rfl) rfl rfl hk_1 (by omega) (by omega) (fun _ => rfl) (fun z5 ez5 => ?_)
        refine hxa_goto (by rfl) ?_
        exact ih22 z5 A4 hA4 (by omega) (by omega) (by omega) (by omega) (by omega) (by omega) (⟨by rcases iv22.1 with ⟨u1, u2⟩ | ⟨u1, u2⟩; exact Or.inl ⟨u1, u2.trans (hPk.uf w4 (by decide +kernel))⟩; exact Or.inr ⟨u1, u2.k (hPk.uf w4 (by decide +kernel))⟩, by have q := hn_add (x := Ac22.1 26 7) (y := Int32.ofNat 1) (z := A4.1 26 7) c4 (by rw [hk_1]; omega) (by rw [hk_1]; omega); rw [hk_1] at q; omega, H4⟩)
  refine hxa_iload_n (by rfl) rfl ?_
  refine hxa_iconst (by rfl) rfl ?_
  refine hxa_bipush (by rfl) rfl ?_
  refine hxa_call2 (by rfl) (by decide) (by rfl) (by rfl) (by rfl) (hX78 (d := d + 3)  a1 (Int32.ofNat 0) (Int32.ofNat 72)) ?_
  rintro _ _ ⟨rfl, z6, rfl, fz6⟩
  rcases fz6 with fz6 | fz6
  ·
    refine hxj_zne (by rfl) rfl (fun q7 => ?_) (fun q7 => False.elim (by omega))
    refine hxa_iload_n (by rfl) rfl ?_
    refine hxj_zle (by rfl) rfl (fun q8 => ?_) (fun q8 => ?_)
    ·
      refine hxa_iconst (by rfl) rfl ?_
      refine hxa_s1 (by rfl) (Or.inl ⟨_, rfl, rfl⟩) rfl ?_
      exact L22 (Int.toNat (72 - 0) + 1) (Int32.ofNat 0) A hA (by omega) (by omega) (by omega) (by omega) (by omega) (by omega) (⟨Or.inl ⟨by omega, ⟨fun q hq => ⟨fun _ _ _ => rfl, fun _ _ _ _ _ => rfl⟩, rfl, rfl⟩⟩, by rw [hk_0]; omega, uH⟩)
    ·
      refine hxa_aload_n (by rfl) rfl ?_
      refine hxa_call0 (by rfl) (by rfl) (by rfl) (by rfl) (by rfl) (by rfl) (uf_i82 uH (hX82g (d := d + 1) hA)) ?_
      rintro _ A9 ⟨⟨hA9, rfl, c9⟩, w9, H9⟩
      refine hxa_iconst (by rfl) rfl ?_
      refine hxa_s1 (by rfl) (Or.inl ⟨_, rfl, rfl⟩) rfl ?_
      exact L22 (Int.toNat (72 - 0) + 1) (Int32.ofNat 0) A9 hA9 (by omega) (by omega) (by omega) (by omega) (by omega) (by omega) (⟨Or.inr ⟨by omega, c9⟩, by rw [hk_0, w9.1 26 _ _ 7 rfl rfl (by decide +kernel)]; omega, H9⟩)
  ·
    refine hxj_zne (by rfl) rfl (fun q10 => False.elim (by omega)) (fun q10 => ?_)
    refine hxa_iconst (by rfl) rfl ?_
    exact hxa_ireturn (by rfl) rfl (hP _ _ ⟨hA, _, rfl, Or.inr ⟨by omega, hk_4294967295, rfl⟩⟩)
theorem hX87g {d : Nat} {Bn Br : Int} {A0 A : hs_A} (hA : hJ 0 Bn Br A0 A)  (a1 : Int32) (uH : uf_H A) (hb : 0 ≤ (A.1 26 7).toInt ∧ (A.1 26 7).toInt ≤ 1000000) : hxC (d + 5) 87 hm_m87 [.ref 1, .int a1] A (fun r A' => hJ 0 Bn Br A0 A' ∧ ∃ z : Int32, r = some (.int z) ∧ ((0 ≤ a1.toInt ∧ a1.toInt ≤ 72 ∧ z = A'.1 26 7 ∧ (A'.1 26 7).toInt = (A.1 26 7).toInt + a1.toInt ∧ (a1.toInt = 0 ∧ hPk A A' ∨ 0 < a1.toInt ∧ hKq A A')) ∨ ((a1.toInt < 0 ∨ 72 < a1.toInt) ∧ z.toInt = -1 ∧ A' = A))) := hxC.of (by rfl) (hY87g hA a1 uH hb (fun r A' h => h))
theorem hY85g {d : Nat} {Bn Br : Int} {A0 A : hs_A} (hA : hJ 0 Bn Br A0 A)  (a1 : Int32) (a2 : Int32) {H : Int} (hH : ∀ T, hTT T → A.2.2.2 0 3 = T + 1 → (A.1 T 4).toInt = H) (uH : uf_H A) {P : Option Value → hs_A → Prop} (hP : ∀ (r : Option Value) (A' : hs_A), (hJ 0 Bn Br A0 A' ∧ ∃ z : Int32, r = some (.int z) ∧ ((0 ≤ a1.toInt ∧ a1.toInt < H ∧ 0 ≤ a2.toInt ∧ a2.toInt < H ∧ ¬ a1.toInt = a2.toInt ∧ hKq A A' ∧ z = A.2.1 31 a1.toNatClampNeg ∧ A'.2.1 31 a2.toNatClampNeg = A.2.1 31 a1.toNatClampNeg ∧ A'.2.1 29 a2.toNatClampNeg = A.2.1 29 a2.toNatClampNeg ||| (A.2.1 31 a1.toNatClampNeg &&& A.2.1 27 a2.toNatClampNeg) ∧ ∀ i x, (i = 29 ∨ i = 31) → x < 10 → ¬ x = a2.toNatClampNeg → A'.2.1 i x = A.2.1 i x) ∨ ((a1.toInt < 0 ∨ H ≤ a1.toInt ∨ a2.toInt < 0 ∨ H ≤ a2.toInt ∨ a1.toInt = a2.toInt) ∧ z.toInt = -1 ∧ A' = A))) → P r A') : hxa (d + 3) (some (.int)) hm_t85 0 [.ref 1, .int a1, .int a2] [] A P := by
  have k4294967295 := hk_4294967295
  refine hxa_aload_n (by rfl) rfl ?_
  refine hxa_iload_n (by rfl) rfl ?_
  refine hxa_call0 (by rfl) (by rfl) (by rfl) (by rfl) (by rfl) (by rfl) (hX76f (d := d + 2) hA a1 hH) ?_
  rintro _ _ ⟨rfl, z1, rfl, fz1⟩
  rcases fz1 with fz1 | fz1
  ·
    refine hxj_zeq (by rfl) rfl (fun q2 => False.elim (by omega)) (fun q2 => ?_)
    refine hxa_aload_n (by rfl) rfl ?_
    refine hxa_iload_n (by rfl) rfl ?_
    refine hxa_call0 (by rfl) (by rfl) (by rfl) (by rfl) (by rfl) (by rfl) (hX76f (d := d + 2) hA a2 hH) ?_
    rintro _ _ ⟨rfl, z3, rfl, fz3⟩
    rcases fz3 with fz3 | fz3
    ·
      refine hxj_zeq (by rfl) rfl (fun q4 => False.elim (by omega)) (fun q4 => ?_)
      refine hxa_iload_n (by rfl) rfl ?_
      refine hxa_iload_n (by rfl) rfl ?_
      refine hxj_cne (by rfl) rfl rfl (fun q5 => ?_) (fun q5 => ?_)
      ·
        refine hxa_aload_n (by rfl) rfl ?_
        refine hxa_call0 (by rfl) (by rfl) (by rfl) (by rfl) (by rfl) (by rfl) (uf_i82 uH (hX82g (d := d + 0) hA)) ?_
        rintro _ A6 ⟨⟨hA6, rfl, c6⟩, w6, H6⟩
        refine hxa_aload_n (by rfl) rfl ?_
        refine hxa_get (v := .ref 27) (by rfl) (by rfl) (by rfl) rfl ?_
        refine hxa_iload_n (by rfl) rfl ?_
        refine hxa_aload_n (by rfl) rfl ?_
        refine hxa_get (v := .ref 27) (by rfl) (by rfl) (by rfl) rfl ?_
        refine hxa_get (v := .ref 32) (by rfl) (by rfl) (by rfl) rfl ?_
        refine hxa_iload_n (by rfl) rfl ?_
        refine hxj_ialdB (by rfl) (by rfl) rfl (by omega) (by omega) hA6 (by rfl) (fun z7 ez7 fz7 gz7 => ?_)
        refine hxa_call0 (by rfl) (by rfl) (by rfl) (by rfl) (by rfl) (by rfl) (uf_m23 H6 (hX23g (d := d + 2) hA6 hL26 a2 (by omega) (by omega) z7 (by omega) (by omega))) ?_
        rintro _ A8 ⟨⟨hA8, rfl, x1, x2, x3, x4⟩, w8, -⟩
        have hc1 := hn_cn (j := a1) (by omega)
        have hc2 := hn_cn (j := a2) (by omega)
        have e7 : z7 = A.2.1 31 a1.toNatClampNeg := ez7.symm.trans (w6.2.1 31 _ _ _ rfl (by omega) (by decide +kernel))
        have g29 : ∀ x : Nat, x < 10 → A6.2.1 29 x = A.2.1 29 x := fun x hx => w6.2.1 29 _ _ x rfl hx (by decide +kernel)
        have g31 : ∀ x : Nat, x < 10 → A6.2.1 31 x = A.2.1 31 x := fun x hx => w6.2.1 31 _ _ x rfl hx (by decide +kernel)
        have g27 : ∀ x : Nat, x < 10 → A6.2.1 27 x = A.2.1 27 x := fun x hx => w6.2.1 27 _ _ x rfl hx (by decide +kernel)
        refine hxa_aload_n (by rfl) rfl ?_
        refine hxa_get (v := .ref 27) (by rfl) (by rfl) (by rfl) rfl ?_
        refine hxa_get (v := .ref 32) (by rfl) (by rfl) (by rfl) rfl ?_
        refine hxa_iload_n (by rfl) rfl ?_
        refine hxj_ialdB (by rfl) (by rfl) rfl (by omega) (by omega) hA8 (by rfl) (fun z9 ez9 fz9 gz9 => ?_)
        exact hxa_ireturn (by rfl) rfl (hP _ _ ⟨hA8, _, rfl, Or.inl ⟨by omega, by omega, by omega, by omega, by omega, c6.k (hPk.uf w8 (by decide +kernel)), by rw [← ez9, ← e7]; exact x2, by rw [← e7]; exact x2, by rw [← e7, ← g29 _ (by omega), ← g27 _ (by omega)]; exact x3, fun i x hi hx hne => by rcases hi with rfl | rfl; (rw [x4 29 x (by omega) (by omega)]; exact g29 x hx); (rw [x4 31 x (by omega) (by omega)]; exact g31 x hx)⟩⟩)
      ·
        refine hxa_iconst (by rfl) rfl ?_
        exact hxa_ireturn (by rfl) rfl (hP _ _ ⟨hA, _, rfl, Or.inr ⟨by omega, hk_4294967295, rfl⟩⟩)
    ·
      refine hxj_zeq (by rfl) rfl (fun q10 => ?_) (fun q10 => False.elim (by omega))
      refine hxa_iconst (by rfl) rfl ?_
      exact hxa_ireturn (by rfl) rfl (hP _ _ ⟨hA, _, rfl, Or.inr ⟨by omega, hk_4294967295, rfl⟩⟩)
  ·
    refine hxj_zeq (by rfl) rfl (fun q11 => ?_) (fun q11 => False.elim (by omega))
    refine hxa_iconst (by rfl) rfl ?_
    exact hxa_ireturn (by rfl) rfl (hP _ _ ⟨hA, _, rfl, Or.inr ⟨by omega, hk_4294967295, rfl⟩⟩)
theorem hX85g {d : Nat} {Bn Br : Int} {A0 A : hs_A} (hA : hJ 0 Bn Br A0 A)  (a1 : Int32) (a2 : Int32) {H : Int} (hH : ∀ T, hTT T → A.2.2.2 0 3 = T + 1 → (A.1 T 4).toInt = H) (uH : uf_H A) : hxC (d + 4) 85 hm_m85 [.ref 1, .int a1, .int a2] A (fun r A' => hJ 0 Bn Br A0 A' ∧ ∃ z : Int32, r = some (.int z) ∧ ((0 ≤ a1.toInt ∧ a1.toInt < H ∧ 0 ≤ a2.toInt ∧ a2.toInt < H ∧ ¬ a1.toInt = a2.toInt ∧ hKq A A' ∧ z = A.2.1 31 a1.toNatClampNeg ∧ A'.2.1 31 a2.toNatClampNeg = A.2.1 31 a1.toNatClampNeg ∧ A'.2.1 29 a2.toNatClampNeg = A.2.1 29 a2.toNatClampNeg ||| (A.2.1 31 a1.toNatClampNeg &&& A.2.1 27 a2.toNatClampNeg) ∧ ∀ i x, (i = 29 ∨ i = 31) → x < 10 → ¬ x = a2.toNatClampNeg → A'.2.1 i x = A.2.1 i x) ∨ ((a1.toInt < 0 ∨ H ≤ a1.toInt ∨ a2.toInt < 0 ∨ H ≤ a2.toInt ∨ a1.toInt = a2.toInt) ∧ z.toInt = -1 ∧ A' = A))) := hxC.of (by rfl) (hY85g hA a1 a2 hH uH (fun r A' h => h))
theorem hY193g {d : Nat} {N : Int} {A0 A : hs_A} (hA : hJ 0 N (N + 72) A0 A) (hN : N ≤ 900000) (a1 : Int32) (a2 : Int32) {H : Int} (hH : (A.2.1 376 (A.1 367 18).toNatClampNeg).toInt = H) (uH : uf_H A) {P : Option Value → hs_A → Prop} (hP : ∀ (r : Option Value) (A' : hs_A), (hJ 0 (N + 72) (N + 144) A0 A' ∧ ∃ z : Int32, r = some (.int z) ∧ ((0 ≤ a1.toInt ∧ a1.toInt < H ∧ 0 ≤ a2.toInt ∧ a2.toInt < H ∧ ¬ a1.toInt = a2.toInt ∧ z = A'.2.1 395 (30 + a2.toNatClampNeg) ∧ hDone A A' (fun k => if k = 30 + a2.toNatClampNeg then A.2.1 395 (30 + a1.toNatClampNeg) else if k = 40 + a2.toNatClampNeg then A.2.1 395 (40 + a2.toNatClampNeg) ||| (A.2.1 395 (30 + a1.toNatClampNeg) &&& A.2.1 395 a2.toNatClampNeg) else A.2.1 395 k)) ∨ ((a1.toInt < 0 ∨ H ≤ a1.toInt ∨ a2.toInt < 0 ∨ H ≤ a2.toInt ∨ a1.toInt = a2.toInt) ∧ z.toInt = -1 ∧ A' = A))) → P r A') : hxa (d + 2) (some (.int)) hm_t193 0 [.ref 368, .int a1, .int a2] [] A P := by
  have k4294967295 := hk_4294967295
  refine hxa_aload_n (by rfl) rfl ?_
  refine hxa_iload_n (by rfl) rfl ?_
  refine hxa_call0 (by rfl) (by rfl) (by rfl) (by rfl) (by rfl) (by rfl) (hX167f (d := d + 0) hA a1 hH) ?_
  rintro _ _ ⟨rfl, z1, rfl, fz1⟩
  rcases fz1 with fz1 | fz1
  ·
    refine hxj_zeq (by rfl) rfl (fun q2 => False.elim (by omega)) (fun q2 => ?_)
    refine hxa_aload_n (by rfl) rfl ?_
    refine hxa_iload_n (by rfl) rfl ?_
    refine hxa_call0 (by rfl) (by rfl) (by rfl) (by rfl) (by rfl) (by rfl) (hX167f (d := d + 0) hA a2 hH) ?_
    rintro _ _ ⟨rfl, z3, rfl, fz3⟩
    rcases fz3 with fz3 | fz3
    ·
      refine hxj_zeq (by rfl) rfl (fun q4 => False.elim (by omega)) (fun q4 => ?_)
      refine hxa_iload_n (by rfl) rfl ?_
      refine hxa_iload_n (by rfl) rfl ?_
      refine hxj_cne (by rfl) rfl rfl (fun q5 => ?_) (fun q5 => ?_)
      ·
        refine hxa_aload_n (by rfl) rfl ?_
        refine hxa_call0 (by rfl) (by rfl) (by rfl) (by rfl) (by rfl) (by rfl) (uf_i171 uH (hX171g (d := d + 1) hA)) ?_
        rintro _ A6 ⟨⟨hA6, rfl, c6⟩, w6, H6⟩
        refine hxa_aload_n (by rfl) rfl ?_
        refine hxa_get (v := .ref 397) (by rfl) (by rfl) (by rfl) rfl ?_
        refine hxa_bipush (by rfl) rfl ?_
        refine hxa_iload_n (by rfl) rfl ?_
        refine hxj_iadd (by rfl) hk_30 rfl (by omega) (by omega) (fun z7 ez7 => ?_)
        refine hxa_aload_n (by rfl) rfl ?_
        refine hxa_get (v := .ref 397) (by rfl) (by rfl) (by rfl) rfl ?_
        refine hxa_bipush (by rfl) rfl ?_
        refine hxa_iload_n (by rfl) rfl ?_
        refine hxj_iadd (by rfl) hk_30 rfl (by omega) (by omega) (fun z8 ez8 => ?_)
        refine hxj_iald396 (by rfl) rfl (by omega) (by omega) hA6 (fun z9 ez9 fz9 => ?_)
        refine hxj_iast396 (by rfl) rfl (by omega) (by omega) rfl hA6 (by omega) (fun A10 hA10 eA10 fA10 gA10 => ?_)
        refine hxa_aload_n (by rfl) rfl ?_
        refine hxa_get (v := .ref 397) (by rfl) (by rfl) (by rfl) rfl ?_
        refine hxa_bipush (by rfl) rfl ?_
        refine hxa_iload_n (by rfl) rfl ?_
        refine hxj_iadd (by rfl) hk_40 rfl (by omega) (by omega) (fun z11 ez11 => ?_)
        refine hxa_dup2IR (by rfl) ?_
        refine hxj_iald396 (by rfl) rfl (by omega) (by omega) hA10 (fun z12 ez12 fz12 => ?_)
        refine hxa_aload_n (by rfl) rfl ?_
        refine hxa_get (v := .ref 397) (by rfl) (by rfl) (by rfl) rfl ?_
        refine hxa_bipush (by rfl) rfl ?_
        refine hxa_iload_n (by rfl) rfl ?_
        refine hxj_iadd (by rfl) hk_30 rfl (by omega) (by omega) (fun z13 ez13 => ?_)
        refine hxj_iald396 (by rfl) rfl (by omega) (by omega) hA10 (fun z14 ez14 fz14 => ?_)
        refine hxa_aload_n (by rfl) rfl ?_
        refine hxa_get (v := .ref 397) (by rfl) (by rfl) (by rfl) rfl ?_
        refine hxa_iload_n (by rfl) rfl ?_
        refine hxj_iald396 (by rfl) rfl (by omega) (by omega) hA10 (fun z15 ez15 fz15 => ?_)
        refine hxj_iandE (by rfl) (fun z16 ez16 => ?_)
        refine hxj_iorE (by rfl) (fun z17 ez17 => ?_)
        refine hxj_iast396 (by rfl) rfl (by omega) (by omega) rfl hA10 (by omega) (fun A18 hA18 eA18 fA18 gA18 => ?_)
        refine hxa_aload_n (by rfl) rfl ?_
        refine hxa_call0 (by rfl) (by rfl) (by rfl) (by rfl) (by rfl) (by rfl) (hX190g (d := d + 0) hA18 (by omega) ((H6.e (congrArg (fun q => q.2) gA10)).e (congrArg (fun q => q.2) gA18))) ?_
        rintro _ A19 ⟨hA19, rfl, D19⟩
        have hc1 := hn_cn (j := a1) (by omega)
        have hc2 := hn_cn (j := a2) (by omega)
        have hc7 := hn_cn (j := z7) (by omega)
        have hc11 := hn_cn (j := z11) (by omega)
        have hc8 := hn_cn (j := z8) (by omega)
        have hc13 := hn_cn (j := z13) (by omega)
        refine hxa_aload_n (by rfl) rfl ?_
        refine hxa_get (v := .ref 396) (by rfl) (by rfl) (by rfl) rfl ?_
        refine hxa_bipush (by rfl) rfl ?_
        refine hxa_iload_n (by rfl) rfl ?_
        refine hxj_iadd (by rfl) hk_30 rfl (by omega) (by omega) (fun z20 ez20 => ?_)
        refine hxj_iald395 (by rfl) rfl (by omega) (by omega) hA19 (fun z21 ez21 fz21 => ?_)
        exact hxa_ireturn (by rfl) rfl (hP _ _ ⟨(hJ.mono hA19 (by omega) (by omega)), _, rfl, Or.inl ⟨by omega, by omega, by omega, by omega, by omega, by rw [← ez21, show z20.toNatClampNeg = 30 + a2.toNatClampNeg by have := hn_cn (j := z20) (by omega); omega], hDone.cg (D19.row w6 (by rw [eA18, eA10]) (fun i hi x => by rw [fA18, hup2 (fun w => hi w.1), fA10, hup2 (fun w => hi w.1)]) (fun k hk => rfl)) (fun k hk => by show _ = A18.2.1 396 k; rw [show z7.toNatClampNeg = 30 + a2.toNatClampNeg by omega] at fA10; rw [show z11.toNatClampNeg = 40 + a2.toNatClampNeg by omega] at fA18 ez12; rw [show z8.toNatClampNeg = 30 + a1.toNatClampNeg by omega, c6 _ (by omega)] at ez9; rw [fA10, hup2 (by omega), c6 _ (by omega)] at ez12; rw [show z13.toNatClampNeg = 30 + a1.toNatClampNeg by omega, fA10, hup2 (by omega), c6 _ (by omega)] at ez14; rw [fA10, hup2 (by omega), c6 _ (by omega)] at ez15; rw [fA18, fA10]; by_cases q1 : k = 30 + a2.toNatClampNeg; (rw [if_pos q1, hup2 (by omega), q1, hup1, ez9]); rw [if_neg q1]; by_cases q2 : k = 40 + a2.toNatClampNeg; (rw [if_pos q2, q2, hup1, ez17, ez16, ez12, ez14, ez15]); rw [if_neg q2, hup2 (by omega), hup2 (by omega)]; exact (c6 k hk).symm)⟩⟩)
      ·
        refine hxa_iconst (by rfl) rfl ?_
        exact hxa_ireturn (by rfl) rfl (hP _ _ ⟨(hJ.mono hA (by omega) (by omega)), _, rfl, Or.inr ⟨by omega, hk_4294967295, rfl⟩⟩)
    ·
      refine hxj_zeq (by rfl) rfl (fun q22 => ?_) (fun q22 => False.elim (by omega))
      refine hxa_iconst (by rfl) rfl ?_
      exact hxa_ireturn (by rfl) rfl (hP _ _ ⟨(hJ.mono hA (by omega) (by omega)), _, rfl, Or.inr ⟨by omega, hk_4294967295, rfl⟩⟩)
  ·
    refine hxj_zeq (by rfl) rfl (fun q23 => ?_) (fun q23 => False.elim (by omega))
    refine hxa_iconst (by rfl) rfl ?_
    exact hxa_ireturn (by rfl) rfl (hP _ _ ⟨(hJ.mono hA (by omega) (by omega)), _, rfl, Or.inr ⟨by omega, hk_4294967295, rfl⟩⟩)
theorem hX193g {d : Nat} {N : Int} {A0 A : hs_A} (hA : hJ 0 N (N + 72) A0 A) (hN : N ≤ 900000) (a1 : Int32) (a2 : Int32) {H : Int} (hH : (A.2.1 376 (A.1 367 18).toNatClampNeg).toInt = H) (uH : uf_H A) : hxC (d + 3) 193 hm_m193 [.ref 368, .int a1, .int a2] A (fun r A' => hJ 0 (N + 72) (N + 144) A0 A' ∧ ∃ z : Int32, r = some (.int z) ∧ ((0 ≤ a1.toInt ∧ a1.toInt < H ∧ 0 ≤ a2.toInt ∧ a2.toInt < H ∧ ¬ a1.toInt = a2.toInt ∧ z = A'.2.1 395 (30 + a2.toNatClampNeg) ∧ hDone A A' (fun k => if k = 30 + a2.toNatClampNeg then A.2.1 395 (30 + a1.toNatClampNeg) else if k = 40 + a2.toNatClampNeg then A.2.1 395 (40 + a2.toNatClampNeg) ||| (A.2.1 395 (30 + a1.toNatClampNeg) &&& A.2.1 395 a2.toNatClampNeg) else A.2.1 395 k)) ∨ ((a1.toInt < 0 ∨ H ≤ a1.toInt ∨ a2.toInt < 0 ∨ H ≤ a2.toInt ∨ a1.toInt = a2.toInt) ∧ z.toInt = -1 ∧ A' = A))) := hxC.of (by rfl) (hY193g hA hN a1 a2 hH uH (fun r A' h => h))
theorem hY86g {d : Nat} {Bn Br : Int} {A0 A : hs_A} (hA : hJ 0 Bn Br A0 A)  (a1 : Int32) (a2 : Int32) {H : Int} (hH : ∀ T, hTT T → A.2.2.2 0 3 = T + 1 → (A.1 T 4).toInt = H) (uH : uf_H A) {P : Option Value → hs_A → Prop} (hP : ∀ (r : Option Value) (A' : hs_A), (hJ 0 Bn Br A0 A' ∧ ∃ z : Int32, r = some (.int z) ∧ (((z.toInt = 1 ∧ 0 ≤ a1.toInt ∧ a1.toInt < H ∧ 0 ≤ a2.toInt ∧ a2.toInt < H ∧ ¬ a1.toInt = a2.toInt) ∨ (z.toInt = 0 ∧ (a1.toInt < 0 ∨ H ≤ a1.toInt ∨ a2.toInt < 0 ∨ H ≤ a2.toInt ∨ a1.toInt = a2.toInt))) ∧ (z.toInt = 1 → hKq A A' ∧ ∀ j, 1 ≤ j → j ≤ 4 → ∀ x : Nat, x < 10 → A'.2.1 (26 + j) x = if x = a1.toNatClampNeg then A.2.1 (26 + j) a2.toNatClampNeg else if x = a2.toNatClampNeg then A.2.1 (26 + j) a1.toNatClampNeg else A.2.1 (26 + j) x) ∧ (¬ z.toInt = 1 → A' = A))) → P r A') : hxa (d + 3) (some (.boolean)) hm_t86 0 [.ref 1, .int a1, .int a2] [] A P := by
  have k0 := hk_0
  have k1 := hk_1
  refine hxa_aload_n (by rfl) rfl ?_
  refine hxa_iload_n (by rfl) rfl ?_
  refine hxa_call0 (by rfl) (by rfl) (by rfl) (by rfl) (by rfl) (by rfl) (hX76f (d := d + 2) hA a1 hH) ?_
  rintro _ _ ⟨rfl, z1, rfl, fz1⟩
  rcases fz1 with fz1 | fz1
  ·
    refine hxj_zeq (by rfl) rfl (fun q2 => False.elim (by omega)) (fun q2 => ?_)
    refine hxa_aload_n (by rfl) rfl ?_
    refine hxa_iload_n (by rfl) rfl ?_
    refine hxa_call0 (by rfl) (by rfl) (by rfl) (by rfl) (by rfl) (by rfl) (hX76f (d := d + 2) hA a2 hH) ?_
    rintro _ _ ⟨rfl, z3, rfl, fz3⟩
    rcases fz3 with fz3 | fz3
    ·
      refine hxj_zeq (by rfl) rfl (fun q4 => False.elim (by omega)) (fun q4 => ?_)
      refine hxa_iload_n (by rfl) rfl ?_
      refine hxa_iload_n (by rfl) rfl ?_
      refine hxj_cne (by rfl) rfl rfl (fun q5 => ?_) (fun q5 => ?_)
      ·
        refine hxa_aload_n (by rfl) rfl ?_
        refine hxa_call0 (by rfl) (by rfl) (by rfl) (by rfl) (by rfl) (by rfl) (uf_i82 uH (hX82g (d := d + 0) hA)) ?_
        rintro _ A6 ⟨⟨hA6, rfl, c6⟩, w6, H6⟩
        refine hxa_aload_n (by rfl) rfl ?_
        refine hxa_get (v := .ref 27) (by rfl) (by rfl) (by rfl) rfl ?_
        refine hxa_iload_n (by rfl) rfl ?_
        refine hxa_iload_n (by rfl) rfl ?_
        refine hxa_call0 (by rfl) (by rfl) (by rfl) (by rfl) (by rfl) (by rfl) (uf_m24 H6 (hX24g (d := d + 1) hA6 hL26 a1 (by omega) (by omega) a2 (by omega) (by omega) (by omega))) ?_
        rintro _ A7 ⟨⟨hA7, rfl, ⟨s71, s72, s73, s74⟩, o7, e7⟩, w7, -⟩
        refine hxa_iconst (by rfl) rfl ?_
        exact hxa_ireturn (by rfl) (by rfl) (hP _ _ ⟨hA7, _, rfl, ⟨by omega, fun _ => ⟨c6.k (hPk.uf w7 (by decide +kernel)), fun j j1 j4 x hx => by have hc1 := hn_cn (j := a1) (by omega); have hc2 := hn_cn (j := a2) (by omega); have hj : j = 1 ∨ j = 2 ∨ j = 3 ∨ j = 4 := (by omega); rcases hj with rfl | rfl | rfl | rfl; (rw [s71 x, w6.2.1 27 _ _ _ rfl (by omega) (by decide +kernel), w6.2.1 27 _ _ _ rfl (by omega) (by decide +kernel), w6.2.1 27 _ _ _ rfl hx (by decide +kernel)]); (rw [s72 x, w6.2.1 28 _ _ _ rfl (by omega) (by decide +kernel), w6.2.1 28 _ _ _ rfl (by omega) (by decide +kernel), w6.2.1 28 _ _ _ rfl hx (by decide +kernel)]); (rw [s73 x, w6.2.1 29 _ _ _ rfl (by omega) (by decide +kernel), w6.2.1 29 _ _ _ rfl (by omega) (by decide +kernel), w6.2.1 29 _ _ _ rfl hx (by decide +kernel)]); (rw [s74 x, w6.2.1 30 _ _ _ rfl (by omega) (by decide +kernel), w6.2.1 30 _ _ _ rfl (by omega) (by decide +kernel), w6.2.1 30 _ _ _ rfl hx (by decide +kernel)])⟩, fun q => absurd hk_1 q⟩⟩)
      ·
        refine hxa_iconst (by rfl) rfl ?_
        exact hxa_ireturn (by rfl) (by rfl) (hP _ _ ⟨hA, _, rfl, ⟨by omega, fun q => False.elim (by omega), fun _ => rfl⟩⟩)
    ·
      refine hxj_zeq (by rfl) rfl (fun q8 => ?_) (fun q8 => False.elim (by omega))
      refine hxa_iconst (by rfl) rfl ?_
      exact hxa_ireturn (by rfl) (by rfl) (hP _ _ ⟨hA, _, rfl, ⟨by omega, fun q => False.elim (by omega), fun _ => rfl⟩⟩)
  ·
    refine hxj_zeq (by rfl) rfl (fun q9 => ?_) (fun q9 => False.elim (by omega))
    refine hxa_iconst (by rfl) rfl ?_
    exact hxa_ireturn (by rfl) (by rfl) (hP _ _ ⟨hA, _, rfl, ⟨by omega, fun q => False.elim (by omega), fun _ => rfl⟩⟩)
theorem hX86g {d : Nat} {Bn Br : Int} {A0 A : hs_A} (hA : hJ 0 Bn Br A0 A)  (a1 : Int32) (a2 : Int32) {H : Int} (hH : ∀ T, hTT T → A.2.2.2 0 3 = T + 1 → (A.1 T 4).toInt = H) (uH : uf_H A) : hxC (d + 4) 86 hm_m86 [.ref 1, .int a1, .int a2] A (fun r A' => hJ 0 Bn Br A0 A' ∧ ∃ z : Int32, r = some (.int z) ∧ (((z.toInt = 1 ∧ 0 ≤ a1.toInt ∧ a1.toInt < H ∧ 0 ≤ a2.toInt ∧ a2.toInt < H ∧ ¬ a1.toInt = a2.toInt) ∨ (z.toInt = 0 ∧ (a1.toInt < 0 ∨ H ≤ a1.toInt ∨ a2.toInt < 0 ∨ H ≤ a2.toInt ∨ a1.toInt = a2.toInt))) ∧ (z.toInt = 1 → hKq A A' ∧ ∀ j, 1 ≤ j → j ≤ 4 → ∀ x : Nat, x < 10 → A'.2.1 (26 + j) x = if x = a1.toNatClampNeg then A.2.1 (26 + j) a2.toNatClampNeg else if x = a2.toNatClampNeg then A.2.1 (26 + j) a1.toNatClampNeg else A.2.1 (26 + j) x) ∧ (¬ z.toInt = 1 → A' = A))) := hxC.of (by rfl) (hY86g hA a1 a2 hH uH (fun r A' h => h))
def hswr (a b : Nat) (f : Nat → Int32) (k : Nat) : Int32 := if k / 10 = 3 ∨ 5 ≤ k / 10 then f k else if k % 10 = a then f (k / 10 * 10 + b) else if k % 10 = b then f (k / 10 * 10 + a) else f k
theorem hswr_s {f F F' : Nat → Int32} {a b m : Nat} (ha : a < 10) (hb : b < 10) (hab : ¬ a = b) (hm : m < 5) (hm3 : ¬ m = 3) (h : ∀ k, F k = if k < 10 * m then hswr a b f k else f k) (h' : ∀ k, F' k = if k = 10 * m + a then F (10 * m + b) else if k = 10 * m + b then F (10 * m + a) else F k) : ∀ k, F' k = if k < 10 * (m + 1) then hswr a b f k else f k := by
  intro k
  rw [h' k]
  by_cases q : k = 10 * m + a
  · rw [if_pos q, h, if_neg (by omega), if_pos (by omega)]
    unfold hswr
    rw [if_neg (by omega), if_pos (by omega), show k / 10 * 10 + b = 10 * m + b by omega]
  · rw [if_neg q]
    by_cases p : k = 10 * m + b
    · rw [if_pos p, h, if_neg (by omega), if_pos (by omega)]
      unfold hswr
      rw [if_neg (by omega), if_neg (by omega), if_pos (by omega), show k / 10 * 10 + a = 10 * m + a by omega]
    · rw [if_neg p, h]
      by_cases w : k < 10 * m
      · rw [if_pos w, if_pos (by omega)]
      · rw [if_neg w]
        by_cases v : k < 10 * (m + 1)
        · rw [if_pos v]
          unfold hswr
          rw [if_neg (by omega), if_neg (by omega), if_neg (by omega)]
        · rw [if_neg v]
theorem hswr_3 {f F : Nat → Int32} {a b : Nat} (h : ∀ k, F k = if k < 10 * 3 then hswr a b f k else f k) : ∀ k, F k = if k < 10 * (3 + 1) then hswr a b f k else f k := by
  intro k
  rw [h]
  by_cases w : k < 10 * 3
  · rw [if_pos w, if_pos (by omega)]
  · rw [if_neg w]
    by_cases v : k < 10 * (3 + 1)
    · rw [if_pos v]
      unfold hswr
      rw [if_pos (by omega)]
    · rw [if_neg v]
theorem hch_s {A Ac A8 A10 : hs_A} {x a1 a2 z3 z4 z5 z6 z7 z9 z11 : Int32} (iv : ∃ m : Nat, x.toInt = 10 * (m : Int) ∧ m ≤ 5 ∧ ∀ k, Ac.2.1 396 k = if k < 10 * m then hswr a1.toNatClampNeg a2.toNatClampNeg (A.2.1 396) k else A.2.1 396 k) (p1 : 0 ≤ a1.toInt) (q1 : a1.toInt ≤ 9) (p2 : 0 ≤ a2.toInt) (q2 : a2.toInt ≤ 9) (hab : ¬ a1.toInt = a2.toInt) (hx : x.toInt < 50 ∧ ¬ x.toInt = 30) (e3 : z3.toInt = x.toInt + a1.toInt) (e4 : Ac.2.1 396 z3.toNatClampNeg = z4) (e5 : z5.toInt = x.toInt + a1.toInt) (e6 : z6.toInt = x.toInt + a2.toInt) (e7 : Ac.2.1 396 z6.toNatClampNeg = z7) (f8 : A8.2.1 = hs_up Ac.2.1 396 z5.toNatClampNeg z7) (e9 : z9.toInt = x.toInt + a2.toInt) (f10 : A10.2.1 = hs_up A8.2.1 396 z9.toNatClampNeg z4) (e11 : z11.toInt = x.toInt + 10) : ∃ m : Nat, z11.toInt = 10 * (m : Int) ∧ m ≤ 5 ∧ ∀ k, A10.2.1 396 k = if k < 10 * m then hswr a1.toNatClampNeg a2.toNatClampNeg (A.2.1 396) k else A.2.1 396 k := by
  obtain ⟨m, h1, h2, h3⟩ := iv
  have c1 := hn_cn (j := a1) p1
  have c2 := hn_cn (j := a2) p2
  have c3 := hn_cn (j := z3) (by omega)
  have c5 := hn_cn (j := z5) (by omega)
  have c6 := hn_cn (j := z6) (by omega)
  have c9 := hn_cn (j := z9) (by omega)
  refine ⟨m + 1, by omega, by omega, hswr_s (F := Ac.2.1 396) (by omega) (by omega) (by omega) (by omega) (by omega) h3 (fun k => ?_)⟩
  rw [show z3.toNatClampNeg = 10 * m + a1.toNatClampNeg by omega] at e4
  rw [show z6.toNatClampNeg = 10 * m + a2.toNatClampNeg by omega] at e7
  rw [show z5.toNatClampNeg = 10 * m + a1.toNatClampNeg by omega] at f8
  rw [show z9.toNatClampNeg = 10 * m + a2.toNatClampNeg by omega] at f10
  rw [f10, f8]
  exact hsw e4 e7 (by omega) k
theorem hch_3 {A Ac : hs_A} {x a1 a2 z12 : Int32} (iv : ∃ m : Nat, x.toInt = 10 * (m : Int) ∧ m ≤ 5 ∧ ∀ k, Ac.2.1 396 k = if k < 10 * m then hswr a1.toNatClampNeg a2.toNatClampNeg (A.2.1 396) k else A.2.1 396 k) (hx : x.toInt = 30) (e12 : z12.toInt = x.toInt + 10) : ∃ m : Nat, z12.toInt = 10 * (m : Int) ∧ m ≤ 5 ∧ ∀ k, Ac.2.1 396 k = if k < 10 * m then hswr a1.toNatClampNeg a2.toNatClampNeg (A.2.1 396) k else A.2.1 396 k := by
  obtain ⟨m, h1, h2, h3⟩ := iv
  obtain rfl : m = 3 := by omega
  exact ⟨4, by omega, by omega, hswr_3 h3⟩
theorem hY194g {d : Nat} {Bn Br : Int} {A0 A : hs_A} (hA : hJ 0 Bn Br A0 A)  (a1 : Int32) (p1 : 0 ≤ a1.toInt) (q1 : a1.toInt ≤ 9) (a2 : Int32) (p2 : 0 ≤ a2.toInt) (q2 : a2.toInt ≤ 9) (hab : ¬ a1.toInt = a2.toInt) {P : Option Value → hs_A → Prop} (hP : ∀ (r : Option Value) (A' : hs_A), (hJ 0 Bn Br A0 A' ∧ r = none ∧ ((∀ k : Nat, k < 73 → A'.2.1 396 k = hswr a1.toNatClampNeg a2.toNatClampNeg (A.2.1 396) k) ∧ (∀ i, ¬ i = 396 → ∀ x, A'.2.1 i x = A.2.1 i x) ∧ A'.1 = A.1 ∧ A'.2.2 = A.2.2)) → P r A') : hxa (d + 0) none hm_t194 0 [.ref 368, .int a1, .int a2, .retAddr 0, .retAddr 0] [] A P := by
  have k0 := hk_0
  have bq1 := q1
  have bq2 := q2
  have L2 : ∀ (m2 : Nat) (x2_3 : Int32) (x2_4 : Value) (Ac2 : hs_A) (hAc2 : hJ 0 Bn Br A0 Ac2) (bx2_3 : 0 ≤ x2_3.toInt) (cx2_3 : x2_3.toInt ≤ 255) (hm2 : 255 - x2_3.toInt < (m2 : Int)) (iv2 : (∃ m : Nat, x2_3.toInt = 10 * (m : Int) ∧ m ≤ 5 ∧ ∀ k, Ac2.2.1 396 k = if k < 10 * m then hswr a1.toNatClampNeg a2.toNatClampNeg (A.2.1 396) k else A.2.1 396 k) ∧ (∀ i, ¬ i = 396 → ∀ x, Ac2.2.1 i x = A.2.1 i x) ∧ Ac2.1 = A.1 ∧ Ac2.2.2 = A.2.2), hxa (d + 0) none hm_t194 2 [.ref 368, .int a1, .int a2, .int x2_3, x2_4] [] Ac2 P := by
    intro m2
    induction m2 with
    | zero => intro x2_3 x2_4 Ac2 hAc2 bx2_3 cx2_3 hm2 iv2;  exact False.elim (by omega)
    | succ m2 ih2 =>
      intro x2_3 x2_4 Ac2 hAc2 bx2_3 cx2_3 hm2 iv2
      refine hxa_iload_n (by rfl) rfl ?_
      refine hxa_bipush (by rfl) rfl ?_
      refine hxj_cge (by rfl) rfl hk_50 (fun q1 => ?_) (fun q1 => ?_)
      ·
        exact hxa_return (by rfl) rfl (hP _ _ ⟨hAc2, rfl, by obtain ⟨⟨m, u1, u2, u3⟩, u4⟩ := iv2; exact ⟨fun k hk => by rw [u3 k]; by_cases w : k < 10 * m; (rw [if_pos w]); (rw [if_neg w]; unfold hswr; rw [if_pos (by omega)]), u4⟩⟩)
      ·
        refine hxa_iload_n (by rfl) rfl ?_
        refine hxa_bipush (by rfl) rfl ?_
        refine hxj_cne (by rfl) rfl hk_30 (fun q2 => ?_) (fun q2 => ?_)
        ·
          refine hxa_aload_n (by rfl) rfl ?_
          refine hxa_get (v := .ref 397) (by rfl) (by rfl) (by rfl) rfl ?_
          refine hxa_iload_n (by rfl) rfl ?_
          refine hxa_iload_n (by rfl) rfl ?_
          refine hxj_iadd (by rfl) rfl rfl (by omega) (by omega) (fun z3 ez3 => ?_)
          refine hxj_iald396 (by rfl) rfl (by omega) (by omega) hAc2 (fun z4 ez4 fz4 => ?_)
          refine hxa_s1 (by rfl) (Or.inr ⟨_, rfl, rfl⟩) rfl ?_
          refine hxa_aload_n (by rfl) rfl ?_
          refine hxa_get (v := .ref 397) (by rfl) (by rfl) (by rfl) rfl ?_
          refine hxa_iload_n (by rfl) rfl ?_
          refine hxa_iload_n (by rfl) rfl ?_
          refine hxj_iadd (by rfl) rfl rfl (by omega) (by omega) (fun z5 ez5 => ?_)
          refine hxa_aload_n (by rfl) rfl ?_
          refine hxa_get (v := .ref 397) (by rfl) (by rfl) (by rfl) rfl ?_
          refine hxa_iload_n (by rfl) rfl ?_
          refine hxa_iload_n (by rfl) rfl ?_
          refine hxj_iadd (by rfl) rfl rfl (by omega) (by omega) (fun z6 ez6 => ?_)
          refine hxj_iald396 (by rfl) rfl (by omega) (by omega) hAc2 (fun z7 ez7 fz7 => ?_)
          refine hxj_iast396 (by rfl) rfl (by omega) (by omega) rfl hAc2 (by omega) (fun A8 hA8 eA8 fA8 gA8 => ?_)
          refine hxa_aload_n (by rfl) rfl ?_
          refine hxa_get (v := .ref 397) (by rfl) (by rfl) (by rfl) rfl ?_
          refine hxa_iload_n (by rfl) rfl ?_
          refine hxa_iload_n (by rfl) rfl ?_
          refine hxj_iadd (by rfl) rfl rfl (by omega) (by omega) (fun z9 ez9 => ?_)
          refine hxa_iload (by rfl) rfl ?_
          refine hxj_iast396 (by rfl) rfl (by omega) (by omega) rfl hA8 (by omega) (fun A10 hA10 eA10 fA10 gA10 => ?_)
          refine hxj_iinc (by rfl) rfl rfl hk_10 (by omega) (by omega) (fun _ => rfl) (fun z11 ez11 => ?_)
          refine hxa_goto (by rfl) ?_
          exact ih2 z11 (.int z4) A10 hA10 (by omega) (by omega) (by omega) ⟨hch_s iv2.1 p1 bq1 p2 bq2 hab (by omega) ez3 ez4 ez5 ez6 ez7 fA8 ez9 fA10 ez11, fun i hi x => by rw [fA10, hup2 (fun w => hi w.1), fA8, hup2 (fun w => hi w.1)]; exact iv2.2.1 i hi x, by rw [eA10, eA8]; exact iv2.2.2.1, by rw [gA10, gA8]; exact iv2.2.2.2⟩
        ·
          refine hxa_goto (by rfl) ?_
          refine hxj_iinc (by rfl) rfl rfl hk_10 (by omega) (by omega) (fun _ => rfl) (fun z12 ez12 => ?_)
          refine hxa_goto (by rfl) ?_
          exact ih2 z12 (x2_4) Ac2 hAc2 (by omega) (by omega) (by omega) ⟨hch_3 iv2.1 (by omega) ez12, iv2.2⟩
  refine hxa_iconst (by rfl) rfl ?_
  refine hxa_s1 (by rfl) (Or.inl ⟨_, rfl, rfl⟩) rfl ?_
  exact L2 (Int.toNat (255 - 0) + 1) (Int32.ofNat 0) (.retAddr 0) A hA (by omega) (by omega) (by omega) (⟨⟨0, by rw [hk_0]; omega, by omega, fun k => by rw [if_neg (by omega)]⟩, fun _ _ _ => rfl, rfl, rfl⟩)
theorem hX194g {d : Nat} {Bn Br : Int} {A0 A : hs_A} (hA : hJ 0 Bn Br A0 A)  (a1 : Int32) (p1 : 0 ≤ a1.toInt) (q1 : a1.toInt ≤ 9) (a2 : Int32) (p2 : 0 ≤ a2.toInt) (q2 : a2.toInt ≤ 9) (hab : ¬ a1.toInt = a2.toInt) : hxC (d + 1) 194 hm_m194 [.ref 368, .int a1, .int a2] A (fun r A' => hJ 0 Bn Br A0 A' ∧ r = none ∧ ((∀ k : Nat, k < 73 → A'.2.1 396 k = hswr a1.toNatClampNeg a2.toNatClampNeg (A.2.1 396) k) ∧ (∀ i, ¬ i = 396 → ∀ x, A'.2.1 i x = A.2.1 i x) ∧ A'.1 = A.1 ∧ A'.2.2 = A.2.2)) := hxC.of (by rfl) (hY194g hA a1 p1 q1 a2 p2 q2 hab (fun r A' h => h))
theorem uf_j194 {d : Nat} {A : hs_A} {P : Option Value → hs_A → Prop} {a1 a2 : Int32} (hH : uf_H A) (w : hxC d 194 hm_m194 [.ref 368, .int a1, .int a2] A P) : hxC d 194 hm_m194 [.ref 368, .int a1, .int a2] A (fun r A' => P r A' ∧ uf_W ug_x204.2.2.2.1 A A' ∧ uf_H A') := uf_X (X := ug_x204) (j := 204) rfl rfl (ug_L.cons uf_r1 (uf_int (uf_int uf_nil))) hH w
theorem hswr_x {f g : Nat → Int32} {a b k : Nat} (h : ∀ j : Nat, j < 73 → f j = g j) (ha : a < 10) (hb : b < 10) (hk : k < 73) : hswr a b f k = hswr a b g k := by
  unfold hswr
  rw [h k hk]
  by_cases q : k / 10 = 3 ∨ 5 ≤ k / 10
  · rw [if_pos q, if_pos q]
  · rw [if_neg q, if_neg q, h (k / 10 * 10 + b) (by omega), h (k / 10 * 10 + a) (by omega)]
theorem hY195g {d : Nat} {N : Int} {A0 A : hs_A} (hA : hJ 0 N (N + 72) A0 A) (hN : N ≤ 900000) (a1 : Int32) (a2 : Int32) {H : Int} (hH : (A.2.1 376 (A.1 367 18).toNatClampNeg).toInt = H) (uH : uf_H A) {P : Option Value → hs_A → Prop} (hP : ∀ (r : Option Value) (A' : hs_A), (hJ 0 (N + 72) (N + 144) A0 A' ∧ ∃ z : Int32, r = some (.int z) ∧ (((z.toInt = 1 ∧ 0 ≤ a1.toInt ∧ a1.toInt < H ∧ 0 ≤ a2.toInt ∧ a2.toInt < H ∧ ¬ a1.toInt = a2.toInt) ∨ (z.toInt = 0 ∧ (a1.toInt < 0 ∨ H ≤ a1.toInt ∨ a2.toInt < 0 ∨ H ≤ a2.toInt ∨ a1.toInt = a2.toInt))) ∧ (z.toInt = 1 → hDone A A' (hswr a1.toNatClampNeg a2.toNatClampNeg (A.2.1 395))) ∧ (¬ z.toInt = 1 → A' = A))) → P r A') : hxa (d + 2) (some (.boolean)) hm_t195 0 [.ref 368, .int a1, .int a2] [] A P := by
  have k0 := hk_0
  have k1 := hk_1
  refine hxa_aload_n (by rfl) rfl ?_
  refine hxa_iload_n (by rfl) rfl ?_
  refine hxa_call0 (by rfl) (by rfl) (by rfl) (by rfl) (by rfl) (by rfl) (hX167f (d := d + 0) hA a1 hH) ?_
  rintro _ _ ⟨rfl, z1, rfl, fz1⟩
  rcases fz1 with fz1 | fz1
  ·
    refine hxj_zeq (by rfl) rfl (fun q2 => False.elim (by omega)) (fun q2 => ?_)
    refine hxa_aload_n (by rfl) rfl ?_
    refine hxa_iload_n (by rfl) rfl ?_
    refine hxa_call0 (by rfl) (by rfl) (by rfl) (by rfl) (by rfl) (by rfl) (hX167f (d := d + 0) hA a2 hH) ?_
    rintro _ _ ⟨rfl, z3, rfl, fz3⟩
    rcases fz3 with fz3 | fz3
    ·
      refine hxj_zeq (by rfl) rfl (fun q4 => False.elim (by omega)) (fun q4 => ?_)
      refine hxa_iload_n (by rfl) rfl ?_
      refine hxa_iload_n (by rfl) rfl ?_
      refine hxj_cne (by rfl) rfl rfl (fun q5 => ?_) (fun q5 => ?_)
      ·
        refine hxa_aload_n (by rfl) rfl ?_
        refine hxa_call0 (by rfl) (by rfl) (by rfl) (by rfl) (by rfl) (by rfl) (uf_i171 uH (hX171g (d := d + 1) hA)) ?_
        rintro _ A6 ⟨⟨hA6, rfl, c6⟩, w6, H6⟩
        refine hxa_aload_n (by rfl) rfl ?_
        refine hxa_iload_n (by rfl) rfl ?_
        refine hxa_iload_n (by rfl) rfl ?_
        refine hxa_call0 (by rfl) (by rfl) (by rfl) (by rfl) (by rfl) (by rfl) (uf_j194 H6 (hX194g (d := d + 1) hA6 a1 (by omega) (by omega) a2 (by omega) (by omega) (by omega))) ?_
        rintro _ A7 ⟨⟨hA7, rfl, c7, o7, e7, g7⟩, w7, H7⟩
        refine hxa_aload_n (by rfl) rfl ?_
        refine hxa_call0 (by rfl) (by rfl) (by rfl) (by rfl) (by rfl) (by rfl) (hX190g (d := d + 0) hA7 (by omega) H7) ?_
        rintro _ A8 ⟨hA8, rfl, D8⟩
        refine hxa_iconst (by rfl) rfl ?_
        exact hxa_ireturn (by rfl) (by rfl) (hP _ _ ⟨(hJ.mono hA8 (by omega) (by omega)), _, rfl, ⟨by omega, fun _ => D8.row w6 e7 o7 (fun k hk => by rw [c7 k hk]; exact hswr_x (fun j hj => c6 j hj) (by have := hn_cn (j := a1) (by omega); omega) (by have := hn_cn (j := a2) (by omega); omega) hk), fun q => absurd hk_1 q⟩⟩)
      ·
        refine hxa_iconst (by rfl) rfl ?_
        exact hxa_ireturn (by rfl) (by rfl) (hP _ _ ⟨(hJ.mono hA (by omega) (by omega)), _, rfl, ⟨by omega, fun q => False.elim (by omega), fun _ => rfl⟩⟩)
    ·
      refine hxj_zeq (by rfl) rfl (fun q9 => ?_) (fun q9 => False.elim (by omega))
      refine hxa_iconst (by rfl) rfl ?_
      exact hxa_ireturn (by rfl) (by rfl) (hP _ _ ⟨(hJ.mono hA (by omega) (by omega)), _, rfl, ⟨by omega, fun q => False.elim (by omega), fun _ => rfl⟩⟩)
  ·
    refine hxj_zeq (by rfl) rfl (fun q10 => ?_) (fun q10 => False.elim (by omega))
    refine hxa_iconst (by rfl) rfl ?_
    exact hxa_ireturn (by rfl) (by rfl) (hP _ _ ⟨(hJ.mono hA (by omega) (by omega)), _, rfl, ⟨by omega, fun q => False.elim (by omega), fun _ => rfl⟩⟩)
theorem hX195g {d : Nat} {N : Int} {A0 A : hs_A} (hA : hJ 0 N (N + 72) A0 A) (hN : N ≤ 900000) (a1 : Int32) (a2 : Int32) {H : Int} (hH : (A.2.1 376 (A.1 367 18).toNatClampNeg).toInt = H) (uH : uf_H A) : hxC (d + 3) 195 hm_m195 [.ref 368, .int a1, .int a2] A (fun r A' => hJ 0 (N + 72) (N + 144) A0 A' ∧ ∃ z : Int32, r = some (.int z) ∧ (((z.toInt = 1 ∧ 0 ≤ a1.toInt ∧ a1.toInt < H ∧ 0 ≤ a2.toInt ∧ a2.toInt < H ∧ ¬ a1.toInt = a2.toInt) ∨ (z.toInt = 0 ∧ (a1.toInt < 0 ∨ H ≤ a1.toInt ∨ a2.toInt < 0 ∨ H ≤ a2.toInt ∨ a1.toInt = a2.toInt))) ∧ (z.toInt = 1 → hDone A A' (hswr a1.toNatClampNeg a2.toNatClampNeg (A.2.1 395))) ∧ (¬ z.toInt = 1 → A' = A))) := hxC.of (by rfl) (hY195g hA hN a1 a2 hH uH (fun r A' h => h))
