/-! A LIFE COPIED -/
section HXF
variable {d : Nat} {ret : Option FieldType} {tb : hc_K} {pc len r1 r2 : Nat} {l st : List Value} {A0 A : hs_A} {P : Option Value → hs_A → Prop} {Q : Nat} {Bn Br : Int}
theorem hxj_copyE {z i0 i1 m : Nat} {w : Int32} (hI : hc_get tb pc = some (.invokestatic z, len, r1, 8)) (hs0 : hc_get hs_sh i0 = some (0, 1, [m])) (hs1 : hc_get hs_sh i1 = some (0, 1, [m])) (hw : w.toInt = (m : Int)) (hcat : Nat.ble (hc_cat st) 8 = true) (hA : hJ Q Bn Br A0 A) (hx : ∀ v, hb_ok (hb_a i0) v → hb_ok (hb_a i1) v) (hr : hr_a Q i1 = true) (hn : hq Q i1 = true) (k : ∀ A' : hs_A, hJ Q Bn Br A0 A' → A'.1 = A.1 → A'.2.1 = hs_cpy A.2.1 i0 i1 → A'.2.2 = A.2.2 → hxa d ret tb (pc + 3) l st A' P) {e0 e1 : Int32} (q0 : e0 = 0) (q1 : e1 = 0) : hxa d ret tb pc l (.int w :: .int e1 :: .ref (i1 + 1) :: .int e0 :: .ref (i0 + 1) :: st) A P := by
  subst q0
  subst q1
  exact hxa_copy hI hs0 hs1 (by rw [Int32.lt_iff_toInt_lt]; have : (0 : Int32).toInt = 0 := by decide
                                omega) (by show w.toInt.toNat = m; omega) hcat (k _ (hA.cpy hx hr hn) rfl rfl rfl)
theorem hxj_ixorE {x y : Int32} (hI : hc_get tb pc = some (.ixor, len, r1, r2)) (k : ∀ z : Int32, z = x ^^^ y → hxa d ret tb (pc + 1) l (.int z :: st) A P) : hxa d ret tb pc l (.int y :: .int x :: st) A P := hxa_ixor hI (k _ rfl)
end HXF
def hCp (L M : Nat) (A A' : hs_A) : Prop := (∀ k, 6 ≤ k → k ≤ 10 → A'.1 L k = A.1 M k) ∧ (∀ j, 1 ≤ j → j ≤ 6 → ∀ x, A'.2.1 (L + j) x = A.2.1 (M + j) x) ∧ (∀ i k, ¬ i = L → A'.1 i k = A.1 i k) ∧ (∀ i, (i ≤ L ∨ L + 7 ≤ i) → ∀ x, A'.2.1 i x = A.2.1 i x) ∧ A'.2.2 = A.2.2
theorem hcp1 {f : Nat → Nat → Int32} {i0 i1 b : Nat} : hs_cpy f i0 i1 i1 b = f i0 b := by unfold hs_cpy; rw [if_pos rfl]
theorem hcp2 {f : Nat → Nat → Int32} {i0 i1 a b : Nat} (h : ¬ a = i1) : hs_cpy f i0 i1 a b = f a b := by unfold hs_cpy; rw [if_neg h]
theorem hCp_mk {L M : Nat} (hne : M + 7 ≤ L ∨ L + 7 ≤ M) {A A2 A4 A6 A8 A10 A11 A12 A13 A14 A15 A16 : hs_A} {z1 z3 z5 z7 z9 : Int32} (ez1 : A.1 M 6 = z1) (eA2 : A2.1 = hs_up A.1 L 6 z1) (fA2 : A2.2 = A.2) (ez3 : A2.1 M 7 = z3) (eA4 : A4.1 = hs_up A2.1 L 7 z3) (fA4 : A4.2 = A2.2) (ez5 : A4.1 M 8 = z5) (eA6 : A6.1 = hs_up A4.1 L 8 z5) (fA6 : A6.2 = A4.2) (ez7 : A6.1 M 9 = z7) (eA8 : A8.1 = hs_up A6.1 L 9 z7) (fA8 : A8.2 = A6.2) (ez9 : A8.1 M 10 = z9) (eA10 : A10.1 = hs_up A8.1 L 10 z9) (fA10 : A10.2 = A8.2) (eA11 : A11.1 = A10.1) (fA11 : A11.2.1 = hs_cpy A10.2.1 (M + 1) (L + 1)) (gA11 : A11.2.2 = A10.2.2) (eA12 : A12.1 = A11.1) (fA12 : A12.2.1 = hs_cpy A11.2.1 (M + 2) (L + 2)) (gA12 : A12.2.2 = A11.2.2) (eA13 : A13.1 = A12.1) (fA13 : A13.2.1 = hs_cpy A12.2.1 (M + 3) (L + 3)) (gA13 : A13.2.2 = A12.2.2) (eA14 : A14.1 = A13.1) (fA14 : A14.2.1 = hs_cpy A13.2.1 (M + 4) (L + 4)) (gA14 : A14.2.2 = A13.2.2) (eA15 : A15.1 = A14.1) (fA15 : A15.2.1 = hs_cpy A14.2.1 (M + 5) (L + 5)) (gA15 : A15.2.2 = A14.2.2) (eA16 : A16.1 = A15.1) (fA16 : A16.2.1 = hs_cpy A15.2.1 (M + 6) (L + 6)) (gA16 : A16.2.2 = A15.2.2) : hCp L M A A16 := by
  have hML : ¬ M = L := by omega
  have mA2 : ∀ k, A2.1 M k = A.1 M k := fun k => by rw [eA2, hup2 (fun q => hML q.1)]
  have mA4 : ∀ k, A4.1 M k = A.1 M k := fun k => by rw [eA4, hup2 (fun q => hML q.1)]; exact mA2 k
  have mA6 : ∀ k, A6.1 M k = A.1 M k := fun k => by rw [eA6, hup2 (fun q => hML q.1)]; exact mA4 k
  have mA8 : ∀ k, A8.1 M k = A.1 M k := fun k => by rw [eA8, hup2 (fun q => hML q.1)]; exact mA6 k
  have mA10 : ∀ k, A10.1 M k = A.1 M k := fun k => by rw [eA10, hup2 (fun q => hML q.1)]; exact mA8 k
  have o10 : ∀ i k, ¬ i = L → A10.1 i k = A.1 i k := fun i k h => by rw [eA10, hup2 (fun q => h q.1), eA8, hup2 (fun q => h q.1), eA6, hup2 (fun q => h q.1), eA4, hup2 (fun q => h q.1), eA2, hup2 (fun q => h q.1)]
  have a10 : A10.2 = A.2 := by rw [fA10, fA8, fA6, fA4, fA2]
  refine ⟨fun k h1 h2 => ?_, fun j h1 h2 x => ?_, fun i k h => ?_, fun i h x => ?_, ?_⟩
  · rw [eA16, eA15, eA14, eA13, eA12, eA11]
    have q : k = 6 ∨ k = 7 ∨ k = 8 ∨ k = 9 ∨ k = 10 := by omega
    rcases q with rfl | rfl | rfl | rfl | rfl
    · rw [eA10, hup2 (by omega), eA8, hup2 (by omega), eA6, hup2 (by omega), eA4, hup2 (by omega), eA2, hup1, ← ez1]
    · rw [eA10, hup2 (by omega), eA8, hup2 (by omega), eA6, hup2 (by omega), eA4, hup1, ← ez3]; exact mA2 7
    · rw [eA10, hup2 (by omega), eA8, hup2 (by omega), eA6, hup1, ← ez5]; exact mA4 8
    · rw [eA10, hup2 (by omega), eA8, hup1, ← ez7]; exact mA6 9
    · rw [eA10, hup1, ← ez9]; exact mA8 10
  · have q : j = 1 ∨ j = 2 ∨ j = 3 ∨ j = 4 ∨ j = 5 ∨ j = 6 := by omega
    rcases q with rfl | rfl | rfl | rfl | rfl | rfl
    · rw [fA16, hcp2 (by omega), fA15, hcp2 (by omega), fA14, hcp2 (by omega), fA13, hcp2 (by omega), fA12, hcp2 (by omega), fA11, hcp1, a10]
    · rw [fA16, hcp2 (by omega), fA15, hcp2 (by omega), fA14, hcp2 (by omega), fA13, hcp2 (by omega), fA12, hcp1, fA11, hcp2 (by omega), a10]
    · rw [fA16, hcp2 (by omega), fA15, hcp2 (by omega), fA14, hcp2 (by omega), fA13, hcp1, fA12, hcp2 (by omega), fA11, hcp2 (by omega), a10]
    · rw [fA16, hcp2 (by omega), fA15, hcp2 (by omega), fA14, hcp1, fA13, hcp2 (by omega), fA12, hcp2 (by omega), fA11, hcp2 (by omega), a10]
    · rw [fA16, hcp2 (by omega), fA15, hcp1, fA14, hcp2 (by omega), fA13, hcp2 (by omega), fA12, hcp2 (by omega), fA11, hcp2 (by omega), a10]
    · rw [fA16, hcp1, fA15, hcp2 (by omega), fA14, hcp2 (by omega), fA13, hcp2 (by omega), fA12, hcp2 (by omega), fA11, hcp2 (by omega), a10]
  · rw [eA16, eA15, eA14, eA13, eA12, eA11]
    exact o10 i k h
  · rw [fA16, hcp2 (by omega), fA15, hcp2 (by omega), fA14, hcp2 (by omega), fA13, hcp2 (by omega), fA12, hcp2 (by omega), fA11, hcp2 (by omega), a10]
  · rw [gA16, gA15, gA14, gA13, gA12, gA11, a10]
theorem hY17g {d : Nat} {Bn Br : Int} {A0 A : hs_A} (hA : hJ 0 Bn Br A0 A)  {L : Nat} (hL : hLL L) {L1 : Nat} (hL1 : hLL L1) (hne : L1 + 7 ≤ L ∨ L + 7 ≤ L1) {P : Option Value → hs_A → Prop} (hP : ∀ (r : Option Value) (A' : hs_A), (hJ 0 Bn Br A0 A' ∧ r = none ∧ hCp L L1 A A') → P r A') : hxa (d + 0) none hm_t17 0 [.ref (L + 1), .ref (L1 + 1)] [] A P := by
  refine hxa_aload_n (by rfl) rfl ?_
  refine hxa_aload_n (by rfl) rfl ?_
  refine hxj_getB (by rfl) (hsL hL1) (by rfl) hA (hbL_6 hL1) (fun z1 ez1 fz1 gz1 => ?_)
  refine hxj_putI (by rfl) (hsL hL) (by rfl) (by rfl) hA (hbok (hbL_6 hL) rfl (by omega) (by omega)) (hrL_6 hL) (by rfl) (fun A2 hA2 eA2 fA2 => ?_)
  refine hxa_aload_n (by rfl) rfl ?_
  refine hxa_aload_n (by rfl) rfl ?_
  refine hxj_getI (by rfl) (hsL hL1) (by rfl) (fun z3 ez3 => ?_)
  refine hxj_putI (by rfl) (hsL hL) (by rfl) (by rfl) hA2 (hbokN (hbL_7 hL)) (hrL_7 hL) (by rfl) (fun A4 hA4 eA4 fA4 => ?_)
  refine hxa_aload_n (by rfl) rfl ?_
  refine hxa_aload_n (by rfl) rfl ?_
  refine hxj_getB (by rfl) (hsL hL1) (by rfl) hA4 (hbL_8 hL1) (fun z5 ez5 fz5 gz5 => ?_)
  refine hxj_putI (by rfl) (hsL hL) (by rfl) (by rfl) hA4 (hbok (hbL_8 hL) rfl (by omega) (by omega)) (hrL_8 hL) (by rfl) (fun A6 hA6 eA6 fA6 => ?_)
  refine hxa_aload_n (by rfl) rfl ?_
  refine hxa_aload_n (by rfl) rfl ?_
  refine hxj_getI (by rfl) (hsL hL1) (by rfl) (fun z7 ez7 => ?_)
  refine hxj_putI (by rfl) (hsL hL) (by rfl) (by rfl) hA6 (hbokN (hbL_9 hL)) (hrL_9 hL) (by rfl) (fun A8 hA8 eA8 fA8 => ?_)
  refine hxa_aload_n (by rfl) rfl ?_
  refine hxa_aload_n (by rfl) rfl ?_
  refine hxj_getI (by rfl) (hsL hL1) (by rfl) (fun z9 ez9 => ?_)
  refine hxj_putI (by rfl) (hsL hL) (by rfl) (by rfl) hA8 (hbokN (hbL_10 hL)) (hrL_10 hL) (by rfl) (fun A10 hA10 eA10 fA10 => ?_)
  refine hxa_aload_n (by rfl) rfl ?_
  refine hxa_get (v := .ref (L1 + 2)) (by rfl) (hsL hL1) (by rfl) (hvL hL1 (by omega)) ?_
  refine hxa_iconst (by rfl) rfl ?_
  refine hxa_aload_n (by rfl) rfl ?_
  refine hxa_get (v := .ref (L + 2)) (by rfl) (hsL hL) (by rfl) (hvL hL (by omega)) ?_
  refine hxa_iconst (by rfl) rfl ?_
  refine hxa_bipush (by rfl) rfl ?_
  refine hxj_copyE (by rfl) (hsLa hL1 (by omega) (by omega)) (hsLa hL (by omega) (by omega)) hk_10 (by rfl) hA10 (fun _ _ => hbokN (haL1 hL)) (hrLa hL (by omega) (by omega)) (hqL hL (by omega)) (fun A11 hA11 eA11 fA11 gA11 => ?_) rfl rfl
  refine hxa_aload_n (by rfl) rfl ?_
  refine hxa_get (v := .ref (L1 + 3)) (by rfl) (hsL hL1) (by rfl) (hvL hL1 (by omega)) ?_
  refine hxa_iconst (by rfl) rfl ?_
  refine hxa_aload_n (by rfl) rfl ?_
  refine hxa_get (v := .ref (L + 3)) (by rfl) (hsL hL) (by rfl) (hvL hL (by omega)) ?_
  refine hxa_iconst (by rfl) rfl ?_
  refine hxa_bipush (by rfl) rfl ?_
  refine hxj_copyE (by rfl) (hsLa hL1 (by omega) (by omega)) (hsLa hL (by omega) (by omega)) hk_10 (by rfl) hA11 (fun _ _ => hbokN (haL2 hL)) (hrLa hL (by omega) (by omega)) (hqL hL (by omega)) (fun A12 hA12 eA12 fA12 gA12 => ?_) rfl rfl
  refine hxa_aload_n (by rfl) rfl ?_
  refine hxa_get (v := .ref (L1 + 4)) (by rfl) (hsL hL1) (by rfl) (hvL hL1 (by omega)) ?_
  refine hxa_iconst (by rfl) rfl ?_
  refine hxa_aload_n (by rfl) rfl ?_
  refine hxa_get (v := .ref (L + 4)) (by rfl) (hsL hL) (by rfl) (hvL hL (by omega)) ?_
  refine hxa_iconst (by rfl) rfl ?_
  refine hxa_bipush (by rfl) rfl ?_
  refine hxj_copyE (by rfl) (hsLa hL1 (by omega) (by omega)) (hsLa hL (by omega) (by omega)) hk_10 (by rfl) hA12 (fun _ _ => hbokN (haL3 hL)) (hrLa hL (by omega) (by omega)) (hqL hL (by omega)) (fun A13 hA13 eA13 fA13 gA13 => ?_) rfl rfl
  refine hxa_aload_n (by rfl) rfl ?_
  refine hxa_get (v := .ref (L1 + 5)) (by rfl) (hsL hL1) (by rfl) (hvL hL1 (by omega)) ?_
  refine hxa_iconst (by rfl) rfl ?_
  refine hxa_aload_n (by rfl) rfl ?_
  refine hxa_get (v := .ref (L + 5)) (by rfl) (hsL hL) (by rfl) (hvL hL (by omega)) ?_
  refine hxa_iconst (by rfl) rfl ?_
  refine hxa_bipush (by rfl) rfl ?_
  refine hxj_copyE (by rfl) (hsLa hL1 (by omega) (by omega)) (hsLa hL (by omega) (by omega)) hk_10 (by rfl) hA13 (fun _ _ => hbokN (haL4 hL)) (hrLa hL (by omega) (by omega)) (hqL hL (by omega)) (fun A14 hA14 eA14 fA14 gA14 => ?_) rfl rfl
  refine hxa_aload_n (by rfl) rfl ?_
  refine hxa_get (v := .ref (L1 + 6)) (by rfl) (hsL hL1) (by rfl) (hvL hL1 (by omega)) ?_
  refine hxa_iconst (by rfl) rfl ?_
  refine hxa_aload_n (by rfl) rfl ?_
  refine hxa_get (v := .ref (L + 6)) (by rfl) (hsL hL) (by rfl) (hvL hL (by omega)) ?_
  refine hxa_iconst (by rfl) rfl ?_
  refine hxa_bipush (by rfl) rfl ?_
  refine hxj_copyE (by rfl) (hsLa hL1 (by omega) (by omega)) (hsLa hL (by omega) (by omega)) hk_10 (by rfl) hA14 (fun v q => (haL5 hL).symm ▸ (haL5 hL1) ▸ q) (hrLa hL (by omega) (by omega)) (hqL hL (by omega)) (fun A15 hA15 eA15 fA15 gA15 => ?_) rfl rfl
  refine hxa_aload_n (by rfl) rfl ?_
  refine hxa_get (v := .ref (L1 + 7)) (by rfl) (hsL hL1) (by rfl) (hvL hL1 (by omega)) ?_
  refine hxa_iconst (by rfl) rfl ?_
  refine hxa_aload_n (by rfl) rfl ?_
  refine hxa_get (v := .ref (L + 7)) (by rfl) (hsL hL) (by rfl) (hvL hL (by omega)) ?_
  refine hxa_iconst (by rfl) rfl ?_
  refine hxa_bipush (by rfl) rfl ?_
  refine hxj_copyE (by rfl) (hsLa hL1 (by omega) (by omega)) (hsLa hL (by omega) (by omega)) hk_10 (by rfl) hA15 (fun _ _ => hbokN (haL6 hL)) (hrLa hL (by omega) (by omega)) (hqL hL (by omega)) (fun A16 hA16 eA16 fA16 gA16 => ?_) rfl rfl
  exact hxa_return (by rfl) rfl (hP _ _ ⟨hA16, rfl, hCp_mk hne ez1 eA2 fA2 ez3 eA4 fA4 ez5 eA6 fA6 ez7 eA8 fA8 ez9 eA10 fA10 eA11 fA11 gA11 eA12 fA12 gA12 eA13 fA13 gA13 eA14 fA14 gA14 eA15 fA15 gA15 eA16 fA16 gA16⟩)
theorem hX17g {d : Nat} {Bn Br : Int} {A0 A : hs_A} (hA : hJ 0 Bn Br A0 A)  {L : Nat} (hL : hLL L) {L1 : Nat} (hL1 : hLL L1) (hne : L1 + 7 ≤ L ∨ L + 7 ≤ L1) : hxC (d + 1) 17 hm_m17 [.ref (L + 1), .ref (L1 + 1)] A (fun r A' => hJ 0 Bn Br A0 A' ∧ r = none ∧ hCp L L1 A A') := hxC.of (by rfl) (hY17g hA hL hL1 hne (fun r A' h => h))
theorem hl_l40_at : ∀ n, n < 40 → hl_l40[n]? = some (43 + 7 * n) := by decide +kernel
theorem haa_livesE {j : Int32} (h0 : 0 ≤ j.toInt) (h1 : j.toInt ≤ 39) : ∃ L, hLL L ∧ hl_l40[j.toNatClampNeg]? = some (L + 1) ∧ L = 42 + 7 * j.toNatClampNeg := by
  obtain ⟨L, hL, e⟩ := haa_lives (j := j) rfl h0 h1
  have c := hn_cn (j := j) h0
  refine ⟨L, hL, e, ?_⟩
  rw [hl_l40_at _ (by omega)] at e
  injection e with e
  omega
/-- what the past keeps -/
def hKp (L : Nat) (A A' : hs_A) : Prop := ∃ p : Nat, (p : Int) = ((A.1 40 1).toInt + (A.1 40 2).toInt) % 40 ∧ (∀ k, 6 ≤ k → k ≤ 10 → A'.1 (42 + 7 * p) k = A.1 L k) ∧ (∀ j, 1 ≤ j → j ≤ 6 → ∀ x, A'.2.1 (42 + 7 * p + j) x = A.2.1 (L + j) x) ∧ (∀ i k, ¬ i = 42 + 7 * p → ¬ i = 40 → A'.1 i k = A.1 i k) ∧ (∀ i, (i ≤ 42 + 7 * p ∨ 42 + 7 * p + 7 ≤ i) → ∀ x, A'.2.1 i x = A.2.1 i x) ∧ ((A.1 40 2).toInt < 40 ∧ (A'.1 40 2).toInt = (A.1 40 2).toInt + 1 ∧ A'.1 40 1 = A.1 40 1 ∨ (A.1 40 2).toInt = 40 ∧ A'.1 40 2 = A.1 40 2 ∧ (A'.1 40 1).toInt = ((A.1 40 1).toInt + 1) % 40)
theorem hKp_mk {L p : Nat} {A A6 A' : hs_A} {k0 : Nat} {v : Int32} (hp : (p : Int) = ((A.1 40 1).toInt + (A.1 40 2).toInt) % 40) (c : hCp (42 + 7 * p) L A A6) (e : A'.1 = hs_up A6.1 40 k0 v) (f : A'.2 = A6.2) (hL : ¬ L = 40) (hs : (A.1 40 2).toInt < 40 ∧ (A'.1 40 2).toInt = (A.1 40 2).toInt + 1 ∧ A'.1 40 1 = A.1 40 1 ∨ (A.1 40 2).toInt = 40 ∧ A'.1 40 2 = A.1 40 2 ∧ (A'.1 40 1).toInt = ((A.1 40 1).toInt + 1) % 40) : hKp L A A' := by
  obtain ⟨c1, c2, c3, c4, c5⟩ := c
  refine ⟨p, hp, fun k h1 h2 => ?_, fun j h1 h2 x => ?_, fun i k h1 h2 => ?_, fun i h x => ?_, hs⟩
  · rw [e, hup2 (by omega)]; exact c1 k h1 h2
  · rw [f]; exact c2 j h1 h2 x
  · rw [e, hup2 (fun q => h2 q.1)]; exact c3 i k h1
  · rw [f]; exact c4 i h x
theorem hY34g {d : Nat} {Bn Br : Int} {A0 A : hs_A} (hA : hJ 0 Bn Br A0 A)  {L : Nat} (hL : hLL L) (hL3 : L = 26) {P : Option Value → hs_A → Prop} (hP : ∀ (r : Option Value) (A' : hs_A), (hJ 0 Bn Br A0 A' ∧ r = none ∧ hKp L A A') → P r A') : hxa (d + 1) none hm_t34 0 [.ref 41, .ref (L + 1)] [] A P := by
  refine hxa_aload_n (by rfl) rfl ?_
  refine hxa_get (v := .ref 42) (by rfl) (by rfl) (by rfl) rfl ?_
  refine hxa_aload_n (by rfl) rfl ?_
  refine hxj_getB (by rfl) (by rfl) (by rfl) hA (by rfl) (fun z1 ez1 fz1 gz1 => ?_)
  refine hxa_aload_n (by rfl) rfl ?_
  refine hxj_getB (by rfl) (by rfl) (by rfl) hA (by rfl) (fun z2 ez2 fz2 gz2 => ?_)
  refine hxj_iadd (by rfl) rfl rfl (by omega) (by omega) (fun z3 ez3 => ?_)
  refine hxa_bipush (by rfl) rfl ?_
  refine hxj_iremP (by rfl) rfl hk_40 (by omega) (by omega) (fun z4 ez4 => ?_)
  obtain ⟨L5, hL5, eL5, sL5⟩ := haa_livesE (j := z4) (by omega) (by omega)
  refine hxa_aald (by rfl) (Or.inl rfl) (by rfl) (hn_ix0 rfl (by omega)) eL5 ?_
  refine hxa_aload_n (by rfl) rfl ?_
  refine hxa_call0 (by rfl) (by rfl) (by rfl) (hsL hL5) (by rfl) (by rfl) (hX17g (d := d + 0) hA hL5 hL (by omega)) ?_
  rintro _ A6 ⟨hA6, rfl, c6⟩
  have hc4 := hn_cn (j := z4) (by omega)
  have k1 : A6.1 40 1 = A.1 40 1 := c6.2.2.1 40 1 (by omega)
  have k2 : A6.1 40 2 = A.1 40 2 := c6.2.2.1 40 2 (by omega)
  rw [sL5] at c6
  have hp : ((z4.toNatClampNeg : Nat) : Int) = ((A.1 40 1).toInt + (A.1 40 2).toInt) % 40 := by rw [ez1, ez2]; omega
  refine hxa_aload_n (by rfl) rfl ?_
  refine hxj_getB (by rfl) (by rfl) (by rfl) hA6 (by rfl) (fun z7 ez7 fz7 gz7 => ?_)
  refine hxa_bipush (by rfl) rfl ?_
  refine hxj_cge (by rfl) rfl hk_40 (fun q8 => ?_) (fun q8 => ?_)
  ·
    refine hxa_aload_n (by rfl) rfl ?_
    refine hxa_aload_n (by rfl) rfl ?_
    refine hxj_getB (by rfl) (by rfl) (by rfl) hA6 (by rfl) (fun z9 ez9 fz9 gz9 => ?_)
    refine hxa_iconst (by rfl) rfl ?_
    refine hxj_iadd (by rfl) rfl hk_1 (by omega) (by omega) (fun z10 ez10 => ?_)
    refine hxa_bipush (by rfl) rfl ?_
    refine hxj_iremP (by rfl) rfl hk_40 (by omega) (by omega) (fun z11 ez11 => ?_)
    refine hxj_putI (by rfl) (by rfl) (by rfl) (by rfl) hA6 (hbok (by rfl) rfl (by omega) (by omega)) (by rfl) (by rfl) (fun A12 hA12 eA12 fA12 => ?_)
    exact hxa_return (by rfl) rfl (hP _ _ ⟨hA12, rfl, hKp_mk hp c6 eA12 fA12 (by omega) (Or.inr ⟨by rw [← k2, ez7]; omega, by rw [eA12, hup2 (by omega)]; exact k2, by rw [eA12, hup1, ← k1, ez9]; omega⟩)⟩)
  ·
    refine hxa_aload_n (by rfl) rfl ?_
    refine hxa_dupR (by rfl) ?_
    refine hxj_getK (by rfl) (by rfl) (by rfl) ez7 ?_
    refine hxa_iconst (by rfl) rfl ?_
    refine hxj_iadd (by rfl) rfl hk_1 (by omega) (by omega) (fun z13 ez13 => ?_)
    refine hxj_putI (by rfl) (by rfl) (by rfl) (by rfl) hA6 (hbok (by rfl) rfl (by omega) (by omega)) (by rfl) (by rfl) (fun A14 hA14 eA14 fA14 => ?_)
    refine hxa_goto (by rfl) ?_
    exact hxa_return (by rfl) rfl (hP _ _ ⟨hA14, rfl, hKp_mk hp c6 eA14 fA14 (by omega) (Or.inl ⟨by rw [← k2, ez7]; omega, by rw [eA14, hup1, ← k2, ez7]; omega, by rw [eA14, hup2 (by omega)]; exact k1⟩)⟩)
theorem hX34g {d : Nat} {Bn Br : Int} {A0 A : hs_A} (hA : hJ 0 Bn Br A0 A)  {L : Nat} (hL : hLL L) (hL3 : L = 26) : hxC (d + 2) 34 hm_m34 [.ref 41, .ref (L + 1)] A (fun r A' => hJ 0 Bn Br A0 A' ∧ r = none ∧ hKp L A A') := hxC.of (by rfl) (hY34g hA hL hL3 (fun r A' h => h))
/-! A LIFE AND A ROW: who lives where, which sets are on, the hour -/
def hOnb (x : Int32) (g : Nat → Int32) (H : Int) : Prop := ∃ n : Nat, (n < 1024 ∧ n < 2 ^ H.toNat) ∧ x = Int32.ofNat n ∧ ∀ h : Nat, (h : Int) < H → g (50 + h) = Int32.ofNat (n / 2 ^ h % 2)
/-- a life of the class at L is the row g of the reference -/
def hLw (L : Nat) (g : Nat → Int32) (H : Int) (A : hs_A) : Prop := (A.1 L 6).toInt = H ∧ (A.1 L 7 = g 70 ∧ A.1 L 8 = g 71 ∧ A.1 L 10 = g 72) ∧ hOnb (A.1 L 9) g H ∧ ∀ h : Nat, (h : Int) < H → (A.2.1 (L + 1) h = g h ∧ A.2.1 (L + 2) h = g (10 + h) ∧ A.2.1 (L + 3) h = g (40 + h)) ∧ (A.2.1 (L + 4) h = g (20 + h) ∧ A.2.1 (L + 5) h = g (30 + h) ∧ A.2.1 (L + 6) h = g (60 + h))
theorem hOnb.mv {x x' : Int32} {g g' : Nat → Int32} {H : Int} (h : hOnb x g H) (hH : H ≤ 10) (ex : x' = x) (eg : ∀ k : Nat, k < 73 → g' k = g k) : hOnb x' g' H := by
  obtain ⟨n, h1, h2, h3⟩ := h
  exact ⟨n, h1, ex.trans h2, fun k hk => (eg _ (by omega)).trans (h3 k hk)⟩
theorem hLw.mv {L L' : Nat} {g g' : Nat → Int32} {H : Int} {A A' : hs_A} (h : hLw L g H A) (hH : H ≤ 10) (e : ∀ k, 6 ≤ k → k ≤ 10 → A'.1 L' k = A.1 L k) (f : ∀ j, 1 ≤ j → j ≤ 6 → ∀ x : Nat, x < 10 → A'.2.1 (L' + j) x = A.2.1 (L + j) x) (eg : ∀ k : Nat, k < 73 → g' k = g k) : hLw L' g' H A' := by
  obtain ⟨h1, ⟨h2, h3, h4⟩, h5, h6⟩ := h
  refine ⟨by rw [e 6 (by omega) (by omega)]; exact h1, ⟨by rw [e 7 (by omega) (by omega), eg 70 (by omega)]; exact h2, by rw [e 8 (by omega) (by omega), eg 71 (by omega)]; exact h3, by rw [e 10 (by omega) (by omega), eg 72 (by omega)]; exact h4⟩, h5.mv hH (e 9 (by omega) (by omega)) eg, fun k hk => ?_⟩
  obtain ⟨⟨a1, a2, a3⟩, a4, a5, a6⟩ := h6 k hk
  exact ⟨⟨by rw [f 1 (by omega) (by omega) k (by omega), eg k (by omega)]; exact a1, by rw [f 2 (by omega) (by omega) k (by omega), eg (10 + k) (by omega)]; exact a2, by rw [f 3 (by omega) (by omega) k (by omega), eg (40 + k) (by omega)]; exact a3⟩, by rw [f 4 (by omega) (by omega) k (by omega), eg (20 + k) (by omega)]; exact a4, by rw [f 5 (by omega) (by omega) k (by omega), eg (30 + k) (by omega)]; exact a5, by rw [f 6 (by omega) (by omega) k (by omega), eg (60 + k) (by omega)]; exact a6⟩
/-- what a row holds, as far as laws want it -/
def huO (ro : Nat → Int32) (n : Nat) : Prop := (∀ h, h < n → (0 ≤ (ro h).toInt ∧ (ro h).toInt ≤ 255) ∧ (0 ≤ (ro (40 + h)).toInt ∧ (ro (40 + h)).toInt ≤ 255) ∧ (0 ≤ (ro (30 + h)).toInt ∧ (ro (30 + h)).toInt ≤ 255) ∧ 0 ≤ (ro (60 + h)).toInt ∧ ro (40 + h) &&& ro h = ro (40 + h)) ∧ 0 ≤ (ro 70).toInt ∧ ((ro 71).toInt = -1 ∨ 0 ≤ (ro 71).toInt ∧ (ro 71).toInt ≤ 255)
theorem huO.mv {g g' : Nat → Int32} {n : Nat} (h : huO g n) (hn : n ≤ 10) (e : ∀ k : Nat, k < 73 → g' k = g k) : huO g' n := by
  obtain ⟨h1, h2, h3⟩ := h
  refine ⟨fun k hk => ?_, by rw [e 70 (by omega)]; exact h2, by rw [e 71 (by omega)]; exact h3⟩
  rw [e k (by omega), e (40 + k) (by omega), e (30 + k) (by omega), e (60 + k) (by omega)]
  exact h1 k hk
def hLo (L : Nat) (g : Nat → Int32) (H : Int) (A : hs_A) : Prop := hLw L g H A ∧ huO g H.toNat
theorem hLo.mv {L L' : Nat} {g g' : Nat → Int32} {H : Int} {A A' : hs_A} (h : hLo L g H A) (hH : H ≤ 10) (e : ∀ k, 6 ≤ k → k ≤ 10 → A'.1 L' k = A.1 L k) (f : ∀ j, 1 ≤ j → j ≤ 6 → ∀ x : Nat, x < 10 → A'.2.1 (L' + j) x = A.2.1 (L + j) x) (eg : ∀ k : Nat, k < 73 → g' k = g k) : hLo L' g' H A' := ⟨h.1.mv hH e f eg, h.2.mv (by omega) eg⟩
/-- the past: what is kept of each thing done -/
def hPs (H : Int) (A : hs_A) : Prop := A.1 40 2 = A.1 367 51 ∧ ∀ i : Nat, (i : Int) < (A.1 40 2).toInt → hLo (42 + 7 * (((A.1 40 1).toInt + i) % 40).toNat) (fun k => A.2.1 399 (73 * i + k)) H A
def hSl (H : Int) (A : hs_A) : Prop := ∀ s : Nat, s < 3 → ¬ (A.2.1 408 s).toInt = 0 → hLo (346 + 7 * s) (fun k => A.2.1 409 (73 * s + k)) H A
def hNw (H : Int) (A : hs_A) : Prop := hLo 26 (A.2.1 395) H A
/-- what the class's past keeps -/
def hKq (A A' : hs_A) : Prop := ∃ p : Nat, (p : Int) = ((A.1 40 1).toInt + (A.1 40 2).toInt) % 40 ∧ (∀ k, 6 ≤ k → k ≤ 10 → A'.1 (42 + 7 * p) k = A.1 26 k) ∧ (∀ j, 1 ≤ j → j ≤ 6 → ∀ x : Nat, x < 10 → A'.2.1 (42 + 7 * p + j) x = A.2.1 (26 + j) x) ∧ (∀ q : Nat, q < 40 → ¬ q = p → (∀ k, 6 ≤ k → k ≤ 10 → A'.1 (42 + 7 * q) k = A.1 (42 + 7 * q) k) ∧ ∀ j, 1 ≤ j → j ≤ 6 → ∀ x : Nat, x < 10 → A'.2.1 (42 + 7 * q + j) x = A.2.1 (42 + 7 * q + j) x) ∧ ((A.1 40 2).toInt < 40 ∧ (A'.1 40 2).toInt = (A.1 40 2).toInt + 1 ∧ A'.1 40 1 = A.1 40 1 ∨ (A.1 40 2).toInt = 40 ∧ A'.1 40 2 = A.1 40 2 ∧ (A'.1 40 1).toInt = ((A.1 40 1).toInt + 1) % 40)
theorem hKp.q {A A' : hs_A} (h : hKp 26 A A') : hKq A A' := by
  obtain ⟨p, h1, h2, h3, h4, h5, h6⟩ := h
  exact ⟨p, h1, h2, fun j a b x _ => h3 j a b x, fun q hq hne => ⟨fun k _ _ => h4 _ k (by omega) (by omega), fun j a b x _ => h5 _ (by omega) x⟩, h6⟩
/-- past cells untouched -/
def hPk (A A' : hs_A) : Prop := (∀ q : Nat, q < 40 → (∀ k, 6 ≤ k → k ≤ 10 → A'.1 (42 + 7 * q) k = A.1 (42 + 7 * q) k) ∧ ∀ j, 1 ≤ j → j ≤ 6 → ∀ x : Nat, x < 10 → A'.2.1 (42 + 7 * q + j) x = A.2.1 (42 + 7 * q + j) x) ∧ A'.1 40 1 = A.1 40 1 ∧ A'.1 40 2 = A.1 40 2
theorem hKq.k {A A1 A' : hs_A} (h : hKq A A1) (w : hPk A1 A') : hKq A A' := by
  obtain ⟨p, h1, h2, h3, h4, h6⟩ := h
  have hp : p < 40 := by omega
  refine ⟨p, h1, fun k a b => ((w.1 p hp).1 k a b).trans (h2 k a b), fun j a b x hx => ((w.1 p hp).2 j a b x hx).trans (h3 j a b x hx), fun q hq hne => ⟨fun k a b => ((w.1 q hq).1 k a b).trans ((h4 q hq hne).1 k a b), fun j a b x hx => ((w.1 q hq).2 j a b x hx).trans ((h4 q hq hne).2 j a b x hx)⟩, ?_⟩
  rw [w.2.1, w.2.2]
  exact h6
theorem hPk.trans {A A1 A' : hs_A} (h : hPk A A1) (w : hPk A1 A') : hPk A A' := ⟨fun q hq => ⟨fun k a b => ((w.1 q hq).1 k a b).trans ((h.1 q hq).1 k a b), fun j a b x hx => ((w.1 q hq).2 j a b x hx).trans ((h.1 q hq).2 j a b x hx)⟩, w.2.1.trans h.2.1, w.2.2.trans h.2.2⟩
set_option maxRecDepth 1000000 in
theorem hPk_sh1 : ∀ q, q < 40 → hc_get hs_sh (42 + 7 * q) = some (3, 2, [44 + 7 * q, 45 + 7 * q, 46 + 7 * q, 47 + 7 * q, 48 + 7 * q, 49 + 7 * q, 0, 0, 0, 0, 0]) := by decide +kernel
set_option maxRecDepth 1000000 in
theorem hPk_sh2 : ∀ q, q < 40 → ∀ j, j < 6 → hc_get hs_sh (42 + 7 * q + (j + 1)) = some (0, 1, [10]) := by decide +kernel
set_option maxRecDepth 1000000 in
theorem hPk_sh3 : ∀ q, q < 40 → ∀ j, j < 7 → ug_g (42 + 7 * q + j) = ug_g (42 + j) := by decide +kernel
theorem hPk_sh (q : Nat) (hq : q < 40) : hc_get hs_sh (42 + 7 * q) = some (3, 2, [44 + 7 * q, 45 + 7 * q, 46 + 7 * q, 47 + 7 * q, 48 + 7 * q, 49 + 7 * q, 0, 0, 0, 0, 0]) ∧ (∀ j, j < 7 → 1 ≤ j → hc_get hs_sh (42 + 7 * q + j) = some (0, 1, [10]) ∧ ug_g (42 + 7 * q + j) = ug_g (42 + j)) ∧ ug_g (42 + 7 * q) = ug_g 42 := ⟨hPk_sh1 q hq, fun j a b => ⟨by rw [show j = (j - 1) + 1 by omega]; exact hPk_sh2 q hq (j - 1) (by omega), hPk_sh3 q hq j a⟩, hPk_sh3 q hq 0 (by omega)⟩
theorem hPk.uf {W : Nat} {A A' : hs_A} (w : uf_W W A A') (c : (Nat.testBit W (ug_o (ug_g 42) 6) || (Nat.testBit W (ug_o (ug_g 42) 7) || (Nat.testBit W (ug_o (ug_g 42) 8) || (Nat.testBit W (ug_o (ug_g 42) 9) || (Nat.testBit W (ug_o (ug_g 42) 10) || (Nat.testBit W (ug_g 43) || (Nat.testBit W (ug_g 44) || (Nat.testBit W (ug_g 45) || (Nat.testBit W (ug_g 46) || (Nat.testBit W (ug_g 47) || (Nat.testBit W (ug_g 48) || (Nat.testBit W (ug_o (ug_g 40) 1) || Nat.testBit W (ug_o (ug_g 40) 2))))))))))))) = false) : hPk A A' := by
  simp only [Bool.or_eq_false_iff] at c
  obtain ⟨c6, c7, c8, c9, c10, d1, d2, d3, d4, d5, d6, e1, e2⟩ := c
  refine ⟨fun q hq => ?_, w.1 40 _ _ 1 rfl rfl e1, w.1 40 _ _ 2 rfl rfl e2⟩
  obtain ⟨s1, s2, s3⟩ := hPk_sh q hq
  refine ⟨fun k a b => ?_, fun j a b x hx => ?_⟩
  · have hk : k = 6 ∨ k = 7 ∨ k = 8 ∨ k = 9 ∨ k = 10 := by omega
    rcases hk with rfl | rfl | rfl | rfl | rfl
    · exact w.1 _ _ _ 6 s1 rfl (by rw [s3]; exact c6)
    · exact w.1 _ _ _ 7 s1 rfl (by rw [s3]; exact c7)
    · exact w.1 _ _ _ 8 s1 rfl (by rw [s3]; exact c8)
    · exact w.1 _ _ _ 9 s1 rfl (by rw [s3]; exact c9)
    · exact w.1 _ _ _ 10 s1 rfl (by rw [s3]; exact c10)
  · have hk : j = 1 ∨ j = 2 ∨ j = 3 ∨ j = 4 ∨ j = 5 ∨ j = 6 := by omega
    have sj := s2 j (by omega) a
    refine w.2.1 _ _ _ x sj.1 hx ?_
    rw [sj.2]
    rcases hk with rfl | rfl | rfl | rfl | rfl | rfl
    · exact d1
    · exact d2
    · exact d3
    · exact d4
    · exact d5
    · exact d6
/-- a thing done: class's past and reference's history -/
theorem hPs.push {H : Int} {A A1 A2 : hs_A} {g : Nat → Int32} (h : hPs H A) (n : hNw H A) (hH : H ≤ 10) (b1 : 0 ≤ (A.1 40 1).toInt ∧ (A.1 40 1).toInt ≤ 39) (b2 : 0 ≤ (A.1 40 2).toInt) (K : hKq A A1) (w2 : hPk A1 A2) (D : hDone A A2 g) : hPs H A2 := by
  obtain ⟨p, k1, k2, k3, k4, k5⟩ := K
  obtain ⟨d1, u, s, d2, d3, d4, d5, d6⟩ := D
  have k5 : (A.1 40 2).toInt < 40 ∧ (A1.1 40 2).toInt = (A.1 40 2).toInt + 1 ∧ A1.1 40 1 = A.1 40 1 ∨ (A.1 40 2).toInt = 40 ∧ (A1.1 40 2).toInt = (A.1 40 2).toInt ∧ (A1.1 40 1).toInt = ((A.1 40 1).toInt + 1) % 40 := by
    rcases k5 with x | ⟨x, y, z⟩
    · exact Or.inl x
    · exact Or.inr ⟨x, congrArg Int32.toInt y, z⟩
  have hu := congrArg Int32.toInt h.1
  have hp : p < 40 := by omega
  have e1 := w2.2.1
  have e2 := w2.2.2
  have e2' := congrArg Int32.toInt e2
  refine ⟨Int32.toInt_inj.mp (by omega), fun i hi => ?_⟩
  rw [e1]
  by_cases q : i = u
  · subst q
    have hq : (((A1.1 40 1).toInt + (i : Int)) % 40).toNat = p := by
      rcases k5 with ⟨x1, x2, x3⟩ | ⟨x1, x2, x3⟩
      · rw [x3]; omega
      · omega
    rw [hq]
    exact n.mv hH (fun k a b => ((w2.1 p hp).1 k a b).trans (k2 k a b)) (fun j a b x hx => ((w2.1 p hp).2 j a b x hx).trans (k3 j a b x hx)) (fun k hk => d5 k hk)
  · have hiu : i < u := by omega
    have hq : ∃ r : Nat, r < 40 ∧ ¬ r = p ∧ (((A1.1 40 1).toInt + (i : Int)) % 40).toNat = r ∧ (((A.1 40 1).toInt + ((i + s : Nat) : Int)) % 40).toNat = r ∧ ((i + s : Nat) : Int) < (A.1 40 2).toInt := by
      refine ⟨(((A.1 40 1).toInt + ((i + s : Nat) : Int)) % 40).toNat, by omega, ?_, ?_, rfl, by omega⟩
      · rcases d4 with ⟨y1, y2⟩ | ⟨y1, y2, y3⟩ <;> omega
      · rcases k5 with ⟨x1, x2, x3⟩ | ⟨x1, x2, x3⟩
        · rw [x3]
          rcases d4 with ⟨y1, y2⟩ | ⟨y1, y2, y3⟩ <;> omega
        · rcases d4 with ⟨y1, y2⟩ | ⟨y1, y2, y3⟩ <;> omega
    obtain ⟨r, r1, r2, r3, r4, r5⟩ := hq
    have old := h.2 (i + s) r5
    rw [r4] at old
    rw [r3]
    exact old.mv hH (fun k a b => ((w2.1 r r1).1 k a b).trans ((k4 r r1 r2).1 k a b)) (fun j a b x hx => ((w2.1 r r1).2 j a b x hx).trans ((k4 r r1 r2).2 j a b x hx)) (fun k hk => d6 i hiu k hk)
theorem hPk.put {A A' : hs_A} {i k : Nat} {v : Int32} (e : A'.1 = hs_up A.1 i k v) (f : A'.2 = A.2) (hi : i < 40 ∨ 322 ≤ i) : hPk A A' := ⟨fun q hq => ⟨fun k a b => by rw [e, hup2 (by omega)], fun j a b x hx => by rw [f]⟩, by rw [e, hup2 (by omega)], by rw [e, hup2 (by omega)]⟩
theorem hY82g {d : Nat} {Bn Br : Int} {A0 A : hs_A} (hA : hJ 0 Bn Br A0 A)    {P : Option Value → hs_A → Prop} (hP : ∀ (r : Option Value) (A' : hs_A), (hJ 0 Bn Br A0 A' ∧ r = none ∧ hKq A A') → P r A') : hxa (d + 2) none hm_t82 0 [.ref 1] [] A P := by
  refine hxa_aload_n (by rfl) rfl ?_
  refine hxa_get (v := .ref 41) (by rfl) (by rfl) (by rfl) rfl ?_
  refine hxa_aload_n (by rfl) rfl ?_
  refine hxa_get (v := .ref 27) (by rfl) (by rfl) (by rfl) rfl ?_
  refine hxa_call0 (by rfl) (by rfl) (by rfl) (by rfl) (by rfl) (by rfl) (hX34g (d := d + 0) hA hL26 rfl) ?_
  rintro _ A1 ⟨hA1, rfl, c1⟩
  refine hxa_aload_n (by rfl) rfl ?_
  refine hxa_get (v := .ref 329) (by rfl) (by rfl) (by rfl) rfl ?_
  refine hxa_iconst (by rfl) rfl ?_
  refine hxj_putI (by rfl) (by rfl) (by rfl) (by rfl) hA1 (hbok (by rfl) hk_0 (by omega) (by omega)) (by rfl) (by rfl) (fun A2 hA2 eA2 fA2 => ?_)
  exact hxa_return (by rfl) rfl (hP _ _ ⟨hA2, rfl, c1.q.k (hPk.put eA2 fA2 (by omega))⟩)
theorem hX82g {d : Nat} {Bn Br : Int} {A0 A : hs_A} (hA : hJ 0 Bn Br A0 A)    : hxC (d + 3) 82 hm_m82 [.ref 1] A (fun r A' => hJ 0 Bn Br A0 A' ∧ r = none ∧ hKq A A') := hxC.of (by rfl) (hY82g hA   (fun r A' h => h))
theorem uf_i82 {d : Nat} {A : hs_A} {P : Option Value → hs_A → Prop} (hH : uf_H A) (w : hxC d 82 hm_m82 [.ref 1] A P) : hxC d 82 hm_m82 [.ref 1] A (fun r A' => P r A' ∧ uf_W ug_x141.2.2.2.1 A A' ∧ uf_H A') := uf_X (X := ug_x141) (j := 141) rfl rfl (ug_L.cons uf_r0 uf_nil) hH w
theorem hY18g {d : Nat} {Bn Br : Int} {A0 A : hs_A} (hA : hJ 0 Bn Br A0 A)  {L : Nat} (hL : hLL L) (a1 : Int32)  {P : Option Value → hs_A → Prop} (hP : ∀ (r : Option Value) (A' : hs_A), (A = A' ∧ ∃ z : Int32, r = some (.int z) ∧ ((z.toInt = 1 ∧ ¬ hBit (A.1 L 9) a1 = 0) ∨ (z.toInt = 0 ∧ hBit (A.1 L 9) a1 = 0))) → P r A') : hxa (d + 0) (some (.boolean)) hm_t18 0 [.ref (L + 1), .int a1] [] A P := by
  have k0 := hk_0
  have k1 := hk_1
  refine hxa_aload_n (by rfl) rfl ?_
  refine hxj_getI (by rfl) (hsL hL) (by rfl) (fun z1 ez1 => ?_)
  refine hxa_iload_n (by rfl) rfl ?_
  refine hxj_ishrE (by rfl) (fun z2 ez2 => ?_)
  refine hxa_iconst (by rfl) rfl ?_
  refine hxj_iandE (by rfl) (fun z3 ez3 => ?_)
  have hb : hBit (A.1 L 9) a1 = z3.toInt := by unfold hBit; rw [ez3, ez2, ez1]
  refine hxj_zeq (by rfl) rfl (fun q4 => ?_) (fun q4 => ?_)
  ·
    refine hxa_iconst (by rfl) rfl ?_
    exact hxa_ireturn (by rfl) (by rfl) (hP _ _ ⟨rfl, _, rfl, by omega⟩)
  ·
    refine hxa_iconst (by rfl) rfl ?_
    refine hxa_goto (by rfl) ?_
    exact hxa_ireturn (by rfl) (by rfl) (hP _ _ ⟨rfl, _, rfl, by omega⟩)
theorem hX18g {d : Nat} {Bn Br : Int} {A0 A : hs_A} (hA : hJ 0 Bn Br A0 A)  {L : Nat} (hL : hLL L) (a1 : Int32)  : hxC (d + 1) 18 hm_m18 [.ref (L + 1), .int a1] A (fun r A' => A = A' ∧ ∃ z : Int32, r = some (.int z) ∧ ((z.toInt = 1 ∧ ¬ hBit (A.1 L 9) a1 = 0) ∨ (z.toInt = 0 ∧ hBit (A.1 L 9) a1 = 0))) := hxC.of (by rfl) (hY18g hA hL a1  (fun r A' h => h))
theorem hY83g {d : Nat} {Bn Br : Int} {A0 A : hs_A} (hA : hJ 0 Bn Br A0 A)  (a1 : Int32) (a2 : Int32) (p2 : 0 ≤ a2.toInt) (q2 : a2.toInt ≤ 1) {H : Int} (hH : ∀ T, hTT T → A.2.2.2 0 3 = T + 1 → (A.1 T 4).toInt = H) (uH : uf_H A) {P : Option Value → hs_A → Prop} (hP : ∀ (r : Option Value) (A' : hs_A), (hJ 0 Bn Br A0 A' ∧ ∃ z : Int32, r = some (.int z) ∧ ((z.toInt = 1 ∧ 0 ≤ a1.toInt ∧ a1.toInt < H ∧ a1.toInt ≤ 9 ∧ ¬ (hBit (A.1 26 9) a1 = 0 ∧ a2.toInt = 0 ∨ ¬ hBit (A.1 26 9) a1 = 0 ∧ a2.toInt = 1) ∧ hKq A A' ∧ A'.1 26 9 = A.1 26 9 ^^^ (Int32.ofNat 1 <<< (a1 &&& 31))) ∨ (z.toInt = 0 ∧ (a1.toInt < 0 ∨ H ≤ a1.toInt ∨ (hBit (A.1 26 9) a1 = 0 ∧ a2.toInt = 0 ∨ ¬ hBit (A.1 26 9) a1 = 0 ∧ a2.toInt = 1)) ∧ A' = A))) → P r A') : hxa (d + 3) (some (.boolean)) hm_t83 0 [.ref 1, .int a1, .int a2] [] A P := by
  have k0 := hk_0
  have k1 := hk_1
  refine hxa_aload_n (by rfl) rfl ?_
  refine hxa_iload_n (by rfl) rfl ?_
  refine hxa_call0 (by rfl) (by rfl) (by rfl) (by rfl) (by rfl) (by rfl) (hX76f (d := d + 2) hA a1 hH) ?_
  rintro _ _ ⟨rfl, z1, rfl, fz1⟩
  rcases fz1 with fz1 | fz1
  ·
    refine hxj_zeq (by rfl) rfl (fun q2 => False.elim (by omega)) (fun q2 => ?_)
    refine hxa_aload_n (by rfl) rfl ?_
    refine hxa_get (v := .ref 27) (by rfl) (by rfl) (by rfl) rfl ?_
    refine hxa_iload_n (by rfl) rfl ?_
    refine hxa_call0 (by rfl) (by rfl) (by rfl) (by rfl) (by rfl) (by rfl) (hX18g (d := d + 2) hA hL26 a1) ?_
    rintro _ _ ⟨rfl, z3, rfl, fz3⟩
    refine hxa_iload_n (by rfl) rfl ?_
    refine hxj_cne (by rfl) rfl rfl (fun q4 => ?_) (fun q4 => ?_)
    ·
      refine hxa_aload_n (by rfl) rfl ?_
      refine hxa_call0 (by rfl) (by rfl) (by rfl) (by rfl) (by rfl) (by rfl) (uf_i82 uH (hX82g (d := d + 0) hA)) ?_
      rintro _ A5 ⟨⟨hA5, rfl, c5⟩, w5, -⟩
      refine hxa_aload_n (by rfl) rfl ?_
      refine hxa_get (v := .ref 27) (by rfl) (by rfl) (by rfl) rfl ?_
      refine hxa_dupR (by rfl) ?_
      refine hxj_getI (by rfl) (by rfl) (by rfl) (fun z6 ez6 => ?_)
      refine hxa_iconst (by rfl) rfl ?_
      refine hxa_iload_n (by rfl) rfl ?_
      refine hxj_ishlE (by rfl) (fun z7 ez7 => ?_)
      refine hxj_ixorE (by rfl) (fun z8 ez8 => ?_)
      refine hxj_putI (by rfl) (by rfl) (by rfl) (by rfl) hA5 (hbokN (by rfl)) (by rfl) (by rfl) (fun A9 hA9 eA9 fA9 => ?_)
      refine hxa_iconst (by rfl) rfl ?_
      exact hxa_ireturn (by rfl) (by rfl) (hP _ _ ⟨hA9, _, rfl, Or.inl ⟨hk_1, by omega, by omega, by omega, by omega, c5.k (hPk.put eA9 fA9 (by omega)), by rw [eA9, hup1, ez8, ez7, ← ez6, w5.1 26 _ _ 9 rfl rfl (by decide +kernel)]⟩⟩)
    ·
      refine hxa_iconst (by rfl) rfl ?_
      exact hxa_ireturn (by rfl) (by rfl) (hP _ _ ⟨hA, _, rfl, Or.inr ⟨hk_0, by omega, rfl⟩⟩)
  ·
    refine hxj_zeq (by rfl) rfl (fun q10 => ?_) (fun q10 => False.elim (by omega))
    refine hxa_iconst (by rfl) rfl ?_
    exact hxa_ireturn (by rfl) (by rfl) (hP _ _ ⟨hA, _, rfl, Or.inr ⟨hk_0, by omega, rfl⟩⟩)
theorem hX83g {d : Nat} {Bn Br : Int} {A0 A : hs_A} (hA : hJ 0 Bn Br A0 A)  (a1 : Int32) (a2 : Int32) (p2 : 0 ≤ a2.toInt) (q2 : a2.toInt ≤ 1) {H : Int} (hH : ∀ T, hTT T → A.2.2.2 0 3 = T + 1 → (A.1 T 4).toInt = H) (uH : uf_H A) : hxC (d + 4) 83 hm_m83 [.ref 1, .int a1, .int a2] A (fun r A' => hJ 0 Bn Br A0 A' ∧ ∃ z : Int32, r = some (.int z) ∧ ((z.toInt = 1 ∧ 0 ≤ a1.toInt ∧ a1.toInt < H ∧ a1.toInt ≤ 9 ∧ ¬ (hBit (A.1 26 9) a1 = 0 ∧ a2.toInt = 0 ∨ ¬ hBit (A.1 26 9) a1 = 0 ∧ a2.toInt = 1) ∧ hKq A A' ∧ A'.1 26 9 = A.1 26 9 ^^^ (Int32.ofNat 1 <<< (a1 &&& 31))) ∨ (z.toInt = 0 ∧ (a1.toInt < 0 ∨ H ≤ a1.toInt ∨ (hBit (A.1 26 9) a1 = 0 ∧ a2.toInt = 0 ∨ ¬ hBit (A.1 26 9) a1 = 0 ∧ a2.toInt = 1)) ∧ A' = A))) := hxC.of (by rfl) (hY83g hA a1 a2 p2 q2 hH uH (fun r A' h => h))
theorem hY84g {d : Nat} {Bn Br : Int} {A0 A : hs_A} (hA : hJ 0 Bn Br A0 A)  (a1 : Int32) {H : Int} (hH : ∀ T, hTT T → A.2.2.2 0 3 = T + 1 → (A.1 T 4).toInt = H) {P : Option Value → hs_A → Prop} (hP : ∀ (r : Option Value) (A' : hs_A), (hJ 0 Bn Br A0 A' ∧ ∃ z : Int32, r = some (.int z) ∧ (((z.toInt = 1 ∧ 0 ≤ a1.toInt ∧ a1.toInt ≤ 255 ∧ ¬ H = 0) ∨ (z.toInt = 0 ∧ (a1.toInt < 0 ∨ 255 < a1.toInt ∨ H = 0))) ∧ (z.toInt = 1 → hKq A A' ∧ A'.1 26 8 = a1) ∧ (¬ z.toInt = 1 → A' = A))) → P r A') : hxa (d + 3) (some (.boolean)) hm_t84 0 [.ref 1, .int a1] [] A P := by
  have k0 := hk_0
  have k1 := hk_1
  obtain ⟨T0, hT0, -, eT0⟩ := hA.T
  refine hxa_iload_n (by rfl) rfl ?_
  refine hxa_call2 (by rfl) (by decide) (by rfl) (by rfl) (by rfl) (hX77f (d := d + 2)  a1) ?_
  rintro _ _ ⟨rfl, z1, rfl, fz1⟩
  rcases fz1 with fz1 | fz1
  ·
    refine hxj_zeq (by rfl) rfl (fun q2 => False.elim (by omega)) (fun q2 => ?_)
    refine hxa_aload_n (by rfl) rfl ?_
    refine hxj_getT (by rfl) (by rfl) (by rfl) (hA.Tw eT0) ?_
    refine hxj_getB (by rfl) (hsT hT0) (by rfl) hA (hbT_4 hT0) (fun z3 ez3 fz3 gz3 => ?_)
    have hh := hH T0 hT0 (hA.Tw eT0)
    rw [ez3] at hh
    refine hxj_zne (by rfl) rfl (fun q4 => ?_) (fun q4 => ?_)
    ·
      refine hxa_aload_n (by rfl) rfl ?_
      refine hxa_call0 (by rfl) (by rfl) (by rfl) (by rfl) (by rfl) (by rfl) (hX82g (d := d + 0) hA) ?_
      rintro _ A5 ⟨hA5, rfl, c5⟩
      refine hxa_aload_n (by rfl) rfl ?_
      refine hxa_get (v := .ref 27) (by rfl) (by rfl) (by rfl) rfl ?_
      refine hxa_iload_n (by rfl) rfl ?_
      refine hxj_putI (by rfl) (by rfl) (by rfl) (by rfl) hA5 (hbok (by rfl) rfl (by omega) (by omega)) (by rfl) (by rfl) (fun A6 hA6 eA6 fA6 => ?_)
      refine hxa_iconst (by rfl) rfl ?_
      exact hxa_ireturn (by rfl) (by rfl) (hP _ _ ⟨hA6, _, rfl, ⟨by omega, fun _ => ⟨c5.k (hPk.put eA6 fA6 (by omega)), by rw [eA6, hup1]⟩, fun q => absurd hk_1 q⟩⟩)
    ·
      refine hxa_iconst (by rfl) rfl ?_
      exact hxa_ireturn (by rfl) (by rfl) (hP _ _ ⟨hA, _, rfl, ⟨by omega, fun q => False.elim (by omega), fun _ => rfl⟩⟩)
  ·
    refine hxj_zeq (by rfl) rfl (fun q7 => ?_) (fun q7 => False.elim (by omega))
    refine hxa_iconst (by rfl) rfl ?_
    exact hxa_ireturn (by rfl) (by rfl) (hP _ _ ⟨hA, _, rfl, ⟨by omega, fun q => False.elim (by omega), fun _ => rfl⟩⟩)
theorem hX84g {d : Nat} {Bn Br : Int} {A0 A : hs_A} (hA : hJ 0 Bn Br A0 A)  (a1 : Int32) {H : Int} (hH : ∀ T, hTT T → A.2.2.2 0 3 = T + 1 → (A.1 T 4).toInt = H) : hxC (d + 4) 84 hm_m84 [.ref 1, .int a1] A (fun r A' => hJ 0 Bn Br A0 A' ∧ ∃ z : Int32, r = some (.int z) ∧ (((z.toInt = 1 ∧ 0 ≤ a1.toInt ∧ a1.toInt ≤ 255 ∧ ¬ H = 0) ∨ (z.toInt = 0 ∧ (a1.toInt < 0 ∨ 255 < a1.toInt ∨ H = 0))) ∧ (z.toInt = 1 → hKq A A' ∧ A'.1 26 8 = a1) ∧ (¬ z.toInt = 1 → A' = A))) := hxC.of (by rfl) (hY84g hA a1 hH (fun r A' h => h))
theorem hsw {f : Nat → Nat → Int32} {C a b : Nat} {x y : Int32} (hx : f C a = x) (hy : f C b = y) (hab : ¬ a = b) : ∀ k : Nat, hs_up (hs_up f C a y) C b x C k = if k = a then f C b else if k = b then f C a else f C k := fun k => by
  by_cases q : k = b
  · subst q
    rw [hup1, if_neg (fun w => hab w.symm), if_pos rfl, hx]
  · rw [hup2 (fun w => q w.2)]
    by_cases p : k = a
    · subst p
      rw [hup1, if_pos rfl, hy]
    · rw [hup2 (fun w => p w.2), if_neg p, if_neg q]
theorem hY25g {d : Nat} {Bn Br : Int} {A0 A : hs_A} (hA : hJ 0 Bn Br A0 A)  {C1 : Nat} (hC1 : hc_get hs_sh C1 = some (0, 1, [10])) (nC1 : hb_a C1 = none) (rC1 : hr_a 0 C1 = true) (gC1 : hq 0 C1 = true) (a2 : Int32) (p2 : 0 ≤ a2.toInt) (q2 : a2.toInt ≤ 9) (a3 : Int32) (p3 : 0 ≤ a3.toInt) (q3 : a3.toInt ≤ 9) (hab : ¬ a2.toInt = a3.toInt) {P : Option Value → hs_A → Prop} (hP : ∀ (r : Option Value) (A' : hs_A), (hJ 0 Bn Br A0 A' ∧ r = none ∧ ((∀ x : Nat, A'.2.1 C1 x = if x = a2.toNatClampNeg then A.2.1 C1 a3.toNatClampNeg else if x = a3.toNatClampNeg then A.2.1 C1 a2.toNatClampNeg else A.2.1 C1 x) ∧ (∀ i, ¬ i = C1 → ∀ x, A'.2.1 i x = A.2.1 i x) ∧ A'.1 = A.1)) → P r A') : hxa (d + 0) none hm_t25 0 [.ref (C1 + 1), .int a2, .int a3, .retAddr 0] [] A P := by
  refine hxa_aload_n (by rfl) rfl ?_
  refine hxa_iload_n (by rfl) rfl ?_
  refine hxj_iald (by rfl) hC1 rfl (by omega) (by omega) (fun z1 ez1 => ?_)
  refine hxa_s1 (by rfl) (Or.inl ⟨_, rfl, rfl⟩) rfl ?_
  refine hxa_aload_n (by rfl) rfl ?_
  refine hxa_iload_n (by rfl) rfl ?_
  refine hxa_aload_n (by rfl) rfl ?_
  refine hxa_iload_n (by rfl) rfl ?_
  refine hxj_iald (by rfl) hC1 rfl (by omega) (by omega) (fun z2 ez2 => ?_)
  refine hxj_iast (by rfl) hC1 rfl (by omega) (by omega) hA (hbokN nC1) rC1 gC1 (fun A3 hA3 eA3 fA3 gA3 => ?_)
  refine hxa_aload_n (by rfl) rfl ?_
  refine hxa_iload_n (by rfl) rfl ?_
  refine hxa_iload_n (by rfl) rfl ?_
  refine hxj_iast (by rfl) hC1 rfl (by omega) (by omega) hA3 (hbokN nC1) rC1 gC1 (fun A4 hA4 eA4 fA4 gA4 => ?_)
  exact hxa_return (by rfl) rfl (hP _ _ ⟨hA4, rfl, ⟨fun x => by rw [fA4, fA3]; exact hsw ez1 ez2 (by have := hn_cn (j := a2) (by omega); have := hn_cn (j := a3) (by omega); omega) x, fun i hi x => by rw [fA4, hup2 (fun w => hi w.1), fA3, hup2 (fun w => hi w.1)], by rw [eA4, eA3]⟩⟩)
theorem hX25g {d : Nat} {Bn Br : Int} {A0 A : hs_A} (hA : hJ 0 Bn Br A0 A)  {C1 : Nat} (hC1 : hc_get hs_sh C1 = some (0, 1, [10])) (nC1 : hb_a C1 = none) (rC1 : hr_a 0 C1 = true) (gC1 : hq 0 C1 = true) (a2 : Int32) (p2 : 0 ≤ a2.toInt) (q2 : a2.toInt ≤ 9) (a3 : Int32) (p3 : 0 ≤ a3.toInt) (q3 : a3.toInt ≤ 9) (hab : ¬ a2.toInt = a3.toInt) : hxC (d + 1) 25 hm_m25 [.ref (C1 + 1), .int a2, .int a3] A (fun r A' => hJ 0 Bn Br A0 A' ∧ r = none ∧ ((∀ x : Nat, A'.2.1 C1 x = if x = a2.toNatClampNeg then A.2.1 C1 a3.toNatClampNeg else if x = a3.toNatClampNeg then A.2.1 C1 a2.toNatClampNeg else A.2.1 C1 x) ∧ (∀ i, ¬ i = C1 → ∀ x, A'.2.1 i x = A.2.1 i x) ∧ A'.1 = A.1)) := hxC.of (by rfl) (hY25g hA hC1 nC1 rC1 gC1 a2 p2 q2 a3 p3 q3 hab (fun r A' h => h))
theorem hY24g {d : Nat} {Bn Br : Int} {A0 A : hs_A} (hA : hJ 0 Bn Br A0 A)  {L : Nat} (hL : hLL L) (a1 : Int32) (p1 : 0 ≤ a1.toInt) (q1 : a1.toInt ≤ 9) (a2 : Int32) (p2 : 0 ≤ a2.toInt) (q2 : a2.toInt ≤ 9) (hab : ¬ a1.toInt = a2.toInt) {P : Option Value → hs_A → Prop} (hP : ∀ (r : Option Value) (A' : hs_A), (hJ 0 Bn Br A0 A' ∧ r = none ∧ (((∀ x : Nat, A'.2.1 (L + 1) x = if x = a1.toNatClampNeg then A.2.1 (L + 1) a2.toNatClampNeg else if x = a2.toNatClampNeg then A.2.1 (L + 1) a1.toNatClampNeg else A.2.1 (L + 1) x) ∧ (∀ x : Nat, A'.2.1 (L + 2) x = if x = a1.toNatClampNeg then A.2.1 (L + 2) a2.toNatClampNeg else if x = a2.toNatClampNeg then A.2.1 (L + 2) a1.toNatClampNeg else A.2.1 (L + 2) x) ∧ (∀ x : Nat, A'.2.1 (L + 3) x = if x = a1.toNatClampNeg then A.2.1 (L + 3) a2.toNatClampNeg else if x = a2.toNatClampNeg then A.2.1 (L + 3) a1.toNatClampNeg else A.2.1 (L + 3) x) ∧ (∀ x : Nat, A'.2.1 (L + 4) x = if x = a1.toNatClampNeg then A.2.1 (L + 4) a2.toNatClampNeg else if x = a2.toNatClampNeg then A.2.1 (L + 4) a1.toNatClampNeg else A.2.1 (L + 4) x)) ∧ (∀ i, ¬ (L + 1 ≤ i ∧ i ≤ L + 4) → ∀ x, A'.2.1 i x = A.2.1 i x) ∧ A'.1 = A.1)) → P r A') : hxa (d + 1) none hm_t24 0 [.ref (L + 1), .int a1, .int a2] [] A P := by
  refine hxa_aload_n (by rfl) rfl ?_
  refine hxa_get (v := .ref (L + 2)) (by rfl) (hsL hL) (by rfl) (hvL hL (by omega)) ?_
  refine hxa_iload_n (by rfl) rfl ?_
  refine hxa_iload_n (by rfl) rfl ?_
  refine hxa_call2 (by rfl) (by decide) (by rfl) (by rfl) (by rfl) (hX25g (d := d + 0) hA (C1 := (L + 1)) (hsLa hL (by omega) (by omega)) (haL1 hL) (hrLa hL (by omega) (by omega)) (hqL hL (by omega)) a1 (by omega) (by omega) a2 (by omega) (by omega) hab) ?_
  rintro _ A1 ⟨hA1, rfl, s1, o1, e1⟩
  refine hxa_aload_n (by rfl) rfl ?_
  refine hxa_get (v := .ref (L + 3)) (by rfl) (hsL hL) (by rfl) (hvL hL (by omega)) ?_
  refine hxa_iload_n (by rfl) rfl ?_
  refine hxa_iload_n (by rfl) rfl ?_
  refine hxa_call2 (by rfl) (by decide) (by rfl) (by rfl) (by rfl) (hX25g (d := d + 0) hA1 (C1 := (L + 2)) (hsLa hL (by omega) (by omega)) (haL2 hL) (hrLa hL (by omega) (by omega)) (hqL hL (by omega)) a1 (by omega) (by omega) a2 (by omega) (by omega) hab) ?_
  rintro _ A2 ⟨hA2, rfl, s2, o2, e2⟩
  refine hxa_aload_n (by rfl) rfl ?_
  refine hxa_get (v := .ref (L + 4)) (by rfl) (hsL hL) (by rfl) (hvL hL (by omega)) ?_
  refine hxa_iload_n (by rfl) rfl ?_
  refine hxa_iload_n (by rfl) rfl ?_
  refine hxa_call2 (by rfl) (by decide) (by rfl) (by rfl) (by rfl) (hX25g (d := d + 0) hA2 (C1 := (L + 3)) (hsLa hL (by omega) (by omega)) (haL3 hL) (hrLa hL (by omega) (by omega)) (hqL hL (by omega)) a1 (by omega) (by omega) a2 (by omega) (by omega) hab) ?_
  rintro _ A3 ⟨hA3, rfl, s3, o3, e3⟩
  refine hxa_aload_n (by rfl) rfl ?_
  refine hxa_get (v := .ref (L + 5)) (by rfl) (hsL hL) (by rfl) (hvL hL (by omega)) ?_
  refine hxa_iload_n (by rfl) rfl ?_
  refine hxa_iload_n (by rfl) rfl ?_
  refine hxa_call2 (by rfl) (by decide) (by rfl) (by rfl) (by rfl) (hX25g (d := d + 0) hA3 (C1 := (L + 4)) (hsLa hL (by omega) (by omega)) (haL4 hL) (hrLa hL (by omega) (by omega)) (hqL hL (by omega)) a1 (by omega) (by omega) a2 (by omega) (by omega) hab) ?_
  rintro _ A4 ⟨hA4, rfl, s4, o4, e4⟩
  exact hxa_return (by rfl) rfl (hP _ _ ⟨hA4, rfl, ⟨⟨fun x => by rw [o4 (L + 1) (by omega), o3 (L + 1) (by omega), o2 (L + 1) (by omega), s1 x], fun x => by rw [o4 (L + 2) (by omega), o3 (L + 2) (by omega), s2 x, o1 (L + 2) (by omega), o1 (L + 2) (by omega), o1 (L + 2) (by omega)], fun x => by rw [o4 (L + 3) (by omega), s3 x, o2 (L + 3) (by omega), o1 (L + 3) (by omega), o2 (L + 3) (by omega), o1 (L + 3) (by omega), o2 (L + 3) (by omega), o1 (L + 3) (by omega)], fun x => by rw [s4 x, o3 (L + 4) (by omega), o2 (L + 4) (by omega), o1 (L + 4) (by omega), o3 (L + 4) (by omega), o2 (L + 4) (by omega), o1 (L + 4) (by omega), o3 (L + 4) (by omega), o2 (L + 4) (by omega), o1 (L + 4) (by omega)]⟩, fun i hi x => by rw [o4 i (by omega), o3 i (by omega), o2 i (by omega), o1 i (by omega)], by rw [e4, e3, e2, e1]⟩⟩)
theorem hX24g {d : Nat} {Bn Br : Int} {A0 A : hs_A} (hA : hJ 0 Bn Br A0 A)  {L : Nat} (hL : hLL L) (a1 : Int32) (p1 : 0 ≤ a1.toInt) (q1 : a1.toInt ≤ 9) (a2 : Int32) (p2 : 0 ≤ a2.toInt) (q2 : a2.toInt ≤ 9) (hab : ¬ a1.toInt = a2.toInt) : hxC (d + 2) 24 hm_m24 [.ref (L + 1), .int a1, .int a2] A (fun r A' => hJ 0 Bn Br A0 A' ∧ r = none ∧ (((∀ x : Nat, A'.2.1 (L + 1) x = if x = a1.toNatClampNeg then A.2.1 (L + 1) a2.toNatClampNeg else if x = a2.toNatClampNeg then A.2.1 (L + 1) a1.toNatClampNeg else A.2.1 (L + 1) x) ∧ (∀ x : Nat, A'.2.1 (L + 2) x = if x = a1.toNatClampNeg then A.2.1 (L + 2) a2.toNatClampNeg else if x = a2.toNatClampNeg then A.2.1 (L + 2) a1.toNatClampNeg else A.2.1 (L + 2) x) ∧ (∀ x : Nat, A'.2.1 (L + 3) x = if x = a1.toNatClampNeg then A.2.1 (L + 3) a2.toNatClampNeg else if x = a2.toNatClampNeg then A.2.1 (L + 3) a1.toNatClampNeg else A.2.1 (L + 3) x) ∧ (∀ x : Nat, A'.2.1 (L + 4) x = if x = a1.toNatClampNeg then A.2.1 (L + 4) a2.toNatClampNeg else if x = a2.toNatClampNeg then A.2.1 (L + 4) a1.toNatClampNeg else A.2.1 (L + 4) x)) ∧ (∀ i, ¬ (L + 1 ≤ i ∧ i ≤ L + 4) → ∀ x, A'.2.1 i x = A.2.1 i x) ∧ A'.1 = A.1)) := hxC.of (by rfl) (hY24g hA hL a1 p1 q1 a2 p2 q2 hab (fun r A' h => h))
theorem hY23g {d : Nat} {Bn Br : Int} {A0 A : hs_A} (hA : hJ 0 Bn Br A0 A)  {L : Nat} (hL : hLL L) (a1 : Int32) (p1 : 0 ≤ a1.toInt) (q1 : a1.toInt ≤ 9) (a2 : Int32) (p2 : 0 ≤ a2.toInt) (q2 : a2.toInt ≤ 255)  {P : Option Value → hs_A → Prop} (hP : ∀ (r : Option Value) (A' : hs_A), (hJ 0 Bn Br A0 A' ∧ r = none ∧ (A'.1 = A.1 ∧ A'.2.1 (L + 5) a1.toNatClampNeg = a2 ∧ A'.2.1 (L + 3) a1.toNatClampNeg = A.2.1 (L + 3) a1.toNatClampNeg ||| (a2 &&& A.2.1 (L + 1) a1.toNatClampNeg) ∧ ∀ i j, ¬ (i = L + 5 ∧ j = a1.toNatClampNeg) → ¬ (i = L + 3 ∧ j = a1.toNatClampNeg) → A'.2.1 i j = A.2.1 i j)) → P r A') : hxa (d + 0) none hm_t23 0 [.ref (L + 1), .int a1, .int a2] [] A P := by
  refine hxa_aload_n (by rfl) rfl ?_
  refine hxa_get (v := .ref (L + 6)) (by rfl) (hsL hL) (by rfl) (hvL hL (by omega)) ?_
  refine hxa_iload_n (by rfl) rfl ?_
  refine hxa_iload_n (by rfl) rfl ?_
  refine hxj_iast (by rfl) (hsLa hL (by omega) (by omega)) rfl (by omega) (by omega) hA (hbok (haL5 hL) rfl (by omega) (by omega)) (hrLa hL (by omega) (by omega)) (hqL hL (by omega)) (fun A1 hA1 eA1 fA1 gA1 => ?_)
  refine hxa_aload_n (by rfl) rfl ?_
  refine hxa_get (v := .ref (L + 4)) (by rfl) (hsL hL) (by rfl) (hvL hL (by omega)) ?_
  refine hxa_iload_n (by rfl) rfl ?_
  refine hxa_dup2IR (by rfl) ?_
  refine hxj_iald (by rfl) (hsLa hL (by omega) (by omega)) rfl (by omega) (by omega) (fun z2 ez2 => ?_)
  refine hxa_iload_n (by rfl) rfl ?_
  refine hxa_aload_n (by rfl) rfl ?_
  refine hxa_get (v := .ref (L + 2)) (by rfl) (hsL hL) (by rfl) (hvL hL (by omega)) ?_
  refine hxa_iload_n (by rfl) rfl ?_
  refine hxj_iald (by rfl) (hsLa hL (by omega) (by omega)) rfl (by omega) (by omega) (fun z3 ez3 => ?_)
  refine hxj_iandE (by rfl) (fun z4 ez4 => ?_)
  refine hxj_iorE (by rfl) (fun z5 ez5 => ?_)
  refine hxj_iast (by rfl) (hsLa hL (by omega) (by omega)) rfl (by omega) (by omega) hA1 (hbokN (haL3 hL)) (hrLa hL (by omega) (by omega)) (hqL hL (by omega)) (fun A6 hA6 eA6 fA6 gA6 => ?_)
  exact hxa_return (by rfl) rfl (hP _ _ ⟨hA6, rfl, ⟨eA6.trans eA1, by rw [fA6, hup2 (by omega), fA1, hup1], by rw [fA6, hup1, ez5, ez4, ← ez2, ← ez3, fA1, hup2 (by omega), hup2 (by omega)], fun i j h1 h2 => by rw [fA6, hup2 h2, fA1, hup2 h1]⟩⟩)
theorem hX23g {d : Nat} {Bn Br : Int} {A0 A : hs_A} (hA : hJ 0 Bn Br A0 A)  {L : Nat} (hL : hLL L) (a1 : Int32) (p1 : 0 ≤ a1.toInt) (q1 : a1.toInt ≤ 9) (a2 : Int32) (p2 : 0 ≤ a2.toInt) (q2 : a2.toInt ≤ 255)  : hxC (d + 1) 23 hm_m23 [.ref (L + 1), .int a1, .int a2] A (fun r A' => hJ 0 Bn Br A0 A' ∧ r = none ∧ (A'.1 = A.1 ∧ A'.2.1 (L + 5) a1.toNatClampNeg = a2 ∧ A'.2.1 (L + 3) a1.toNatClampNeg = A.2.1 (L + 3) a1.toNatClampNeg ||| (a2 &&& A.2.1 (L + 1) a1.toNatClampNeg) ∧ ∀ i j, ¬ (i = L + 5 ∧ j = a1.toNatClampNeg) → ¬ (i = L + 3 ∧ j = a1.toNatClampNeg) → A'.2.1 i j = A.2.1 i j)) := hxC.of (by rfl) (hY23g hA hL a1 p1 q1 a2 p2 q2  (fun r A' h => h))
