theorem hY151 {d : Nat} {Bn Br : Int} {A0 A : hs_A} (hA : hJ 0 Bn Br A0 A)   {P : Option Value → hs_A → Prop} (hP : ∀ (r : Option Value) (A' : hs_A), (A = A' ∧ ∃ z : Int32, r = some (.int z)) → P r A') : hxa (d + 0) (some (.int)) hm_t151 0 [.ref 368] [] A P := by
  refine hxa_aload_n (by rfl) rfl ?_
  refine hxj_getI (by rfl) (by rfl) (by rfl) (fun z1 ez1 => ?_)
  exact hxa_ireturn (by rfl) rfl (hP _ _ ⟨rfl, _, rfl⟩)
theorem hX151 {d : Nat} {Bn Br : Int} {A0 A : hs_A} (hA : hJ 0 Bn Br A0 A)   : hxC (d + 1) 151 hm_m151 [.ref 368] A (fun r A' => A = A' ∧ ∃ z : Int32, r = some (.int z)) := hxC.of (by rfl) (hY151 hA  (fun r A' h => h))
theorem hy_I0 : hI0 hy_A := ⟨hy_t, (by decide +kernel : ∀ q, q < 20 → hy_A.2.2.1 374 q = hky q), fun i hi => absurd hi (by rw [show (hy_A.1 0 1).toInt = 0 by decide +kernel]; omega)⟩
set_option maxRecDepth 1000000 in
theorem hy_IP : hIP hy_A := ⟨hy_I0, (by decide +kernel : (hy_A.2.2.2 0 3 = 3 ∨ hy_A.2.2.2 0 3 = 12) ∧ (hy_A.2.2.2 0 4 = 3 ∨ hy_A.2.2.2 0 4 = 12) ∧ (hy_A.2.2.2 20 2 = 3 ∨ hy_A.2.2.2 20 2 = 12) ∧ (hy_A.2.2.2 323 5 = 7 ∨ hy_A.2.2.2 323 5 = 16)), by decide +kernel⟩
set_option maxRecDepth 1000000 in
theorem uwQ_ok : (Nat.testBit uwQ (ug_o (ug_g 0) 1) || (Nat.testBit uwQ (ug_o (ug_g 367) 2) || (Nat.testBit uwQ (ug_g 1) || (Nat.testBit uwQ (ug_g 368) || (Nat.testBit uwQ (ug_g 374) || (Nat.testBit uwQ (ug_o (ug_g 0) 2) || Nat.testBit uwQ (ug_o (ug_g 367) 17))))))) = false := by decide +kernel
theorem hPLk {W1 W2 : Nat} {A A1 A2 : hs_A} (h : A.1 0 2 = A.1 367 17) (w1 : uf_W W1 A A1) (w2 : uf_W W2 A1 A2) (a : Nat.testBit W1 (ug_o (ug_g 0) 2) = false) (b : Nat.testBit W1 (ug_o (ug_g 367) 17) = false) (c : Nat.testBit W2 (ug_o (ug_g 0) 2) = false) (d : Nat.testBit W2 (ug_o (ug_g 367) 17) = false) : A2.1 0 2 = A2.1 367 17 := by
  rw [w2.1 0 _ _ 2 rfl rfl c, w2.1 367 _ _ 17 rfl rfl d, w1.1 0 _ _ 2 rfl rfl a, w1.1 367 _ _ 17 rfl rfl b]
  exact h
