/-! NUMBERS for the walks: ints by their toInt -/
theorem hn_top {d : Nat} {ret : Option FieldType} {tb : hc_K} {pc : Nat} {l st : List Value} {A : hs_A} {P : Option Value → hs_A → Prop} {x : Int32} (k : ∀ z : Int32, z = x → hxa d ret tb pc l (.int z :: st) A P) : hxa d ret tb pc l (.int x :: st) A P := k x rfl
theorem hn_rng (x : Int32) : -2147483648 ≤ x.toInt ∧ x.toInt ≤ 2147483647 := ⟨Int32.le_toInt x, by have := Int32.toInt_lt x; omega⟩
theorem hn_add {x y z : Int32} (hz : z = x + y) (h1 : -2147483648 ≤ x.toInt + y.toInt) (h2 : x.toInt + y.toInt ≤ 2147483647) : z.toInt = x.toInt + y.toInt := by
  rw [hz, Int32.toInt_add]
  exact Int.bmod_eq_of_le (by omega) (by omega)
theorem hn_sub {x y z : Int32} (hz : z = x - y) (h1 : -2147483648 ≤ x.toInt - y.toInt) (h2 : x.toInt - y.toInt ≤ 2147483647) : z.toInt = x.toInt - y.toInt := by
  rw [hz, Int32.toInt_sub]
  exact Int.bmod_eq_of_le (by omega) (by omega)
theorem hn_mul {x y z : Int32} (hz : z = x * y) (h1 : -2147483648 ≤ x.toInt * y.toInt) (h2 : x.toInt * y.toInt ≤ 2147483647) : z.toInt = x.toInt * y.toInt := by
  rw [hz, Int32.toInt_mul]
  exact Int.bmod_eq_of_le (by omega) (by omega)
theorem hn_c {n : Nat} {z : Int32} (hz : z = Int32.ofNat n) (h : n < 2147483648) : z.toInt = n := by
  rw [hz]
  exact nI_toInt (by omega)
theorem hn_ix {j : Int32} {m : Nat} (h1 : 0 ≤ j.toInt) (h2 : j.toInt < m) : ¬ j < 0 ∧ j.toNatClampNeg < m := by
  constructor
  · rw [Int32.lt_iff_toInt_lt]
    have : (0 : Int32).toInt = 0 := by decide
    omega
  · show j.toInt.toNat < m
    omega
theorem hn_lt {x y : Int32} : hc_cmp .lt x y = true ↔ x.toInt < y.toInt := by simp [hc_cmp, Int32.lt_iff_toInt_lt]
theorem hn_ge {x y : Int32} : hc_cmp .ge x y = true ↔ y.toInt ≤ x.toInt := by simp [hc_cmp, Int32.le_iff_toInt_le]
theorem hn_gt {x y : Int32} : hc_cmp .gt x y = true ↔ y.toInt < x.toInt := by simp [hc_cmp, Int32.lt_iff_toInt_lt]
theorem hn_le {x y : Int32} : hc_cmp .le x y = true ↔ x.toInt ≤ y.toInt := by simp [hc_cmp, Int32.le_iff_toInt_le]
theorem hn_eq {x y : Int32} : hc_cmp .eq x y = true ↔ x.toInt = y.toInt := by simp [hc_cmp, Int32.toInt_inj]
theorem hn_ne {x y : Int32} : hc_cmp .ne x y = true ↔ ¬ x.toInt = y.toInt := by simp [hc_cmp, Int32.toInt_inj]
theorem hn_f {op : Jvm.ClassFile.Cond} {x y : Int32} {p : Prop} (h : hc_cmp op x y = true ↔ p) (hf : hc_cmp op x y = false) : ¬ p := fun q => by
  rw [h.mpr q] at hf
  cases hf
