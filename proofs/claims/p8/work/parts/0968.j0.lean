/-! the sets that are on, as bits -/
theorem hOnb_d : ∀ a, a < 10 → Int32.ofNat 1 <<< (Int32.ofNat a &&& 31) = Int32.ofNat (2 ^ a) := by decide +kernel
set_option maxRecDepth 1000000 in
theorem hOnb_b : ∀ a, a < 10 → ∀ n, n < 1024 → hBit (Int32.ofNat n) (Int32.ofNat a) = ((n / 2 ^ a % 2 : Nat) : Int) := by decide +kernel
theorem hOnb_x (n m : Nat) : Int32.ofNat n ^^^ Int32.ofNat m = Int32.ofNat (n ^^^ m) := by
  apply Int32.toBitVec_inj.mp
  show BitVec.ofNat 32 n ^^^ BitVec.ofNat 32 m = BitVec.ofNat 32 (n ^^^ m)
  rw [BitVec.ofNat_xor]
theorem hOnb.bit {x : Int32} {g : Nat → Int32} {H : Int} (h : hOnb x g H) {a : Int32} (h0 : 0 ≤ a.toInt) (h1 : a.toInt < H) (h9 : a.toInt ≤ 9) : hBit x a = (g (50 + a.toNatClampNeg)).toInt ∧ (hBit x a = 0 ∨ hBit x a = 1) := by
  obtain ⟨n, q1, rfl, q3⟩ := h
  have c := hn_cn (j := a) h0
  have e := hOnb_b a.toNatClampNeg (by omega) n q1.1
  rw [← hI32 h0 (by omega)] at e
  rw [q3 a.toNatClampNeg (by omega), hn_c (n := n / 2 ^ a.toNatClampNeg % 2) rfl (by omega), e]
  omega
theorem hOnb_n {n a h : Nat} : (n ^^^ 2 ^ a) / 2 ^ h % 2 = if h = a then 1 - n / 2 ^ h % 2 else n / 2 ^ h % 2 := by
  have t1 := Nat.testBit_xor n (2 ^ a) h
  rw [Nat.testBit_two_pow, Nat.testBit_eq_decide_div_mod_eq, Nat.testBit_eq_decide_div_mod_eq] at t1
  have m1 : (n ^^^ 2 ^ a) / 2 ^ h % 2 < 2 := Nat.mod_lt _ (by omega)
  have m2 : n / 2 ^ h % 2 < 2 := Nat.mod_lt _ (by omega)
  generalize (n ^^^ 2 ^ a) / 2 ^ h % 2 = u at *
  generalize n / 2 ^ h % 2 = v at *
  by_cases q : h = a
  · rw [if_pos q]
    rw [decide_eq_true q.symm, Bool.xor_true] at t1
    have u01 : u = 0 ∨ u = 1 := by omega
    have v01 : v = 0 ∨ v = 1 := by omega
    rcases u01 with rfl | rfl <;> rcases v01 with rfl | rfl <;> simp at t1 <;> rfl
  · rw [if_neg q]
    rw [decide_eq_false (p := a = h) (fun w => q w.symm), Bool.xor_false] at t1
    have u01 : u = 0 ∨ u = 1 := by omega
    have v01 : v = 0 ∨ v = 1 := by omega
    rcases u01 with rfl | rfl <;> rcases v01 with rfl | rfl <;> simp at t1 <;> rfl
theorem hOnb.turn {x x' : Int32} {g g' : Nat → Int32} {H : Int} (h : hOnb x g H) {a b : Int32} (hH : H ≤ 10) (h0 : 0 ≤ a.toInt) (h1 : a.toInt < H) (hb0 : 0 ≤ b.toInt) (hb1 : b.toInt ≤ 1) (hne : ¬ (hBit x a = 0 ∧ b.toInt = 0 ∨ ¬ hBit x a = 0 ∧ b.toInt = 1)) (hx : x' = x ^^^ (Int32.ofNat 1 <<< (a &&& 31))) (hg : ∀ k : Nat, k < 73 → g' k = if k = 50 + a.toNatClampNeg then b else g k) : hOnb x' g' H := by
  have bt := h.bit h0 h1 (by omega)
  obtain ⟨n, q1, rfl, q3⟩ := h
  have c := hn_cn (j := a) h0
  have e := hOnb_b a.toNatClampNeg (by omega) n q1.1
  rw [← hI32 h0 (by omega)] at e
  have ed := hOnb_d a.toNatClampNeg (by omega)
  rw [← hI32 h0 (by omega)] at ed
  refine ⟨n ^^^ 2 ^ a.toNatClampNeg, ?_, by rw [hx, ed, hOnb_x], fun k hk => ?_⟩
  · have p : 2 ^ a.toNatClampNeg < 2 ^ 10 := Nat.pow_lt_pow_right (by omega) (by omega)
    have p2 : 2 ^ a.toNatClampNeg < 2 ^ H.toNat := Nat.pow_lt_pow_right (by omega) (by omega)
    exact ⟨Nat.xor_lt_two_pow (n := 10) q1.1 p, Nat.xor_lt_two_pow q1.2 p2⟩
  · rw [hg (50 + k) (by omega), hOnb_n]
    by_cases q : k = a.toNatClampNeg
    · rw [if_pos (by omega), if_pos q, q]
      apply Int32.toInt_inj.mp
      have m2 : n / 2 ^ a.toNatClampNeg % 2 < 2 := Nat.mod_lt _ (by omega)
      rw [hn_c (n := 1 - n / 2 ^ a.toNatClampNeg % 2) rfl (by omega)]
      omega
    · rw [if_neg (by omega), if_neg q]
      exact q3 k hk
set_option maxRecDepth 1000000 in
theorem hOnb_a : ∀ n, n < 11 → ((Int32.ofNat 1 <<< (Int32.ofNat n &&& 31)) - Int32.ofNat 1 = Int32.ofNat (2 ^ n - 1) ∧ 2 ^ n - 1 < 1024) ∧ ∀ h, h < n → (2 ^ n - 1) / 2 ^ h % 2 = 1 := by decide +kernel
theorem hOnb.all {x y : Int32} {g : Nat → Int32} (h0 : 0 ≤ y.toInt) (h1 : y.toInt ≤ 10) (hx : x = (Int32.ofNat 1 <<< (y &&& 31)) - Int32.ofNat 1) (hg : ∀ j : Nat, (j : Int) < y.toInt → g (50 + j) = Int32.ofNat 1) : hOnb x g y.toInt := by
  have c := hn_cn (j := y) h0
  obtain ⟨⟨d1, d2⟩, d3⟩ := hOnb_a y.toNatClampNeg (by omega)
  rw [← hI32 h0 (by omega)] at d1
  have ee : y.toInt.toNat = y.toNatClampNeg := by omega
  exact ⟨_, ⟨d2, by rw [ee]; have := Nat.two_pow_pos y.toNatClampNeg; omega⟩, hx.trans d1, fun k hk => by rw [hg k hk, d3 k (by omega)]⟩
