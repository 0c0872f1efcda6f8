/-! THE CLASS'S TOKENS -/
def hcTp (B : Nat → Int) (n : Nat) (A : hs_A) : Prop := ∀ i, i < n → (A.2.1 1 i).toInt = B i
def hcG (B : Nat → Int) (n : Nat) (A A' : hs_A) (p j : Nat) : Prop := ∃ (k : Int32) (v : Int64), A'.1 = A.1 ∧ A'.2.1 = hs_up A.2.1 22 j k ∧ A'.2.2.1 = hs_upL A.2.2.1 23 j v ∧ A'.2.2.2 = A.2.2.2 ∧ k.toInt = ht_kind B n p ∧ (ht_kind B n p = 20 → v.toInt = ht_g 32 96 (ht_rv B p (ht_end B n p - p))) ∧ (ht_kind B n p = 21 → v.toInt = ht_g 10 48 (ht_rv B p (ht_end B n p - p)))
theorem hupL1 {f : Nat → Nat → Int64} {i k : Nat} {x : Int64} : hs_upL f i k x i k = x := by simp [hs_upL]
theorem hupL2 {f : Nat → Nat → Int64} {i k a b : Nat} {x : Int64} (h : ¬ (a = i ∧ b = k)) : hs_upL f i k x a b = f a b := by
  unfold hs_upL
  by_cases q : a = i
  · rw [if_pos q, if_neg (fun w => h ⟨q, w⟩)]
  · rw [if_neg q]
theorem hupLL {f : Nat → Nat → Int64} {i k : Nat} {x y : Int64} : hs_upL (hs_upL f i k x) i k y = hs_upL f i k y := by
  funext a b
  by_cases q : a = i ∧ b = k
  · obtain ⟨rfl, rfl⟩ := q
    rw [hupL1, hupL1]
  · rw [hupL2 q, hupL2 q, hupL2 q]
theorem hupL0 {f : Nat → Nat → Int64} {i k : Nat} {x : Int64} (h : f i k = x) : f = hs_upL f i k x := by
  funext a b
  by_cases q : a = i ∧ b = k
  · obtain ⟨rfl, rfl⟩ := q
    rw [hupL1, h]
  · rw [hupL2 q]
theorem hcG.pre {B : Nat → Int} {n p j : Nat} {A A1 A' : hs_A} {x : Int64} (h : hcG B n A1 A' p j) (e : A1.1 = A.1) (f : A1.2.1 = A.2.1) (g : A1.2.2.1 = hs_upL A.2.2.1 23 j x) (r : A1.2.2.2 = A.2.2.2) : hcG B n A A' p j := by
  obtain ⟨k, v, h1, h2, h3, h4, h5, h6, h7⟩ := h
  exact ⟨k, v, h1.trans e, by rw [h2, f], by rw [h3, g, hupLL], h4.trans r, h5, h6, h7⟩
theorem h64or {x : Int64} {y : Int32} (hx0 : 0 ≤ x.toInt) (hx1 : x.toInt < 1099511627776) (hy0 : 0 ≤ y.toInt) (hy1 : y.toInt < 32) : ((x <<< ((Int32.ofNat 5).toInt64 &&& 63)) ||| y.toInt64).toInt = 32 * x.toInt + y.toInt := by
  obtain ⟨m, hm⟩ : ∃ m : Nat, x.toInt = (m : Int) := ⟨x.toInt.toNat, by omega⟩
  obtain ⟨k, hk⟩ : ∃ k : Nat, y.toInt = (k : Int) := ⟨y.toInt.toNat, by omega⟩
  have hx : x = Int64.ofNat m := by
    apply Int64.toInt_inj.mp
    rw [hm, Int64.toInt_ofNat_of_lt (by omega)]
  have hy : y.toInt64 = Int64.ofNat k := by
    apply Int64.toInt_inj.mp
    rw [Int32.toInt_toInt64, hk, Int64.toInt_ofNat_of_lt (by omega)]
  have hsh : ((Int32.ofNat 5).toInt64 &&& 63) = (5 : Int64) := by decide
  rw [hsh, hy, hx]
  have e : (Int64.ofNat m <<< (5 : Int64)) ||| Int64.ofNat k = Int64.ofNat (32 * m + k) := by
    apply Int64.toBitVec_inj.mp
    apply BitVec.eq_of_toNat_eq
    rw [Int64.toBitVec_or, Int64.toBitVec_shiftLeft]
    rw [BitVec.toNat_or]
    have h5 : ((5 : Int64).toBitVec.smod 64) = 5#64 := by decide
    rw [h5]
    show ((BitVec.ofNat 64 m <<< (5#64)).toNat ||| (BitVec.ofNat 64 k).toNat) = (BitVec.ofNat 64 (32 * m + k)).toNat
    rw [BitVec.shiftLeft_eq', BitVec.toNat_shiftLeft]
    simp only [BitVec.toNat_ofNat]
    have hm1 : m < 1099511627776 := by omega
    have hk1 : k < 32 := by omega
    rw [Nat.mod_eq_of_lt (a := m) (b := 2 ^ 64) (by omega), Nat.mod_eq_of_lt (a := k) (b := 2 ^ 64) (by omega), Nat.mod_eq_of_lt (a := 32 * m + k) (b := 2 ^ 64) (by omega), show (5 % 2 ^ 64 : Nat) = 5 by decide]
    rw [Nat.shiftLeft_eq, Nat.mod_eq_of_lt (by omega), Nat.mul_comm m (2 ^ 5)]
    exact (Nat.two_pow_add_eq_or_of_lt hk1 m).symm
  rw [e, Int64.toInt_ofNat_of_lt (by omega), Int64.toInt_ofNat_of_lt (by omega)]
  omega
theorem h64add {x y : Int64} (h1 : -9223372036854775808 ≤ x.toInt + y.toInt) (h2 : x.toInt + y.toInt ≤ 9223372036854775807) : (x + y).toInt = x.toInt + y.toInt := by
  rw [Int64.toInt_add]
  exact Int.bmod_eq_of_le (by omega) (by omega)
theorem h64sub {x y : Int64} (h1 : -9223372036854775808 ≤ x.toInt - y.toInt) (h2 : x.toInt - y.toInt ≤ 9223372036854775807) : (x - y).toInt = x.toInt - y.toInt := by
  rw [Int64.toInt_sub]
  exact Int.bmod_eq_of_le (by omega) (by omega)
theorem h64mul {x y : Int64} (h1 : -9223372036854775808 ≤ x.toInt * y.toInt) (h2 : x.toInt * y.toInt ≤ 9223372036854775807) : (x * y).toInt = x.toInt * y.toInt := by
  rw [Int64.toInt_mul]
  exact Int.bmod_eq_of_le (by omega) (by omega)
theorem h64c (m : Nat) (h : m < 9223372036854775808) : (Int64.ofNat m).toInt = (m : Int) := Int64.toInt_ofNat_of_lt (by omega)
theorem h64dig {x : Int64} {y : Int32} (hx0 : 0 ≤ x.toInt) (hx1 : x.toInt < 100000) (hy0 : 48 ≤ y.toInt) (hy1 : y.toInt ≤ 57) : (x * (Int64.ofNat 10) + y.toInt64 - (Int64.ofNat 48)).toInt = 10 * x.toInt + (y.toInt - 48) := by
  have e1 := h64c 10 (by omega)
  have e2 := h64c 48 (by omega)
  have e3 : y.toInt64.toInt = y.toInt := Int32.toInt_toInt64 y
  have m := h64mul (x := x) (y := Int64.ofNat 10) (by rw [e1]; omega) (by rw [e1]; omega)
  rw [e1] at m
  have a := h64add (x := x * Int64.ofNat 10) (y := y.toInt64) (by omega) (by omega)
  have s := h64sub (x := x * Int64.ofNat 10 + y.toInt64) (y := Int64.ofNat 48) (by omega) (by omega)
  omega
/-! the words' text, by places -/
def hw_f (l : List Nat) : Nat × Nat := l.foldl (fun x c => if c = 32 then (x.1 + 1, 0) else (x.1, x.2 + 1)) (0, 0)
def hw_k (i : Nat) : Nat := (hw_f ((hc_txt 1).take i)).1
def hw_o (i : Nat) : Nat := (hw_f ((hc_txt 1).take i)).2
def hw_w (k : Nat) : List Int := ht_ws.getD k []
def hw_st (i : Nat) : Prop := (hc_txt 1)[i]? = some ((hc_txt 1).getD i 0) ∧ (hc_txt 1).getD i 0 < 128 ∧ hw_k i < 20 ∧ hw_o i < 100 ∧ (((hc_txt 1).getD i 0 ≠ 32 ∧ hw_k (i + 1) = hw_k i ∧ hw_o (i + 1) = hw_o i + 1 ∧ (hw_w (hw_k i)).getD (hw_o i) 0 = (((hc_txt 1).getD i 0 : Nat) : Int)) ∨ ((hc_txt 1).getD i 0 = 32 ∧ hw_k (i + 1) = hw_k i + 1 ∧ hw_o (i + 1) = 0 ∧ (hw_w (hw_k i)).length = hw_o i))
theorem hw_step {i : Nat} (h : i < 102) : hw_st i := by
  have key : ∀ j : Fin 102, (hc_txt 1)[j.1]? = some ((hc_txt 1).getD j.1 0) ∧ (hc_txt 1).getD j.1 0 < 128 ∧ hw_k j.1 < 20 ∧ hw_o j.1 < 100 ∧ (((hc_txt 1).getD j.1 0 ≠ 32 ∧ hw_k (j.1 + 1) = hw_k j.1 ∧ hw_o (j.1 + 1) = hw_o j.1 + 1 ∧ (hw_w (hw_k j.1)).getD (hw_o j.1) 0 = (((hc_txt 1).getD j.1 0 : Nat) : Int)) ∨ ((hc_txt 1).getD j.1 0 = 32 ∧ hw_k (j.1 + 1) = hw_k j.1 + 1 ∧ hw_o (j.1 + 1) = 0 ∧ (hw_w (hw_k j.1)).length = hw_o j.1)) := by decide +kernel
  exact key ⟨i, h⟩
def hw_AL (B : Nat → Int) (p m k o : Nat) : Prop := o ≤ m ∧ ∀ q, q < o → B (p + q) = (hw_w k).getD q 0
section HW
variable {B : Nat → Int} {p m k o e : Nat}
theorem hw_al1 (h : hw_AL B p m k o) (h1 : o < m) (h2 : B (p + o) = (hw_w k).getD o 0) : hw_AL B p m k (o + 1) := ⟨h1, fun q hq => by
  by_cases w : q = o
  · subst w; exact h2
  · exact h.2 q (by omega)⟩
theorem hw_al0 (h : ¬ hw_AL B p m k o) : ¬ hw_AL B p m k (o + 1) := fun w => h ⟨by have := w.1; omega, fun q hq => w.2 q (by omega)⟩
theorem hw_alm (h : ¬ o < m) : ¬ hw_AL B p m k (o + 1) := fun w => h w.1
theorem hw_alc (h : ¬ B (p + o) = (hw_w k).getD o 0) : ¬ hw_AL B p m k (o + 1) := fun w => h (w.2 o (by omega))
theorem hw_all : hw_AL B p m k 0 := ⟨Nat.zero_le _, fun q hq => absurd hq (Nat.not_lt_zero q)⟩
theorem hww_get (hk : k < 20) : ht_ws[k]? = some (hw_w k) := by
  have h20 : ht_ws.length = 20 := by decide
  unfold hw_w
  rw [List.getD_eq_getElem?_getD, List.getElem?_eq_getElem (by omega)]
  rfl
theorem hw_eq (hk : k < 20) (hl : (hw_w k).length = o) (he : p ≤ e) : ht_ws[k]? = some (ht_sub B p e) ↔ (o = e - p ∧ hw_AL B p (e - p) k o) := by
  rw [hww_get hk]
  have hsl : (ht_sub B p e).length = e - p := by unfold ht_sub; simp
  have hsg : ∀ q, q < e - p → (ht_sub B p e).getD q 0 = B (p + q) := fun q hq => by
    unfold ht_sub
    rw [List.getD_eq_getElem?_getD, List.getElem?_map, List.getElem?_range hq]
    rfl
  constructor
  · intro h
    have h' := Option.some.inj h
    have ho : o = e - p := by rw [← hl, h', hsl]
    refine ⟨ho, by omega, fun q hq => ?_⟩
    rw [h', hsg q (by omega)]
  · intro h
    apply congrArg some
    apply List.ext_getElem (by rw [hl, hsl]; exact h.1)
    intro q h1 h2
    have a := h.2.2 q (by omega)
    have b := hsg q (by omega)
    rw [List.getD_eq_getElem?_getD, List.getElem?_eq_getElem h2] at b
    rw [List.getD_eq_getElem?_getD, List.getElem?_eq_getElem h1] at a
    exact (a.symm.trans b.symm)
end HW
theorem hsg_ix {x : Int32} (h0 : 0 ≤ x.toInt) (h1 : x.toInt ≤ 127) : ((hc_ixf x (hc_txt 0) 0).toInt = -1 ∧ ht_sg x.toInt = 23) ∨ (0 ≤ (hc_ixf x (hc_txt 0) 0).toInt ∧ (hc_ixf x (hc_txt 0) 0).toInt ≤ 8 ∧ ht_sg x.toInt = 24 + (hc_ixf x (hc_txt 0) 0).toInt) := by
  have key : ∀ j : Fin 128, ((hc_ixf (Int32.ofNat j.1) (hc_txt 0) 0).toInt = -1 ∧ ht_sg (j.1 : Int) = 23) ∨ (0 ≤ (hc_ixf (Int32.ofNat j.1) (hc_txt 0) 0).toInt ∧ (hc_ixf (Int32.ofNat j.1) (hc_txt 0) 0).toInt ≤ 8 ∧ ht_sg (j.1 : Int) = 24 + (hc_ixf (Int32.ofNat j.1) (hc_txt 0) 0).toInt) := by decide +kernel
  have hx : x = Int32.ofNat x.toInt.toNat := by
    apply Int32.toInt_inj.mp
    rw [hn_c (n := x.toInt.toNat) rfl (by omega)]
    omega
  have := key ⟨x.toInt.toNat, by omega⟩
  dsimp only at this
  rw [← hx, show ((x.toInt.toNat : Nat) : Int) = x.toInt by omega] at this
  exact this
theorem hi2c {x : Int32} (h0 : 0 ≤ x.toInt) (h1 : x.toInt ≤ 127) : (x.toUInt32 % 65536).toInt32 = x := by
  have key : ∀ j : Fin 128, ((Int32.ofNat j.1).toUInt32 % 65536).toInt32 = Int32.ofNat j.1 := by decide +kernel
  have hx : x = Int32.ofNat x.toInt.toNat := by
    apply Int32.toInt_inj.mp
    rw [hn_c (n := x.toInt.toNat) rfl (by omega)]
    omega
  have := key ⟨x.toInt.toNat, by omega⟩
  dsimp only at this
  rw [← hx] at this
  exact this
theorem hpow1 {b : Int} (hb : 1 ≤ b) : ∀ m : Nat, 1 ≤ b ^ m
  | 0 => by rw [Int.pow_zero]; omega
  | m + 1 => by
    rw [Int.pow_succ]
    have h1 := hpow1 hb m
    have h2 := Int.mul_le_mul_of_nonneg_left hb (show 0 ≤ b ^ m by omega)
    rw [Int.mul_one] at h2
    omega
theorem hpow {b : Int} (hb : 1 ≤ b) {m : Nat} : ∀ d : Nat, b ^ m ≤ b ^ (m + d)
  | 0 => Int.le_refl _
  | d + 1 => by
    rw [show m + (d + 1) = (m + d) + 1 from rfl, Int.pow_succ]
    have h1 := hpow hb (m := m) d
    have h3 := hpow1 hb (m + d)
    have h2 := Int.mul_le_mul_of_nonneg_left hb (show 0 ≤ b ^ (m + d) by omega)
    rw [Int.mul_one] at h2
    omega
theorem hpowk {b : Int} (hb : 1 ≤ b) {m k : Nat} (h : m ≤ k) : b ^ m ≤ b ^ k := by
  have := hpow hb (m := m) (k - m)
  rw [show m + (k - m) = k by omega] at this
  exact this
