/-! NUMBERS for the walks: ints by their toInt -/
theorem hn_top {d : Nat} {ret : Option FieldType} {tb : hc_K} {pc : Nat} {l st : List Value} {A : hs_A} {P : Option Value → hs_A → Prop} {x : Int32} (k : ∀ z : Int32, z = x → hxa d ret tb pc l (.int z :: st) A P) : hxa d ret tb pc l (.int x :: st) A P := k x rfl
theorem hn_rng (x : Int32) : -2147483648 ≤ x.toInt ∧ x.toInt ≤ 2147483647 := ⟨Int32.le_toInt x, by have := Int32.toInt_lt x; omega⟩
theorem hn_add {x y z : Int32} (hz : z = x + y) (h1 : -2147483648 ≤ x.toInt + y.toInt) (h2 : x.toInt + y.toInt ≤ 2147483647) : z.toInt = x.toInt + y.toInt := by
  rw [hz, Int32.toInt_add]
  exact Int.bmod_eq_of_le (by omega) (by omega)
theorem hn_sub {x y z : Int32} (hz : z = x - y) (h1 : -2147483648 ≤ x.toInt - y.toInt) (h2 : x.toInt - y.toInt ≤ 2147483647) : z.toInt = x.toInt - y.toInt := by
  rw [hz, Int32.toInt_sub]
  exact Int.bmod_eq_of_le (by omega) (by omega)
theorem hn_mul {x y z : Int32} (hz : z = x * y) (h1 : -2147483648 ≤ x.toInt * y.toInt) (h2 : x.toInt * y.toInt ≤ 2147483647) : z.toInt = x.toInt * y.toInt := by
  rw [hz, Int32.toInt_mul]
  exact Int.bmod_eq_of_le (by omega) (by omega)
theorem hn_c {n : Nat} {z : Int32} (hz : z = Int32.ofNat n) (h : n < 2147483648) : z.toInt = n := by
  rw [hz]
  exact nI_toInt (by omega)
theorem hn_ix {j : Int32} {m : Nat} (h1 : 0 ≤ j.toInt) (h2 : j.toInt < m) : ¬ j < 0 ∧ j.toNatClampNeg < m := by
  constructor
  · rw [Int32.lt_iff_toInt_lt]
    have : (0 : Int32).toInt = 0 := by decide
    omega
  · show j.toInt.toNat < m
    omega
theorem hn_lt {x y : Int32} : hc_cmp .lt x y = true ↔ x.toInt < y.toInt := by simp [hc_cmp, Int32.lt_iff_toInt_lt]
theorem hn_ge {x y : Int32} : hc_cmp .ge x y = true ↔ y.toInt ≤ x.toInt := by simp [hc_cmp, Int32.le_iff_toInt_le]
theorem hn_gt {x y : Int32} : hc_cmp .gt x y = true ↔ y.toInt < x.toInt := by simp [hc_cmp, Int32.lt_iff_toInt_lt]
theorem hn_le {x y : Int32} : hc_cmp .le x y = true ↔ x.toInt ≤ y.toInt := by simp [hc_cmp, Int32.le_iff_toInt_le]
theorem hn_eq {x y : Int32} : hc_cmp .eq x y = true ↔ x.toInt = y.toInt := by simp [hc_cmp, Int32.toInt_inj]
theorem hn_ne {x y : Int32} : hc_cmp .ne x y = true ↔ ¬ x.toInt = y.toInt := by simp [hc_cmp, Int32.toInt_inj]
theorem hn_f {op : Jvm.ClassFile.Cond} {x y : Int32} {p : Prop} (h : hc_cmp op x y = true ↔ p) (hf : hc_cmp op x y = false) : ¬ p := fun q => by
  rw [h.mpr q] at hf
  cases hf
def hb_ft : List (List (Option (Int × Int))) := [[none, none, none, none, some (-1, 255), none], [none, none, none, none, some (0, 408), none], [none, none, none, none, none, none, some (0, 10), none, some (-1, 255), none, none], [none, some (0, 39), some (0, 40)], [none, none, none, some (0, 400), none, none, none, none, none], [none, none, none, none, some (0, 10), none, none, none], [none, none, none, some (0, 401)], [none, none, some (0, 20)], [none, some (0, 10)], [none, some (0, 2000), none, none, none, none, none, none, none, none, none, none, none, none, none, none, none], [none, none, some (0, 2000), none, some (0, 2000), none, none, none, none, none, some (0, 402), some (0, 400), some (0, 7), some (0, 2), none, none, none, none, some (0, 1), some (0, 1), some (0, 10), none, none, none, none, none, none, none, none, none, none, some (0, 260), none, none, none, none, none, some (0, 840), none, none, none, some (0, 64), none, none, none, none, none, none, none, none, none, some (0, 40), none, none, none, none, none, none, none, some (0, 20), none, none, none, none]]
def hb_at : List (List (Option (Int × Int))) := [[none, none, none, none, none, none, none, none, none, none, none, none, none, none, none, none, none, none, none, none, none, none, none, none, none, none, none, none, none, none, none, some (0, 255)], [none, none, none, none, none, none, some (0, 255), none, none, none, none, none, none, none, none, some (0, 255), none, none, none, none, none, none, some (0, 255), none, none, none, none, none, none, some (0, 255), none, none], [none, none, none, none, some (0, 255), none, none, none, none, none, none, some (0, 255), none, none, none, none, none, none, some (0, 255), none, none, none, none, none, none, some (0, 255), none, none, none, none, none, none], [some (0, 255), none, none, none, none, none, none, some (0, 255), none, none, none, none, none, none, some (0, 255), none, none, none, none, none, none, some (0, 255), none, none, none, none, none, none, some (0, 255), none, none, none], [none, none, none, some (0, 255), none, none, none, none, none, none, some (0, 255), none, none, none, none, none, none, some (0, 255), none, none, none, none, none, none, some (0, 255), none, none, none, none, none, none, some (0, 255)], [none, none, none, none, none, none, some (0, 255), none, none, none, none, none, none, some (0, 255), none, none, none, none, none, none, some (0, 255), none, none, none, none, none, none, some (0, 255), none, none, none, none], [none, none, some (0, 255), none, none, none, none, none, none, some (0, 255), none, none, none, none, none, none, some (0, 255), none, none, none, none, none, none, some (0, 255), none, none, none, none, none, none, some (0, 255), none], [none, none, none, none, none, some (0, 255), none, none, none, none, none, none, some (0, 255), none, none, none, none, none, none, some (0, 255), none, none, none, none, none, none, some (0, 255), none, none, none, none, none], [none, some (0, 255), none, none, none, none, none, none, some (0, 255), none, none, none, none, none, none, some (0, 255), none, none, none, none, none, none, some (0, 255), none, none, none, none, none, none, some (0, 255), none, none], [none, none, none, none, some (0, 255), none, none, none, none, none, none, some (0, 255), none, none, none, none, none, none, some (0, 255), none, none, none, none, none, none, some (0, 255), none, none, none, none, none, none], [some (0, 255), none, none, none, none, none, none, none, none, none, none, none, none, none, none, none, none, none, none, none, none, some (0, 9), none, some (0, 255), none, none, none, none, none, none, none, some (0, 255)], [none, none, none, none, none, none, some (0, 255), none, none, none, none, none, none, some (0, 255), none, none, none, none, some (0, 39), none, some (0, 9999), none, none, none, some (0, 10), none, none, none, none, none, none, none], [none, none, none, none, none, none, none, none, none, none, none, none, none, none, none, none, some (0, 255), none, none, none, some (0, 23), none, some (0, 9), none, none, none]]
def hr_at : List (List (Option Bool)) := [[some false, some false, some false, some false, some false, some false, some false, some false, some false, some false, some true, some false, some false, some false, some false, some false, some false, some false, some false, some true, some false, some false, some false, some false, some false, some false, some false, some true, some true, some true, some true, some true], [some true, some false, some true, some true, some true, some true, some true, some true, some false, some false, some false, some true, some true, some true, some true, some true, some true, some false, some true, some true, some true, some true, some true, some true, some false, some true, some true, some true, some true, some true, some true, some false], [some true, some true, some true, some true, some true, some true, some false, some true, some true, some true, some true, some true, some true, some false, some true, some true, some true, some true, some true, some true, some false, some true, some true, some true, some true, some true, some true, some false, some true, some true, some true, some true], [some true, some true, some false, some true, some true, some true, some true, some true, some true, some false, some true, some true, some true, some true, some true, some true, some false, some true, some true, some true, some true, some true, some true, some false, some true, some true, some true, some true, some true, some true, some false, some true], [some true, some true, some true, some true, some true, some false, some true, some true, some true, some true, some true, some true, some false, some true, some true, some true, some true, some true, some true, some false, some true, some true, some true, some true, some true, some true, some false, some true, some true, some true, some true, some true], [some true, some false, some true, some true, some true, some true, some true, some true, some false, some true, some true, some true, some true, some true, some true, some false, some true, some true, some true, some true, some true, some true, some false, some true, some true, some true, some true, some true, some true, some false, some true, some true], [some true, some true, some true, some true, some false, some true, some true, some true, some true, some true, some true, some false, some true, some true, some true, some true, some true, some true, some false, some true, some true, some true, some true, some true, some true, some false, some true, some true, some true, some true, some true, some true], [some false, some true, some true, some true, some true, some true, some true, some false, some true, some true, some true, some true, some true, some true, some false, some true, some true, some true, some true, some true, some true, some false, some true, some true, some true, some true, some true, some true, some false, some true, some true, some true], [some true, some true, some true, some false, some true, some true, some true, some true, some true, some true, some false, some true, some true, some true, some true, some true, some true, some false, some true, some true, some true, some true, some true, some true, some false, some true, some true, some true, some true, some true, some true, some false], [some true, some true, some true, some true, some true, some true, some false, some true, some true, some true, some true, some true, some true, some false, some true, some true, some true, some true, some true, some true, some false, some true, some true, some true, some true, some true, some true, some false, some true, some true, some true, some true], [some true, some true, some false, some false, some true, some true, some true, some true, some false, some false, some true, some true, some true, some true, some true, some true, some true, some true, some true, some true, some false, some true, some true, some true, some true, some true, some false, some true, some true, some true, some true, some true], [some true, some false, some true, some true, some true, some true, some true, some true, some false, some true, some true, some true, some true, some true, some true, some false, some false, some false, some false, some false, some false, some false, some false, some false, some false, some false, some false, some false, some false, some false, some false, some false], [some false, some false, some false, some false, some false, some false, some false, some false, some false, some true, some true, some true, some true, some true, some true, some true, some true, some true, some true, some true, some true, some true, some true, some true, some true, some true]]
def hr_ft : List (List Bool) := [[false, false, false, false, true, true], [false, false, false, false, false, false], [false, false, false, false, false, false, true, true, true, true, true], [false, true, true], [false, false, false, false, false, false, false, false, false], [false, false, false, false, false, false, false, false], [false, false, false, false], [false, false, true], [false, true], [false, false, false, false, false, false, false, false, false, false, true, false, false, false, false, false, false], [false, false, false, false, false, false, false, false, false, false, false, false, false, false, false, false, false, false, false, false, false, false, false, false, false, false, false, false, false, false, false, false, false, false, false, false, false, false, false, false, false, false, false, false, true, false, false, true, true, false, false, true, false, false, false, false, false, false, false, true, false, false, false, false]]
def hl_L : List Nat := [26, 33, 42, 49, 56, 63, 70, 77, 84, 91, 98, 105, 112, 119, 126, 133, 140, 147, 154, 161, 168, 175, 182, 189, 196, 203, 210, 217, 224, 231, 238, 245, 252, 259, 266, 273, 280, 287, 294, 301, 308, 315, 346, 353, 360]
noncomputable def hb_f (i k : Nat) : Option (Int × Int) := match hc_get hs_sh i with
  | none => none
  | some sh => match Nat.beq sh.1 3 with
    | false => none
    | true => match hc_nth hb_ft sh.2.1 with
      | none => none
      | some q => match hc_nth q k with
        | none => none
        | some b => b
noncomputable def hb_a (i : Nat) : Option (Int × Int) := hc_get hb_at i
noncomputable def hr_f0 (i k : Nat) : Bool := match hc_get hs_sh i with
  | none => false
  | some sh => match Nat.beq sh.1 3 with
    | false => false
    | true => match hc_nth hr_ft sh.2.1 with
      | none => false
      | some q => match hc_nth q k with
        | none => false
        | some b => b
noncomputable def hr_a0 (i : Nat) : Bool := match hc_get hr_at i with
  | none => false
  | some b => b
/-- what may be written, by modes: 0 the runtime; 1 and 2 the class reads into the terrace 2, 11; 3 the model cuts; 4 the model reads -/
def hpar (T i k : Nat) : Bool := (Nat.beq i 20 && (Nat.ble 3 k && Nat.ble k 8)) || ((Nat.beq i 21 && Nat.beq k 3) || ((Nat.beq i T && Nat.ble 4 k) || (Nat.beq i (T + 4) && Nat.ble 4 k)))
def hmpar (i k : Nat) : Bool := Nat.beq i 367 && (Nat.beq k 2 || (Nat.beq k 4 || ((Nat.ble 10 k && Nat.ble k 17) || (Nat.beq k 19 || (Nat.beq k 20 || (Nat.beq k 31 || (Nat.beq k 37 || Nat.beq k 41)))))))
noncomputable def hr_f (Q i k : Nat) : Bool := match Q with
  | 0 => hr_f0 i k
  | 1 => hpar 2 i k
  | 2 => hpar 11 i k
  | 6 => hpar 2 i k
  | 7 => hpar 11 i k
  | 8 => hpar 2 i k
  | 9 => hpar 11 i k
  | 3 => hmpar i k
  | 10 => (Nat.beq i 0 && (Nat.beq k 1 || Nat.beq k 2)) || (Nat.beq i 367 && Nat.beq k 2)
  | _ => hmpar i k && !Nat.beq k 2
def hpara (T i : Nat) : Bool := Nat.beq i 22 || (Nat.beq i 24 || (Nat.ble (T + 1) i && (Nat.ble i (T + 8) && !Nat.beq i (T + 4))))
noncomputable def hr_a (Q i : Nat) : Bool := match Q with
  | 0 => hr_a0 i
  | 1 => hpara 2 i
  | 2 => hpara 11 i
  | 6 => hpara 2 i
  | 7 => hpara 11 i
  | 8 => hpara 2 i
  | 9 => hpara 11 i
  | 10 => Nat.beq i 1 || Nat.beq i 368
  | 3 => (Nat.ble 369 i && Nat.ble i 372) || ((Nat.ble 376 i && Nat.ble i 382) || Nat.beq i 392)
  | _ => (Nat.ble 369 i && Nat.ble i 372) || (Nat.ble 376 i && Nat.ble i 392)
/-- refs that may be written -/
def hd_r (Q i k : Nat) : Bool := match Q with
  | 0 => Nat.beq i 323 && Nat.beq k 5
  | 1 => Nat.beq i 20 && Nat.beq k 2
  | 2 => Nat.beq i 20 && Nat.beq k 2
  | 6 => Nat.beq i 20 && Nat.beq k 2
  | 7 => Nat.beq i 20 && Nat.beq k 2
  | 8 => Nat.beq i 20 && Nat.beq k 2
  | 9 => Nat.beq i 20 && Nat.beq k 2
  | _ => false
/-- cells whose elements are free, but for their bounds -/
def hq0 (i : Nat) : Bool := !(Nat.beq i 395 || (Nat.beq i 396 || (Nat.beq i 399 || Nat.beq i 409)))
def hq (Q i : Nat) : Bool := match Q with
  | 0 => hq0 i
  | 1 => hq0 i && (!Nat.beq i 5 && !Nat.beq i 7)
  | 2 => hq0 i && (!Nat.beq i 14 && !Nat.beq i 16)
  | 3 => hq0 i
  | 6 => hq0 i && (!Nat.beq i 5 && !Nat.beq i 7)
  | 7 => hq0 i && (!Nat.beq i 14 && !Nat.beq i 16)
  | 8 => hq0 i && !Nat.beq i 7
  | 9 => hq0 i && !Nat.beq i 16
  | 10 => hq0 i
  | _ => hq0 i && !(Nat.ble 383 i && Nat.ble i 391)
/-- fields that are free, but for their bounds -/
def hg (Q i k : Nat) : Bool := match Q with
  | 1 => !(Nat.beq i 20 && Nat.beq k 7)
  | 2 => !(Nat.beq i 20 && Nat.beq k 7)
  | _ => true
def hb_ok (b : Option (Int × Int)) (x : Int32) : Prop := match b with
  | none => True
  | some q => q.1 ≤ x.toInt ∧ x.toInt ≤ q.2
theorem hbok {b : Option (Int × Int)} {x : Int32} {lo hi ex : Int} (hb : b = some (lo, hi)) (hx : x.toInt = ex) (h1 : lo ≤ ex) (h2 : ex ≤ hi) : hb_ok b x := by
  subst hb
  subst hx
  exact ⟨h1, h2⟩
theorem hbokN {b : Option (Int × Int)} {x : Int32} (hb : b = none) : hb_ok b x := by
  subst hb
  exact True.intro
theorem hbok.get {b : Option (Int × Int)} {x : Int32} {lo hi : Int} (h : hb_ok b x) (hb : b = some (lo, hi)) : lo ≤ x.toInt ∧ x.toInt ≤ hi := by
  subst hb
  exact h
def hB (A : hs_A) : Prop := (∀ i k, hb_ok (hb_f i k) (A.1 i k)) ∧ (∀ i j, hb_ok (hb_a i) (A.2.1 i j)) ∧ (A.2.2.2 323 5 = 7 ∨ A.2.2.2 323 5 = 16)
def hH (Bn Br : Int) (A : hs_A) : Prop := (0 ≤ (A.2.1 396 70).toInt ∧ (A.2.1 396 70).toInt ≤ Br) ∧ (0 ≤ (A.2.1 395 70).toInt ∧ (A.2.1 395 70).toInt ≤ Bn) ∧ (∀ u : Nat, u < 40 → 0 ≤ (A.2.1 399 (73 * u + 70)).toInt ∧ (A.2.1 399 (73 * u + 70)).toInt ≤ Bn) ∧ (∀ u : Nat, u < 3 → 0 ≤ (A.2.1 409 (73 * u + 70)).toInt ∧ (A.2.1 409 (73 * u + 70)).toInt ≤ Bn)
def hRT (Q : Nat) (A0 A : hs_A) : Prop := (∀ i k, hr_f Q i k = false → A.1 i k = A0.1 i k) ∧ (∀ i, hr_a Q i = false → ∀ j, A.2.1 i j = A0.2.1 i j) ∧ (Q = 0 → A.2.2.1 = A0.2.2.1) ∧ (∀ i k, hd_r Q i k = false → A.2.2.2 i k = A0.2.2.2 i k)
/-- a code that a pile bears: n steps from c on, the pile of height h ahead of them -/
def hW (K I : Nat → Int32) : Nat → Nat → Nat → Prop
  | 0, _, _ => True
  | n + 1, c, h => ((K c).toInt = 0 ∧ hW K I n (c + 1) (h + 1)) ∨ ((K c).toInt = 1 ∧ (0 ≤ (I c).toInt ∧ (I c).toInt ≤ 8) ∧ hW K I n (c + 1) (h + 1)) ∨ ((2 ≤ (K c).toInt ∧ (K c).toInt ≤ 5) ∧ 2 ≤ h ∧ hW K I n (c + 1) (h - 1))
def hWt (s : Int) (A : hs_A) (x y : Int32) : Prop := 420 * s ≤ x.toInt ∧ y.toInt ≤ 420 * s + 420 ∧ y.toInt - x.toInt ≤ 400 ∧ hW (A.2.1 390) (A.2.1 391) (y.toInt - x.toInt).toNat x.toInt.toNat 0
def hVb (s : Int) (A : hs_A) (b : Nat) : Prop := (¬ (A.2.1 385 b).toInt = 0 → hWt s A (A.2.1 386 b) (A.2.1 387 b) ∧ hWt s A (A.2.1 387 b) (A.2.1 388 b)) ∧ hWt s A (A.2.1 388 b) (A.2.1 389 b)
def hVl (s : Int) (A : hs_A) : Prop := ∀ a : Nat, 4 * s ≤ a → (a : Int) < 4 * s + 4 → (A.2.1 383 a).toInt = (A.2.1 384 a).toInt ∨ (130 * s ≤ (A.2.1 383 a).toInt ∧ (A.2.1 384 a).toInt ≤ 130 * s + 130 ∧ ∀ b : Nat, (A.2.1 383 a).toInt ≤ b → (b : Int) < (A.2.1 384 a).toInt → hVb s A b)
def hVs (x : Int32) : Prop := x &&& 7 = 1 → 0 ≤ x.toInt
/-- which terrace is which -/
def hTT (T : Nat) : Prop := T = 2 ∨ T = 11
def hPg (A : hs_A) (i : Nat) : Prop := ∀ j, j < 24 → 0 ≤ (A.2.1 i j).toInt ∧ (A.2.1 i j).toInt ≤ 255
def hZ (A : hs_A) : Prop := (A.2.2.2 0 3 = 3 ∧ A.2.2.2 0 4 = 12 ∨ A.2.2.2 0 3 = 12 ∧ A.2.2.2 0 4 = 3) ∧ hPg A (A.2.2.2 0 3 + 2) ∧ (∀ T, hTT T → ∀ j, hVs (A.2.1 (T + 5) j)) ∧ hVl (A.1 367 18).toInt A ∧ (0 ≤ (A.1 367 18).toInt ∧ (A.1 367 18).toInt ≤ 1)
def hEc (T : Nat) (A : hs_A) : Prop := A.2.2.2 20 2 = T + 1 ∧ (∀ j, hVs (A.2.1 (T + 5) j)) ∧ (¬ (A.1 20 7).toInt = 0 ∨ hPg A (T + 3))
def hEs (T : Nat) (A : hs_A) : Prop := A.2.2.2 20 2 = T + 1 ∧ (∀ j, hVs (A.2.1 (T + 5) j))
def hEd (T : Nat) (A : hs_A) : Prop := hEs T A ∧ hPg A (T + 3)
/-- where the side that is live lies -/
def hlr (s : Int) (c : Nat) (j : Nat) : Prop := ((c = 383 ∨ c = 384) ∧ 4 * s ≤ j ∧ (j : Int) < 4 * s + 4) ∨ ((385 ≤ c ∧ c ≤ 389) ∧ 130 * s ≤ j ∧ (j : Int) < 130 * s + 130) ∨ ((c = 390 ∨ c = 391) ∧ 420 * s ≤ j ∧ (j : Int) < 420 * s + 420)
def hEm (A0 A : hs_A) : Prop := ∀ c j, hlr (A0.1 367 18).toInt c j → A.2.1 c j = A0.2.1 c j
def hE (Q : Nat) (A0 A : hs_A) : Prop := match Q with
  | 0 => True
  | 1 => hEc 2 A
  | 2 => hEc 11 A
  | 3 => True
  | 6 => hEd 2 A
  | 7 => hEd 11 A
  | 8 => hEs 2 A
  | 9 => hEs 11 A
  | 10 => True
  | _ => hEm A0 A
def hJ (Q : Nat) (Bn Br : Int) (A0 A : hs_A) : Prop := hB A ∧ hH Bn Br A ∧ hRT Q A0 A ∧ hZ A0 ∧ hE Q A0 A
theorem hup1 {f : Nat → Nat → Int32} {i k : Nat} {x : Int32} : hs_up f i k x i k = x := by simp [hs_up]
theorem hup2 {f : Nat → Nat → Int32} {i k a b : Nat} {x : Int32} (h : ¬ (a = i ∧ b = k)) : hs_up f i k x a b = f a b := by
  unfold hs_up
  by_cases ha : a = i
  · rw [if_pos ha]
    by_cases hb : b = k
    · exact absurd ⟨ha, hb⟩ h
    · rw [if_neg hb]
  · rw [if_neg ha]
theorem hup3 {f : Nat → Nat → Int32} {i k : Nat} {x : Int32} (Q : Nat → Nat → Int32 → Prop) (h : ∀ a b, Q a b (f a b)) (hx : Q i k x) : ∀ a b, Q a b (hs_up f i k x a b) := by
  intro a b
  by_cases e : a = i ∧ b = k
  · obtain ⟨rfl, rfl⟩ := e
    rw [hup1]
    exact hx
  · rw [hup2 e]
    exact h a b
section HJ
variable {Q : Nat} {Bn Br : Int} {A0 A : hs_A} {i k j : Nat} {x : Int32} {lo hi : Int}
theorem hE.put (h : hE Q A0 A) (hg' : hg Q i k = true) : hE Q A0 (hs_up A.1 i k x, A.2) := by
  have key : ∀ T, hEc T A → ¬ (i = 20 ∧ k = 7) → hEc T (hs_up A.1 i k x, A.2) := by
    intro T hT hne
    refine ⟨hT.1, hT.2.1, ?_⟩
    show ¬ (hs_up A.1 i k x 20 7).toInt = 0 ∨ _
    rw [hup2 (fun e => hne ⟨e.1.symm, e.2.symm⟩)]
    exact hT.2.2
  have n1 : hg 1 20 7 = false := by decide
  have n2 : hg 2 20 7 = false := by decide
  match Q, h, hg' with
  | 0, _, _ => exact True.intro
  | 1, h, hg' => exact key 2 h (fun e => by rw [e.1, e.2, n1] at hg'; exact Bool.noConfusion hg')
  | 2, h, hg' => exact key 11 h (fun e => by rw [e.1, e.2, n2] at hg'; exact Bool.noConfusion hg')
  | 3, _, _ => exact True.intro
  | 6, h, _ => exact ⟨⟨h.1.1, h.1.2⟩, fun j hj => h.2 j hj⟩
  | 7, h, _ => exact ⟨⟨h.1.1, h.1.2⟩, fun j hj => h.2 j hj⟩
  | 8, h, _ => exact ⟨h.1, h.2⟩
  | 9, h, _ => exact ⟨h.1, h.2⟩
  | 4, h, _ => exact (fun c j hl => h c j hl)
  | 5, h, _ => exact (fun c j hl => h c j hl)
  | 10, _, _ => exact True.intro
  | _ + 11, h, _ => exact (fun c j hl => h c j hl)
theorem hq_q0 (h : hq Q i = true) : hq0 i = true := by
  match Q, h with
  | 0, h => exact h
  | 1, h => exact (Bool.and_eq_true_iff.mp h).1
  | 2, h => exact (Bool.and_eq_true_iff.mp h).1
  | 3, h => exact h
  | 4, h => exact (Bool.and_eq_true_iff.mp h).1
  | 5, h => exact (Bool.and_eq_true_iff.mp h).1
  | 6, h => exact (Bool.and_eq_true_iff.mp h).1
  | 7, h => exact (Bool.and_eq_true_iff.mp h).1
  | 8, h => exact (Bool.and_eq_true_iff.mp h).1
  | 9, h => exact (Bool.and_eq_true_iff.mp h).1
  | 10, h => exact h
  | _ + 11, h => exact (Bool.and_eq_true_iff.mp h).1
theorem hE.set {f : Nat → Nat → Int32} (h : hE Q A0 A) (hn : hq Q i = true) (hf : ∀ a, ¬ a = i → ∀ b, f a b = A.2.1 a b) : hE Q A0 (A.1, f, A.2.2) := by
  have key : ∀ T, hEc T A → ¬ i = T + 3 → ¬ i = T + 5 → hEc T (A.1, f, A.2.2) := by
    intro T hT h3 h5
    refine ⟨hT.1, fun j => ?_, ?_⟩
    · show hVs (f (T + 5) j)
      rw [hf _ (fun e => h5 e.symm)]
      exact hT.2.1 j
    · refine hT.2.2.imp id (fun w j hj => ?_)
      show 0 ≤ (f (T + 3) j).toInt ∧ (f (T + 3) j).toInt ≤ 255
      rw [hf _ (fun e => h3 e.symm)]
      exact w j hj
  have keys : ∀ T, hEs T A → ¬ i = T + 5 → hEs T (A.1, f, A.2.2) := by
    intro T hT h5
    refine ⟨hT.1, fun j => ?_⟩
    show hVs (f (T + 5) j)
    rw [hf _ (fun e => h5 e.symm)]
    exact hT.2 j
  have keyd : ∀ T, hEd T A → ¬ i = T + 3 → ¬ i = T + 5 → hEd T (A.1, f, A.2.2) := by
    intro T hT h3 h5
    refine ⟨keys T hT.1 h5, fun j hj => ?_⟩
    show 0 ≤ (f (T + 3) j).toInt ∧ (f (T + 3) j).toInt ≤ 255
    rw [hf _ (fun e => h3 e.symm)]
    exact hT.2 j hj
  have keym : (hq0 i && !(Nat.ble 383 i && Nat.ble i 391)) = true → hEm A0 A → hEm A0 (A.1, f, A.2.2) := by
    intro hn h
    have hne : ¬ (383 ≤ i ∧ i ≤ 391) := by
      intro e
      have e1 : Nat.ble 383 i = true := Nat.ble_eq.mpr e.1
      have e2 : Nat.ble i 391 = true := Nat.ble_eq.mpr e.2
      have := (Bool.and_eq_true_iff.mp hn).2
      rw [e1, e2] at this
      cases this
    exact fun c j hl => (hf c (fun e => by subst e; unfold hlr at hl; omega) j).trans (h c j hl)
  match Q, h, hn with
  | 0, _, _ => exact True.intro
  | 1, h, hn => exact key 2 h (fun e => by subst e; cases hn) (fun e => by subst e; cases hn)
  | 2, h, hn => exact key 11 h (fun e => by subst e; cases hn) (fun e => by subst e; cases hn)
  | 3, _, _ => exact True.intro
  | 6, h, hn => exact keyd 2 h (fun e => by subst e; cases hn) (fun e => by subst e; cases hn)
  | 7, h, hn => exact keyd 11 h (fun e => by subst e; cases hn) (fun e => by subst e; cases hn)
  | 8, h, hn => exact keys 2 h (fun e => by subst e; cases hn)
  | 9, h, hn => exact keys 11 h (fun e => by subst e; cases hn)
  | 4, h, hn => exact keym hn h
  | 5, h, hn => exact keym hn h
  | 10, _, _ => exact True.intro
  | _ + 11, h, hn => exact keym hn h
theorem hJ.f (h : hJ Q Bn Br A0 A) (hb : hb_f i k = some (lo, hi)) : lo ≤ (A.1 i k).toInt ∧ (A.1 i k).toInt ≤ hi := hbok.get (h.1.1 i k) hb
theorem hJ.a (h : hJ Q Bn Br A0 A) (hb : hb_a i = some (lo, hi)) (j : Nat) : lo ≤ (A.2.1 i j).toInt ∧ (A.2.1 i j).toInt ≤ hi := hbok.get (h.1.2.1 i j) hb
theorem hJ.putI (h : hJ Q Bn Br A0 A) (hx : hb_ok (hb_f i k) x) (hr : hr_f Q i k = true) (hg' : hg Q i k = true) : hJ Q Bn Br A0 (hs_up A.1 i k x, A.2) := by
  refine ⟨⟨hup3 (fun a b z => hb_ok (hb_f a b) z) h.1.1 hx, h.1.2⟩, h.2.1, ⟨fun a b q => ?_, h.2.2.1.2⟩, h.2.2.2.1, hE.put h.2.2.2.2 hg'⟩
  show hs_up A.1 i k x a b = _
  rw [hup2 (fun e => by obtain ⟨rfl, rfl⟩ := e; rw [q] at hr; cases hr)]
  exact h.2.2.1.1 a b q
theorem hq_ne (h : hq Q i = true) : ¬ (i = 395 ∨ i = 396 ∨ i = 399 ∨ i = 409) := by
  intro e
  have h' := hq_q0 h
  rcases e with rfl | rfl | rfl | rfl <;> cases h'
theorem hH.set {f : Nat → Nat → Int32} {B : (Nat → Nat → Int64) × (Nat → Nat → Nat)} {C : Nat → Nat → Int32} (h : hH Bn Br A) (hf : ∀ a, a = 395 ∨ a = 396 ∨ a = 399 ∨ a = 409 → ∀ b, f a b = A.2.1 a b) : hH Bn Br (C, f, B) := by
  unfold hH
  dsimp only
  rw [hf 396 (by omega), hf 395 (by omega)]
  refine ⟨h.1, h.2.1, fun u hu => ?_, fun u hu => ?_⟩
  · rw [hf 399 (by omega)]
    exact h.2.2.1 u hu
  · rw [hf 409 (by omega)]
    exact h.2.2.2 u hu
theorem hJ.setI (h : hJ Q Bn Br A0 A) (hx : hb_ok (hb_a i) x) (hr : hr_a Q i = true) (hn : hq Q i = true) : hJ Q Bn Br A0 (A.1, hs_up A.2.1 i j x, A.2.2) := by
  refine ⟨⟨h.1.1, hup3 (fun a _ z => hb_ok (hb_a a) z) h.1.2.1 hx, h.1.2.2⟩, h.2.1.set (fun a ha b => ?_), ⟨h.2.2.1.1, fun a q b => ?_, h.2.2.1.2.2⟩, h.2.2.2.1, h.2.2.2.2.set hn (fun a ha b => hup2 (fun e => ha e.1))⟩
  · exact hup2 (fun e => hq_ne hn (e.1 ▸ ha))
  · show hs_up A.2.1 i j x a b = _
    rw [hup2 (fun e => by obtain ⟨rfl, rfl⟩ := e; rw [q] at hr; cases hr)]
    exact h.2.2.1.2.1 a q b
theorem hJ.cpy {i0 : Nat} (h : hJ Q Bn Br A0 A) (hx : ∀ z, hb_ok (hb_a i0) z → hb_ok (hb_a i) z) (hr : hr_a Q i = true) (hn : hq Q i = true) : hJ Q Bn Br A0 (A.1, hs_cpy A.2.1 i0 i, A.2.2) := by
  have hne : ∀ a b, ¬ a = i → hs_cpy A.2.1 i0 i a b = A.2.1 a b := fun a b e => by
    unfold hs_cpy
    rw [if_neg e]
  refine ⟨⟨h.1.1, fun a b => ?_, h.1.2.2⟩, h.2.1.set (fun a ha b => hne a b (fun e => hq_ne hn (e ▸ ha))), ⟨h.2.2.1.1, fun a q b => ?_, h.2.2.1.2.2⟩, h.2.2.2.1, h.2.2.2.2.set hn (fun a ha b => hne a b ha)⟩
  · show hb_ok (hb_a a) (hs_cpy A.2.1 i0 i a b)
    by_cases e : a = i
    · subst e
      unfold hs_cpy
      rw [if_pos rfl]
      exact hx _ (h.1.2.1 i0 b)
    · rw [hne a b e]
      exact h.1.2.1 a b
  · show hs_cpy A.2.1 i0 i a b = _
    rw [hne a b (fun e => by subst e; rw [q] at hr; cases hr)]
    exact h.2.2.1.2.1 a q b
theorem hJ.laws {T : Nat} (h : hJ 0 Bn Br A0 A) (hT : hTT T) : hJ 0 Bn Br A0 (A.1, A.2.1, A.2.2.1, hs_upN A.2.2.2 323 5 (T + 5)) := by
  have hne : ∀ a b, ¬ (a = 323 ∧ b = 5) → hs_upN A.2.2.2 323 5 (T + 5) a b = A.2.2.2 a b := fun a b e => by
    unfold hs_upN
    by_cases ha : a = 323
    · rw [if_pos ha, if_neg (fun hb => e ⟨ha, hb⟩)]
    · rw [if_neg ha]
  refine ⟨⟨h.1.1, h.1.2.1, ?_⟩, h.2.1, ⟨h.2.2.1.1, h.2.2.1.2.1, h.2.2.1.2.2.1, fun a b e => ?_⟩, h.2.2.2⟩
  · show hs_upN A.2.2.2 323 5 (T + 5) 323 5 = 7 ∨ hs_upN A.2.2.2 323 5 (T + 5) 323 5 = 16
    have : hs_upN A.2.2.2 323 5 (T + 5) 323 5 = T + 5 := by simp [hs_upN]
    rw [this]
    rcases hT with rfl | rfl
    · exact Or.inl rfl
    · exact Or.inr rfl
  · exact (hne a b (fun q => by obtain ⟨rfl, rfl⟩ := q; cases e)).trans (h.2.2.1.2.2.2 a b e)
theorem hJ.mono {Bn' Br' : Int} (h : hJ Q Bn Br A0 A) (h1 : Bn ≤ Bn') (h2 : Br ≤ Br') : hJ Q Bn' Br' A0 A := by
  obtain ⟨q1, ⟨a, b, c, e⟩, q3⟩ := h
  exact ⟨q1, ⟨⟨a.1, by omega⟩, ⟨b.1, by omega⟩, fun u hu => ⟨(c u hu).1, by have := (c u hu).2; omega⟩, fun u hu => ⟨(e u hu).1, by have := (e u hu).2; omega⟩⟩, q3⟩
/-- the bound of an element of the cells with hours -/
def hhb (Bn Br : Int) (i : Nat) (j : Nat) (x : Int) : Prop := ¬ (if i = 395 ∨ i = 396 then (j : Int) = 70 else (j : Int) % 73 = 70) ∨ (0 ≤ x ∧ x ≤ if i = 396 then Br else Bn)
theorem hJ.setH {x : Int32} (h : hJ 0 Bn Br A0 A) (hi : i = 395 ∨ i = 396 ∨ i = 399 ∨ i = 409) (hx : ¬ (if i = 395 ∨ i = 396 then (j : Int) = 70 else (j : Int) % 73 = 70) ∨ (0 ≤ x.toInt ∧ x.toInt ≤ if i = 396 then Br else Bn)) : hJ 0 Bn Br A0 (A.1, hs_up A.2.1 i j x, A.2.2) := by
  have hbn : hb_a i = none := by rcases hi with rfl | rfl | rfl | rfl <;> rfl
  have hr : hr_a 0 i = true := by rcases hi with rfl | rfl | rfl | rfl <;> rfl
  refine ⟨⟨h.1.1, hup3 (fun a _ z => hb_ok (hb_a a) z) h.1.2.1 (hbokN hbn), h.1.2.2⟩, ?_, ⟨h.2.2.1.1, fun a q b => ?_, h.2.2.1.2.2⟩, h.2.2.2⟩
  · obtain ⟨q1, q2, q3, q4⟩ := h.2.1
    refine ⟨?_, ?_, fun u hu => ?_, fun u hu => ?_⟩
    · show 0 ≤ (hs_up A.2.1 i j x 396 70).toInt ∧ (hs_up A.2.1 i j x 396 70).toInt ≤ Br
      by_cases e : 396 = i ∧ 70 = j
      · obtain ⟨rfl, rfl⟩ := e
        rw [hup1]
        simpa using hx
      · rw [hup2 e]
        exact q1
    · show 0 ≤ (hs_up A.2.1 i j x 395 70).toInt ∧ (hs_up A.2.1 i j x 395 70).toInt ≤ Bn
      by_cases e : 395 = i ∧ 70 = j
      · obtain ⟨rfl, rfl⟩ := e
        rw [hup1]
        simpa using hx
      · rw [hup2 e]
        exact q2
    · show 0 ≤ (hs_up A.2.1 i j x 399 (73 * u + 70)).toInt ∧ (hs_up A.2.1 i j x 399 (73 * u + 70)).toInt ≤ Bn
      by_cases e : 399 = i ∧ 73 * u + 70 = j
      · obtain ⟨rfl, rfl⟩ := e
        rw [hup1]
        rw [if_neg (by omega), if_neg (by omega)] at hx
        omega
      · rw [hup2 e]
        exact q3 u hu
    · show 0 ≤ (hs_up A.2.1 i j x 409 (73 * u + 70)).toInt ∧ (hs_up A.2.1 i j x 409 (73 * u + 70)).toInt ≤ Bn
      by_cases e : 409 = i ∧ 73 * u + 70 = j
      · obtain ⟨rfl, rfl⟩ := e
        rw [hup1]
        rw [if_neg (by omega), if_neg (by omega)] at hx
        omega
      · rw [hup2 e]
        exact q4 u hu
  · show hs_up A.2.1 i j x a b = _
    rw [hup2 (fun e => by obtain ⟨rfl, rfl⟩ := e; rw [q] at hr; cases hr)]
    exact h.2.2.1.2.1 a q b
theorem hd_r03 : hd_r Q 0 3 = false := by
  match Q with
  | 0 => rfl
  | 1 => rfl
  | 2 => rfl
  | 3 => rfl
  | 4 => rfl
  | 5 => rfl
  | 6 => rfl
  | 7 => rfl
  | 8 => rfl
  | 9 => rfl
  | 10 => rfl
  | _ + 11 => rfl
/-- the terrace that is live -/
theorem hJ.T (h : hJ Q Bn Br A0 A) : ∃ T, hTT T ∧ A.2.2.2 0 3 = T + 1 ∧ A0.2.2.2 0 3 = T + 1 := by
  have e := h.2.2.1.2.2.2 0 3 hd_r03
  rw [e]
  rcases h.2.2.2.1.1 with ⟨q, -⟩ | ⟨q, -⟩
  · exact ⟨2, Or.inl rfl, q, q⟩
  · exact ⟨11, Or.inr rfl, q, q⟩
theorem hJ.Tw {T : Nat} (h : hJ Q Bn Br A0 A) (e : A0.2.2.2 0 3 = T + 1) : A.2.2.2 0 3 = T + 1 := (h.2.2.1.2.2.2 0 3 hd_r03).trans e
theorem hJ.lawsT (h : hJ Q Bn Br A0 A) : ∃ T, hTT T ∧ A.2.2.2 323 5 = T + 5 := by
  rcases h.1.2.2 with q | q
  · exact ⟨2, Or.inl rfl, q⟩
  · exact ⟨11, Or.inr rfl, q⟩
/-- what is sent at an hour by the terrace that is live -/
theorem hJ.prog {T : Nat} (h : hJ 0 Bn Br A0 A) (hT : hTT T) (e : A0.2.2.2 0 3 = T + 1) (j : Nat) (hj : j < 24) : 0 ≤ (A.2.1 (T + 3) j).toInt ∧ (A.2.1 (T + 3) j).toInt ≤ 255 := by
  have q := h.2.2.2.1.2.1 j hj
  rw [e] at q
  have : A.2.1 (T + 3) j = A0.2.1 (T + 3) j := h.2.2.1.2.1 _ (by rcases hT with rfl | rfl <;> rfl) j
  rw [this]
  exact q
theorem hJ.steps {T : Nat} (h : hJ 0 Bn Br A0 A) (hT : hTT T) (j : Nat) : hVs (A.2.1 (T + 5) j) := by
  have : A.2.1 (T + 5) j = A0.2.1 (T + 5) j := h.2.2.1.2.1 _ (by rcases hT with rfl | rfl <;> rfl) j
  rw [this]
  exact h.2.2.2.1.2.2.1 T hT j
end HJ
theorem hn_nz {y : Int32} (h : ¬ y.toInt = 0) : ¬ y = 0 := fun e => h (by rw [e]; decide)
theorem hn_bv {x : Int32} (h : 0 ≤ x.toInt) : x.toInt = (x.toBitVec.toNat : Int) := by
  have : x.toInt = x.toBitVec.toInt := rfl
  rw [this] at h ⊢
  rw [BitVec.toInt_eq_toNat_cond] at h ⊢
  split <;> rename_i q
  · rfl
  · rw [if_neg q] at h
    have := x.toBitVec.isLt
    omega
theorem hn_bv2 {x : Int32} (h : x.toBitVec.toNat < 2147483648) : x.toInt = (x.toBitVec.toNat : Int) := by
  have : x.toInt = x.toBitVec.toInt := rfl
  rw [this, BitVec.toInt_eq_toNat_cond, if_pos (by omega)]
theorem hn_andN (x y : Int32) : (x &&& y).toBitVec.toNat = x.toBitVec.toNat &&& y.toBitVec.toNat := by
  rw [Int32.toBitVec_and, BitVec.toNat_and]
theorem hn_orN (x y : Int32) : (x ||| y).toBitVec.toNat = x.toBitVec.toNat ||| y.toBitVec.toNat := by
  rw [Int32.toBitVec_or, BitVec.toNat_or]
theorem hn_and {x y : Int32} (h : 0 ≤ y.toInt) : 0 ≤ (x &&& y).toInt ∧ (x &&& y).toInt ≤ y.toInt := by
  have hy := hn_bv h
  have h2 : y.toBitVec.toNat < 2147483648 := by have := (hn_rng y).2; omega
  have h3 : x.toBitVec.toNat &&& y.toBitVec.toNat ≤ y.toBitVec.toNat := Nat.and_le_right
  have h4 := hn_bv2 (x := x &&& y) (by rw [hn_andN]; omega)
  rw [hn_andN] at h4
  omega
theorem hn_and0 {x y : Int32} (h : 0 ≤ y.toInt) : 0 ≤ (x &&& y).toInt := (hn_and h).1
theorem hn_and1 {x y : Int32} (h : 0 ≤ y.toInt) : (x &&& y).toInt ≤ y.toInt := (hn_and h).2
theorem hn_or {x y : Int32} (h0 : 0 ≤ x.toInt) (h1 : x.toInt ≤ 255) (h2 : 0 ≤ y.toInt) (h3 : y.toInt ≤ 255) : 0 ≤ (x ||| y).toInt ∧ (x ||| y).toInt ≤ 255 := by
  have hx := hn_bv h0
  have hy := hn_bv h2
  have h5 : x.toBitVec.toNat ||| y.toBitVec.toNat < 2 ^ 8 := Nat.or_lt_two_pow (by omega) (by omega)
  have h4 := hn_bv2 (x := x ||| y) (by rw [hn_orN]; omega)
  rw [hn_orN] at h4
  omega
theorem hn_or0 {x y : Int32} (h0 : 0 ≤ x.toInt) (h1 : x.toInt ≤ 255) (h2 : 0 ≤ y.toInt) (h3 : y.toInt ≤ 255) : 0 ≤ (x ||| y).toInt := (hn_or h0 h1 h2 h3).1
theorem hn_or1 {x y : Int32} (h0 : 0 ≤ x.toInt) (h1 : x.toInt ≤ 255) (h2 : 0 ≤ y.toInt) (h3 : y.toInt ≤ 255) : (x ||| y).toInt ≤ 255 := (hn_or h0 h1 h2 h3).2
theorem hn_of (y : Int32) : y = Int32.ofInt y.toInt := (Int32.ofInt_toInt y).symm
theorem hn_shl1 {y : Int32} (h0 : 0 ≤ y.toInt) (h1 : y.toInt ≤ 7) : 1 ≤ (Int32.ofNat 1 <<< (y &&& 31)).toInt ∧ (Int32.ofNat 1 <<< (y &&& 31)).toInt ≤ 128 := by
  rw [hn_of y]
  generalize y.toInt = n at h0 h1
  have : n = 0 ∨ n = 1 ∨ n = 2 ∨ n = 3 ∨ n = 4 ∨ n = 5 ∨ n = 6 ∨ n = 7 := by omega
  rcases this with rfl | rfl | rfl | rfl | rfl | rfl | rfl | rfl <;> decide
theorem hn_div {x y : Int32} (h0 : 0 ≤ x.toInt) (h1 : 0 < y.toInt) : (x / y).toInt = x.toInt / y.toInt := by
  rw [Int32.toInt_div_of_ne_left _ _ (fun e => by rw [e] at h0; exact absurd h0 (by decide))]
  exact Int.tdiv_eq_ediv_of_nonneg h0
theorem hn_rem {x y : Int32} (h0 : 0 ≤ x.toInt) (h1 : 0 < y.toInt) : (x - x / y * y).toInt = x.toInt % y.toInt := by
  have hd := hn_div h0 h1
  have e1 := Int.mul_ediv_add_emod x.toInt y.toInt
  have e2 := Int.emod_nonneg x.toInt (show y.toInt ≠ 0 by omega)
  have e3 := Int.emod_lt_of_pos x.toInt h1
  have e4 : 0 ≤ y.toInt * (x.toInt / y.toInt) := Int.mul_nonneg (by omega) (Int.ediv_nonneg h0 (by omega))
  have rx := hn_rng x
  have hm : (x / y * y).toInt = (x / y).toInt * y.toInt := hn_mul rfl (by rw [hd, Int.mul_comm]; omega) (by rw [hd, Int.mul_comm]; omega)
  rw [hd, Int.mul_comm] at hm
  have := hn_sub (z := x - x / y * y) rfl (by rw [hm]; omega) (by rw [hm]; omega)
  rw [hm] at this
  omega
theorem hn_01 {x : Int32} (h0 : 0 ≤ x.toInt) (h1 : x.toInt ≤ 1) : x = 0 ∨ x = 1 := by
  rw [hn_of x]
  generalize x.toInt = n at h0 h1
  have : n = 0 ∨ n = 1 := by omega
  rcases this with rfl | rfl <;> decide
theorem hn_fitB {x : Int32} (h0 : 0 ≤ x.toInt) (h1 : x.toInt ≤ 1) : hc_rtv (some .boolean) (.int x) = true := by
  rcases hn_01 h0 h1 with rfl | rfl <;> rfl
theorem hkA {A A' : hs_A} {i k : Nat} {z : Int32} (e : A'.1 = A.1) (h : A.1 i k = z) : A'.1 i k = z := by rw [e]; exact h
theorem hkF {A A' : hs_A} {i k i0 k0 : Nat} {x z : Int32} (e : A'.1 = hs_up A.1 i0 k0 x) (hne : ¬ (i = i0 ∧ k = k0)) (h : A.1 i k = z) : A'.1 i k = z := by rw [e, hup2 hne]; exact h
theorem hkS {A A' : hs_A} {i k : Nat} {x : Int32} (e : A'.1 = hs_up A.1 i k x) : A'.1 i k = x := by rw [e, hup1]
/-! shapes by their owners -/
theorem hsT {T : Nat} (h : hTT T) : hc_get hs_sh T = some (3, 5, [T + 2, T + 3, T + 4, T + 5, 0, 0, 0, 0]) := by rcases h with rfl | rfl <;> rfl
theorem hsT1 {T : Nat} (h : hTT T) : hc_get hs_sh (T + 1) = some (0, 1, [10]) := by rcases h with rfl | rfl <;> rfl
theorem hsT2 {T : Nat} (h : hTT T) : hc_get hs_sh (T + 2) = some (0, 1, [10]) := by rcases h with rfl | rfl <;> rfl
theorem hsT3 {T : Nat} (h : hTT T) : hc_get hs_sh (T + 3) = some (0, 1, [24]) := by rcases h with rfl | rfl <;> rfl
theorem hsT4 {T : Nat} (h : hTT T) : hc_get hs_sh (T + 4) = some (3, 1, [T + 6, T + 7, T + 8, T + 9, 0, 0]) := by rcases h with rfl | rfl <;> rfl
theorem hsT5 {T : Nat} (h : hTT T) : hc_get hs_sh (T + 5) = some (0, 1, [408]) := by rcases h with rfl | rfl <;> rfl
theorem hsT6 {T : Nat} (h : hTT T) : hc_get hs_sh (T + 6) = some (0, 1, [4]) := by rcases h with rfl | rfl <;> rfl
theorem hsT7 {T : Nat} (h : hTT T) : hc_get hs_sh (T + 7) = some (0, 1, [4]) := by rcases h with rfl | rfl <;> rfl
theorem hsT8 {T : Nat} (h : hTT T) : hc_get hs_sh (T + 8) = some (0, 1, [16]) := by rcases h with rfl | rfl <;> rfl
theorem hbT_4 {T : Nat} (h : hTT T) : hb_f T 4 = some (0, 10) := by rcases h with rfl | rfl <;> rfl
theorem hbT4_4 {T : Nat} (h : hTT T) : hb_f (T + 4) 4 = some (0, 408) := by rcases h with rfl | rfl <;> rfl
theorem haT8 {T : Nat} (h : hTT T) : hb_a (T + 8) = none := by rcases h with rfl | rfl <;> rfl
theorem hrT8 {T : Nat} (h : hTT T) : hr_a 0 (T + 8) = true := by rcases h with rfl | rfl <;> rfl
theorem hqT8 {T : Nat} (h : hTT T) : hq 0 (T + 8) = true := by rcases h with rfl | rfl <;> rfl
def hLL (L : Nat) : Prop := L ∈ hl_L
theorem hlL_all {Q : Nat → Bool} (h : hl_L.all Q = true) {L : Nat} (hL : hLL L) : Q L = true := List.all_eq_true.mp h L hL
theorem hsL {L : Nat} (h : hLL L) : hc_get hs_sh L = some (3, 2, [L + 2, L + 3, L + 4, L + 5, L + 6, L + 7, 0, 0, 0, 0, 0]) := by
  have := hlL_all (Q := fun L => decide (hc_get hs_sh L = some (3, 2, [L + 2, L + 3, L + 4, L + 5, L + 6, L + 7, 0, 0, 0, 0, 0]))) (by decide +kernel) h
  exact of_decide_eq_true this
theorem hsLa {L j : Nat} (h : hLL L) (h1 : 1 ≤ j) (h2 : j ≤ 6) : hc_get hs_sh (L + j) = some (0, 1, [10]) := by
  have e : j = 1 ∨ j = 2 ∨ j = 3 ∨ j = 4 ∨ j = 5 ∨ j = 6 := by omega
  have := hlL_all (Q := fun L => decide (hc_get hs_sh (L + 1) = some (0, 1, [10]) ∧ hc_get hs_sh (L + 2) = some (0, 1, [10]) ∧ hc_get hs_sh (L + 3) = some (0, 1, [10]) ∧ hc_get hs_sh (L + 4) = some (0, 1, [10]) ∧ hc_get hs_sh (L + 5) = some (0, 1, [10]) ∧ hc_get hs_sh (L + 6) = some (0, 1, [10]))) (by decide +kernel) h
  have q := of_decide_eq_true this
  rcases e with rfl | rfl | rfl | rfl | rfl | rfl
  · exact q.1
  · exact q.2.1
  · exact q.2.2.1
  · exact q.2.2.2.1
  · exact q.2.2.2.2.1
  · exact q.2.2.2.2.2
theorem haL5 {L : Nat} (h : hLL L) : hb_a (L + 5) = some (0, 255) := of_decide_eq_true (hlL_all (Q := fun L => decide (hb_a (L + 5) = some (0, 255))) (by decide +kernel) h)
theorem haL {L : Nat} (h : hLL L) : hb_a (L + 1) = none ∧ hb_a (L + 2) = none ∧ hb_a (L + 3) = none ∧ hb_a (L + 4) = none ∧ hb_a (L + 6) = none := of_decide_eq_true (hlL_all (Q := fun L => decide (hb_a (L + 1) = none ∧ hb_a (L + 2) = none ∧ hb_a (L + 3) = none ∧ hb_a (L + 4) = none ∧ hb_a (L + 6) = none)) (by decide +kernel) h)
theorem haL1 {L : Nat} (h : hLL L) : hb_a (L + 1) = none := (haL h).1
theorem haL2 {L : Nat} (h : hLL L) : hb_a (L + 2) = none := (haL h).2.1
theorem haL3 {L : Nat} (h : hLL L) : hb_a (L + 3) = none := (haL h).2.2.1
theorem haL4 {L : Nat} (h : hLL L) : hb_a (L + 4) = none := (haL h).2.2.2.1
theorem haL6 {L : Nat} (h : hLL L) : hb_a (L + 6) = none := (haL h).2.2.2.2
theorem hrLa {L j : Nat} (h : hLL L) (h1 : 1 ≤ j) (h2 : j ≤ 6) : hr_a 0 (L + j) = true := by
  have e : j = 1 ∨ j = 2 ∨ j = 3 ∨ j = 4 ∨ j = 5 ∨ j = 6 := by omega
  have := hlL_all (Q := fun L => decide (hr_a 0 (L + 1) = true ∧ hr_a 0 (L + 2) = true ∧ hr_a 0 (L + 3) = true ∧ hr_a 0 (L + 4) = true ∧ hr_a 0 (L + 5) = true ∧ hr_a 0 (L + 6) = true)) (by decide +kernel) h
  have q := of_decide_eq_true this
  rcases e with rfl | rfl | rfl | rfl | rfl | rfl
  · exact q.1
  · exact q.2.1
  · exact q.2.2.1
  · exact q.2.2.2.1
  · exact q.2.2.2.2.1
  · exact q.2.2.2.2.2
theorem hqL {L j : Nat} (h : hLL L) (h2 : j ≤ 6) : hq 0 (L + j) = true := by
  have hle : L ≤ 360 := of_decide_eq_true (hlL_all (Q := fun L => decide (L ≤ 360)) (by decide +kernel) h)
  have e : ∀ n, Nat.beq (L + j) n = false ∨ L + j = n := fun n => by
    cases q : Nat.beq (L + j) n
    · exact Or.inl rfl
    · exact Or.inr (Nat.eq_of_beq_eq_true q)
  show hq0 (L + j) = true
  unfold hq0
  rcases e 395 with a | a
  · rcases e 396 with b | b
    · rcases e 399 with c | c
      · rcases e 409 with f | f
        · rw [a, b, c, f]
          rfl
        · omega
      · omega
    · omega
  · omega
theorem hbL {L : Nat} (h : hLL L) : hb_f L 6 = some (0, 10) ∧ hb_f L 7 = none ∧ hb_f L 8 = some (-1, 255) ∧ hb_f L 9 = none ∧ hb_f L 10 = none := of_decide_eq_true (hlL_all (Q := fun L => decide (hb_f L 6 = some (0, 10) ∧ hb_f L 7 = none ∧ hb_f L 8 = some (-1, 255) ∧ hb_f L 9 = none ∧ hb_f L 10 = none)) (by decide +kernel) h)
theorem hbL_6 {L : Nat} (h : hLL L) : hb_f L 6 = some (0, 10) := (hbL h).1
theorem hbL_7 {L : Nat} (h : hLL L) : hb_f L 7 = none := (hbL h).2.1
theorem hbL_8 {L : Nat} (h : hLL L) : hb_f L 8 = some (-1, 255) := (hbL h).2.2.1
theorem hbL_9 {L : Nat} (h : hLL L) : hb_f L 9 = none := (hbL h).2.2.2.1
theorem hbL_10 {L : Nat} (h : hLL L) : hb_f L 10 = none := (hbL h).2.2.2.2
theorem hrL {L : Nat} (h : hLL L) : hr_f 0 L 6 = true ∧ hr_f 0 L 7 = true ∧ hr_f 0 L 8 = true ∧ hr_f 0 L 9 = true ∧ hr_f 0 L 10 = true := of_decide_eq_true (hlL_all (Q := fun L => decide (hr_f 0 L 6 = true ∧ hr_f 0 L 7 = true ∧ hr_f 0 L 8 = true ∧ hr_f 0 L 9 = true ∧ hr_f 0 L 10 = true)) (by decide +kernel) h)
theorem hrL_6 {L : Nat} (h : hLL L) : hr_f 0 L 6 = true := (hrL h).1
theorem hrL_7 {L : Nat} (h : hLL L) : hr_f 0 L 7 = true := (hrL h).2.1
theorem hrL_8 {L : Nat} (h : hLL L) : hr_f 0 L 8 = true := (hrL h).2.2.1
theorem hrL_9 {L : Nat} (h : hLL L) : hr_f 0 L 9 = true := (hrL h).2.2.2.1
theorem hrL_10 {L : Nat} (h : hLL L) : hr_f 0 L 10 = true := (hrL h).2.2.2.2
def hRR (R : Nat) : Prop := 330 ≤ R ∧ R ≤ 339
theorem hRR.c {R : Nat} (h : hRR R) : R = 330 ∨ R = 331 ∨ R = 332 ∨ R = 333 ∨ R = 334 ∨ R = 335 ∨ R = 336 ∨ R = 337 ∨ R = 338 ∨ R = 339 := by
  unfold hRR at h
  omega
theorem hsR {R : Nat} (h : hRR R) : hc_get hs_sh R = some (0, 1, [256]) := by rcases h.c with rfl | rfl | rfl | rfl | rfl | rfl | rfl | rfl | rfl | rfl <;> rfl
theorem haR {R : Nat} (h : hRR R) : hb_a R = none := by rcases h.c with rfl | rfl | rfl | rfl | rfl | rfl | rfl | rfl | rfl | rfl <;> rfl
theorem hrR {R : Nat} (h : hRR R) : hr_a 0 R = true := by rcases h.c with rfl | rfl | rfl | rfl | rfl | rfl | rfl | rfl | rfl | rfl <;> rfl
theorem hqR {R : Nat} (h : hRR R) : hq 0 R = true := by rcases h.c with rfl | rfl | rfl | rfl | rfl | rfl | rfl | rfl | rfl | rfl <;> rfl

section HXJ
variable {d : Nat} {ret : Option FieldType} {tb : hc_K} {pc len r1 r2 : Nat} {l st : List Value} {A : hs_A} {P : Option Value → hs_A → Prop} {Q : Nat} {Bn Br : Int} {A0 : hs_A}
theorem hxj_iadd {x y : Int32} {ex ey : Int} (hI : hc_get tb pc = some (.iadd, len, r1, r2)) (hx : x.toInt = ex) (hy : y.toInt = ey) (h1 : -2147483648 ≤ ex + ey) (h2 : ex + ey ≤ 2147483647) (k : ∀ z : Int32, z.toInt = ex + ey → hxa d ret tb (pc + 1) l (.int z :: st) A P) : hxa d ret tb pc l (.int y :: .int x :: st) A P := by
  subst hx
  subst hy
  exact hxa_iadd hI (k _ (hn_add rfl h1 h2))
theorem hxj_isub {x y : Int32} {ex ey : Int} (hI : hc_get tb pc = some (.isub, len, r1, r2)) (hx : x.toInt = ex) (hy : y.toInt = ey) (h1 : -2147483648 ≤ ex - ey) (h2 : ex - ey ≤ 2147483647) (k : ∀ z : Int32, z.toInt = ex - ey → hxa d ret tb (pc + 1) l (.int z :: st) A P) : hxa d ret tb pc l (.int y :: .int x :: st) A P := by
  subst hx
  subst hy
  exact hxa_isub hI (k _ (hn_sub rfl h1 h2))
theorem hxj_imul {x y : Int32} {ex ey : Int} (hI : hc_get tb pc = some (.imul, len, r1, r2)) (hx : x.toInt = ex) (hy : y.toInt = ey) (h1 : -2147483648 ≤ ex * ey) (h2 : ex * ey ≤ 2147483647) (k : ∀ z : Int32, z.toInt = ex * ey → hxa d ret tb (pc + 1) l (.int z :: st) A P) : hxa d ret tb pc l (.int y :: .int x :: st) A P := by
  subst hx
  subst hy
  exact hxa_imul hI (k _ (hn_mul rfl h1 h2))
theorem hxj_iaddU {x y : Int32} (hI : hc_get tb pc = some (.iadd, len, r1, r2))  (k : ∀ z : Int32, hxa d ret tb (pc + 1) l (.int z :: st) A P) : hxa d ret tb pc l (.int y :: .int x :: st) A P := hxa_iadd hI (k _)
theorem hxj_isubU {x y : Int32} (hI : hc_get tb pc = some (.isub, len, r1, r2))  (k : ∀ z : Int32, hxa d ret tb (pc + 1) l (.int z :: st) A P) : hxa d ret tb pc l (.int y :: .int x :: st) A P := hxa_isub hI (k _)
theorem hxj_imulU {x y : Int32} (hI : hc_get tb pc = some (.imul, len, r1, r2))  (k : ∀ z : Int32, hxa d ret tb (pc + 1) l (.int z :: st) A P) : hxa d ret tb pc l (.int y :: .int x :: st) A P := hxa_imul hI (k _)
theorem hxj_iandU {x y : Int32} (hI : hc_get tb pc = some (.iand, len, r1, r2))  (k : ∀ z : Int32, hxa d ret tb (pc + 1) l (.int z :: st) A P) : hxa d ret tb pc l (.int y :: .int x :: st) A P := hxa_iand hI (k _)
theorem hxj_iorU {x y : Int32} (hI : hc_get tb pc = some (.ior, len, r1, r2))  (k : ∀ z : Int32, hxa d ret tb (pc + 1) l (.int z :: st) A P) : hxa d ret tb pc l (.int y :: .int x :: st) A P := hxa_ior hI (k _)
theorem hxj_ixorU {x y : Int32} (hI : hc_get tb pc = some (.ixor, len, r1, r2))  (k : ∀ z : Int32, hxa d ret tb (pc + 1) l (.int z :: st) A P) : hxa d ret tb pc l (.int y :: .int x :: st) A P := hxa_ixor hI (k _)
theorem hxj_ishlU {x y : Int32} (hI : hc_get tb pc = some (.ishl, len, r1, r2))  (k : ∀ z : Int32, hxa d ret tb (pc + 1) l (.int z :: st) A P) : hxa d ret tb pc l (.int y :: .int x :: st) A P := hxa_ishl hI (k _)
theorem hxj_ishrU {x y : Int32} (hI : hc_get tb pc = some (.ishr, len, r1, r2))  (k : ∀ z : Int32, hxa d ret tb (pc + 1) l (.int z :: st) A P) : hxa d ret tb pc l (.int y :: .int x :: st) A P := hxa_ishr hI (k _)
theorem hxj_iushrU {x y : Int32} (hI : hc_get tb pc = some (.iushr, len, r1, r2))  (k : ∀ z : Int32, hxa d ret tb (pc + 1) l (.int z :: st) A P) : hxa d ret tb pc l (.int y :: .int x :: st) A P := hxa_iushr hI (k _)
theorem hxj_iandR {x y : Int32} {ey : Int} (hI : hc_get tb pc = some (.iand, len, r1, r2)) (hy : y.toInt = ey) (h0 : 0 ≤ ey) (k : ∀ z : Int32, 0 ≤ z.toInt → z.toInt ≤ ey → hxa d ret tb (pc + 1) l (.int z :: st) A P) : hxa d ret tb pc l (.int y :: .int x :: st) A P := by
  subst hy
  exact hxa_iand hI (k _ (hn_and0 h0) (hn_and1 h0))
theorem hxj_iandL {x y : Int32} {ex : Int} (hI : hc_get tb pc = some (.iand, len, r1, r2)) (hx : x.toInt = ex) (h0 : 0 ≤ ex) (k : ∀ z : Int32, 0 ≤ z.toInt → z.toInt ≤ ex → hxa d ret tb (pc + 1) l (.int z :: st) A P) : hxa d ret tb pc l (.int y :: .int x :: st) A P := by
  subst hx
  refine hxa_iand hI (k _ ?_ ?_)
  · rw [Int32.and_comm]
    exact hn_and0 h0
  · rw [Int32.and_comm]
    exact hn_and1 h0
theorem hxj_ior255 {x y : Int32} {ex ey : Int} (hI : hc_get tb pc = some (.ior, len, r1, r2)) (hx : x.toInt = ex) (hy : y.toInt = ey) (h0 : 0 ≤ ex) (h1 : ex ≤ 255) (h2 : 0 ≤ ey) (h3 : ey ≤ 255) (k : ∀ z : Int32, 0 ≤ z.toInt → z.toInt ≤ 255 → hxa d ret tb (pc + 1) l (.int z :: st) A P) : hxa d ret tb pc l (.int y :: .int x :: st) A P := by
  subst hx
  subst hy
  exact hxa_ior hI (k _ (hn_or0 h0 h1 h2 h3) (hn_or1 h0 h1 h2 h3))
theorem hxj_ishl1 {x y : Int32} {ey : Int} (hI : hc_get tb pc = some (.ishl, len, r1, r2)) (hx : x = Int32.ofNat 1) (hy : y.toInt = ey) (h0 : 0 ≤ ey) (h1 : ey ≤ 7) (k : ∀ z : Int32, 1 ≤ z.toInt → z.toInt ≤ 128 → hxa d ret tb (pc + 1) l (.int z :: st) A P) : hxa d ret tb pc l (.int y :: .int x :: st) A P := by
  subst hx
  subst hy
  exact hxa_ishl hI (k _ (hn_shl1 h0 h1).1 (hn_shl1 h0 h1).2)
theorem hxj_idivP {x y : Int32} {ex ey : Int} (hI : hc_get tb pc = some (.idiv, len, r1, r2)) (hx : x.toInt = ex) (hy : y.toInt = ey) (h0 : 0 ≤ ex) (h1 : 0 < ey) (k : ∀ z : Int32, z.toInt = ex / ey → hxa d ret tb (pc + 1) l (.int z :: st) A P) : hxa d ret tb pc l (.int y :: .int x :: st) A P := by
  subst hx
  subst hy
  exact hxa_idiv hI (hn_nz (by omega)) (k _ (hn_div h0 h1))
theorem hxj_idivU {x y : Int32} {ey : Int} (hI : hc_get tb pc = some (.idiv, len, r1, r2)) (hy : y.toInt = ey) (h1 : ¬ ey = 0) (k : ∀ z : Int32, hxa d ret tb (pc + 1) l (.int z :: st) A P) : hxa d ret tb pc l (.int y :: .int x :: st) A P := by
  subst hy
  exact hxa_idiv hI (hn_nz h1) (k _)
theorem hxj_iremP {x y : Int32} {ex ey : Int} (hI : hc_get tb pc = some (.irem, len, r1, r2)) (hx : x.toInt = ex) (hy : y.toInt = ey) (h0 : 0 ≤ ex) (h1 : 0 < ey) (k : ∀ z : Int32, z.toInt = ex % ey → hxa d ret tb (pc + 1) l (.int z :: st) A P) : hxa d ret tb pc l (.int y :: .int x :: st) A P := by
  subst hx
  subst hy
  exact hxa_irem hI (hn_nz (by omega)) (k _ (hn_rem h0 h1))
theorem hxj_iremU {x y : Int32} {ey : Int} (hI : hc_get tb pc = some (.irem, len, r1, r2)) (hy : y.toInt = ey) (h1 : ¬ ey = 0) (k : ∀ z : Int32, hxa d ret tb (pc + 1) l (.int z :: st) A P) : hxa d ret tb pc l (.int y :: .int x :: st) A P := by
  subst hy
  exact hxa_irem hI (hn_nz h1) (k _)
theorem hxj_clt {off : Int} {x y : Int32} {ex ey : Int} (hI : hc_get tb pc = some (.if_icmp .lt off, len, r1, r2)) (hx : x.toInt = ex) (hy : y.toInt = ey) (kt : ex < ey → hxa d ret tb r1 l st A P) (kf : ey ≤ ex → hxa d ret tb (pc + 3) l st A P) : hxa d ret tb pc l (.int y :: .int x :: st) A P := by
  subst hx
  subst hy
  refine hxa_icmp hI (fun q => kt (hn_lt.mp q)) (fun q => kf ?_)
  have := hn_f hn_lt q
  omega
theorem hxj_zlt {off : Int} {x : Int32} {ex : Int} (hI : hc_get tb pc = some (.ifCond .lt off, len, r1, r2)) (hx : x.toInt = ex) (kt : ex < 0 → hxa d ret tb r1 l st A P) (kf : 0 ≤ ex → hxa d ret tb (pc + 3) l st A P) : hxa d ret tb pc l (.int x :: st) A P := by
  subst hx
  have h00 : (0 : Int32).toInt = 0 := by decide
  refine hxa_if hI (fun q => kt ?_) (fun q => kf ?_)
  · have := (hn_lt (x := x) (y := 0)).mp q
    rw [h00] at this
    exact this
  · have := hn_f (hn_lt (x := x) (y := 0)) q
    rw [h00] at this
    omega
theorem hxj_cge {off : Int} {x y : Int32} {ex ey : Int} (hI : hc_get tb pc = some (.if_icmp .ge off, len, r1, r2)) (hx : x.toInt = ex) (hy : y.toInt = ey) (kt : ey ≤ ex → hxa d ret tb r1 l st A P) (kf : ex < ey → hxa d ret tb (pc + 3) l st A P) : hxa d ret tb pc l (.int y :: .int x :: st) A P := by
  subst hx
  subst hy
  refine hxa_icmp hI (fun q => kt (hn_ge.mp q)) (fun q => kf ?_)
  have := hn_f hn_ge q
  omega
theorem hxj_zge {off : Int} {x : Int32} {ex : Int} (hI : hc_get tb pc = some (.ifCond .ge off, len, r1, r2)) (hx : x.toInt = ex) (kt : 0 ≤ ex → hxa d ret tb r1 l st A P) (kf : ex < 0 → hxa d ret tb (pc + 3) l st A P) : hxa d ret tb pc l (.int x :: st) A P := by
  subst hx
  have h00 : (0 : Int32).toInt = 0 := by decide
  refine hxa_if hI (fun q => kt ?_) (fun q => kf ?_)
  · have := (hn_ge (x := x) (y := 0)).mp q
    rw [h00] at this
    exact this
  · have := hn_f (hn_ge (x := x) (y := 0)) q
    rw [h00] at this
    omega
theorem hxj_cgt {off : Int} {x y : Int32} {ex ey : Int} (hI : hc_get tb pc = some (.if_icmp .gt off, len, r1, r2)) (hx : x.toInt = ex) (hy : y.toInt = ey) (kt : ey < ex → hxa d ret tb r1 l st A P) (kf : ex ≤ ey → hxa d ret tb (pc + 3) l st A P) : hxa d ret tb pc l (.int y :: .int x :: st) A P := by
  subst hx
  subst hy
  refine hxa_icmp hI (fun q => kt (hn_gt.mp q)) (fun q => kf ?_)
  have := hn_f hn_gt q
  omega
theorem hxj_zgt {off : Int} {x : Int32} {ex : Int} (hI : hc_get tb pc = some (.ifCond .gt off, len, r1, r2)) (hx : x.toInt = ex) (kt : 0 < ex → hxa d ret tb r1 l st A P) (kf : ex ≤ 0 → hxa d ret tb (pc + 3) l st A P) : hxa d ret tb pc l (.int x :: st) A P := by
  subst hx
  have h00 : (0 : Int32).toInt = 0 := by decide
  refine hxa_if hI (fun q => kt ?_) (fun q => kf ?_)
  · have := (hn_gt (x := x) (y := 0)).mp q
    rw [h00] at this
    exact this
  · have := hn_f (hn_gt (x := x) (y := 0)) q
    rw [h00] at this
    omega
theorem hxj_cle {off : Int} {x y : Int32} {ex ey : Int} (hI : hc_get tb pc = some (.if_icmp .le off, len, r1, r2)) (hx : x.toInt = ex) (hy : y.toInt = ey) (kt : ex ≤ ey → hxa d ret tb r1 l st A P) (kf : ey < ex → hxa d ret tb (pc + 3) l st A P) : hxa d ret tb pc l (.int y :: .int x :: st) A P := by
  subst hx
  subst hy
  refine hxa_icmp hI (fun q => kt (hn_le.mp q)) (fun q => kf ?_)
  have := hn_f hn_le q
  omega
theorem hxj_zle {off : Int} {x : Int32} {ex : Int} (hI : hc_get tb pc = some (.ifCond .le off, len, r1, r2)) (hx : x.toInt = ex) (kt : ex ≤ 0 → hxa d ret tb r1 l st A P) (kf : 0 < ex → hxa d ret tb (pc + 3) l st A P) : hxa d ret tb pc l (.int x :: st) A P := by
  subst hx
  have h00 : (0 : Int32).toInt = 0 := by decide
  refine hxa_if hI (fun q => kt ?_) (fun q => kf ?_)
  · have := (hn_le (x := x) (y := 0)).mp q
    rw [h00] at this
    exact this
  · have := hn_f (hn_le (x := x) (y := 0)) q
    rw [h00] at this
    omega
theorem hxj_ceq {off : Int} {x y : Int32} {ex ey : Int} (hI : hc_get tb pc = some (.if_icmp .eq off, len, r1, r2)) (hx : x.toInt = ex) (hy : y.toInt = ey) (kt : ex = ey → hxa d ret tb r1 l st A P) (kf : ¬ ex = ey → hxa d ret tb (pc + 3) l st A P) : hxa d ret tb pc l (.int y :: .int x :: st) A P := by
  subst hx
  subst hy
  refine hxa_icmp hI (fun q => kt (hn_eq.mp q)) (fun q => kf ?_)
  exact hn_f hn_eq q
theorem hxj_zeq {off : Int} {x : Int32} {ex : Int} (hI : hc_get tb pc = some (.ifCond .eq off, len, r1, r2)) (hx : x.toInt = ex) (kt : ex = 0 → hxa d ret tb r1 l st A P) (kf : ¬ ex = 0 → hxa d ret tb (pc + 3) l st A P) : hxa d ret tb pc l (.int x :: st) A P := by
  subst hx
  have h00 : (0 : Int32).toInt = 0 := by decide
  refine hxa_if hI (fun q => kt ?_) (fun q => kf ?_)
  · have := (hn_eq (x := x) (y := 0)).mp q
    rw [h00] at this
    exact this
  · have := hn_f (hn_eq (x := x) (y := 0)) q
    rw [h00] at this
    exact this
theorem hxj_cne {off : Int} {x y : Int32} {ex ey : Int} (hI : hc_get tb pc = some (.if_icmp .ne off, len, r1, r2)) (hx : x.toInt = ex) (hy : y.toInt = ey) (kt : ¬ ex = ey → hxa d ret tb r1 l st A P) (kf : ex = ey → hxa d ret tb (pc + 3) l st A P) : hxa d ret tb pc l (.int y :: .int x :: st) A P := by
  subst hx
  subst hy
  refine hxa_icmp hI (fun q => kt (hn_ne.mp q)) (fun q => kf ?_)
  exact Classical.not_not.mp (hn_f hn_ne q)
theorem hxj_zne {off : Int} {x : Int32} {ex : Int} (hI : hc_get tb pc = some (.ifCond .ne off, len, r1, r2)) (hx : x.toInt = ex) (kt : ¬ ex = 0 → hxa d ret tb r1 l st A P) (kf : ex = 0 → hxa d ret tb (pc + 3) l st A P) : hxa d ret tb pc l (.int x :: st) A P := by
  subst hx
  have h00 : (0 : Int32).toInt = 0 := by decide
  refine hxa_if hI (fun q => kt ?_) (fun q => kf ?_)
  · have := (hn_ne (x := x) (y := 0)).mp q
    rw [h00] at this
    exact this
  · have := hn_f (hn_ne (x := x) (y := 0)) q
    rw [h00] at this
    exact Classical.not_not.mp this
theorem hvr {i k c : Nat} (h : ¬ c = 0) (h2 : ¬ c = 100000) : hs_val A i k c = .ref c := by
  cases c with
  | zero => exact absurd rfl h
  | succ c =>
    unfold hs_val
    dsimp only
    rw [if_neg h2]
theorem hvT {i k c T : Nat} (h : hTT T) (h2 : c < 99) : hs_val A i k (T + (c + 1)) = .ref (T + (c + 1)) := hvr (by omega) (by rcases h with rfl | rfl <;> omega)
theorem hLL.le {L : Nat} (h : hLL L) : L ≤ 360 := of_decide_eq_true (hlL_all (Q := fun L => decide (L ≤ 360)) (by decide +kernel) h)
theorem hvL {i k c L : Nat} (h : hLL L) (h2 : c < 99) : hs_val A i k (L + (c + 1)) = .ref (L + (c + 1)) := hvr (by omega) (by have := h.le; omega)
theorem hxj_getI {z i : Nat} {ks : List Nat} (hI : hc_get tb pc = some (.getfield z, len, r1, r2)) (hs : hc_get hs_sh i = some (3, r1, ks)) (hk : hc_nth ks r2 = some 0) (k : ∀ v : Int32, A.1 i r2 = v → hxa d ret tb (pc + 3) l (.int v :: st) A P) : hxa d ret tb pc l (.ref (i + 1) :: st) A P := hxa_get hI hs hk rfl (k _ rfl)
theorem hxj_getB {z i : Nat} {lo hi : Int} {ks : List Nat} (hI : hc_get tb pc = some (.getfield z, len, r1, r2)) (hs : hc_get hs_sh i = some (3, r1, ks)) (hk : hc_nth ks r2 = some 0) (hA : hJ Q Bn Br A0 A) (hb : hb_f i r2 = some (lo, hi)) (k : ∀ v : Int32, A.1 i r2 = v → lo ≤ v.toInt → v.toInt ≤ hi → hxa d ret tb (pc + 3) l (.int v :: st) A P) : hxa d ret tb pc l (.ref (i + 1) :: st) A P := hxa_get hI hs hk rfl (k _ rfl (hA.f hb).1 (hA.f hb).2)
theorem hxj_getK {z i : Nat} {ks : List Nat} {v : Int32} (hI : hc_get tb pc = some (.getfield z, len, r1, r2)) (hs : hc_get hs_sh i = some (3, r1, ks)) (hk : hc_nth ks r2 = some 0) (hv : A.1 i r2 = v) (k : hxa d ret tb (pc + 3) l (.int v :: st) A P) : hxa d ret tb pc l (.ref (i + 1) :: st) A P := by
  subst hv
  exact hxa_get hI hs hk rfl k
theorem hxj_getT {z i T : Nat} {ks : List Nat} (hI : hc_get tb pc = some (.getfield z, len, r1, r2)) (hs : hc_get hs_sh i = some (3, r1, ks)) (hk : hc_nth ks r2 = some 100000) (e : A.2.2.2 i r2 = T) (k : hxa d ret tb (pc + 3) l (.ref T :: st) A P) : hxa d ret tb pc l (.ref (i + 1) :: st) A P := hxa_get hI hs hk (by show Value.ref (A.2.2.2 i r2) = _; rw [e]) k
theorem hxj_putI {z i : Nat} {ks : List Nat} {x : Int32} (hI : hc_get tb pc = some (.putfield z, len, r1, r2)) (hs : hc_get hs_sh i = some (3, r1, ks)) (hk : hc_nth ks r2 = some 0) (hf : hc_fit (hc_tyX r1 r2) (.int x) = true) (hA : hJ Q Bn Br A0 A) (hx : hb_ok (hb_f i r2) x) (hr : hr_f Q i r2 = true) (hg' : hg Q i r2 = true) (k : ∀ A' : hs_A, hJ Q Bn Br A0 A' → A'.1 = hs_up A.1 i r2 x → A'.2 = A.2 → hxa d ret tb (pc + 3) l st A' P) : hxa d ret tb pc l (.int x :: .ref (i + 1) :: st) A P := hxa_putI hI hs hk hf (k _ (hA.putI hx hr hg') rfl rfl)
theorem hxj_iald {i m : Nat} {j : Int32} {ej : Int} (hI : hc_get tb pc = some (.iaload, len, r1, r2)) (hs : hc_get hs_sh i = some (0, 1, [m])) (hj : j.toInt = ej) (h0 : 0 ≤ ej) (h1 : ej < (m : Int)) (k : ∀ v : Int32, A.2.1 i j.toNatClampNeg = v → hxa d ret tb (pc + 1) l (.int v :: st) A P) : hxa d ret tb pc l (.int j :: .ref (i + 1) :: st) A P := by
  subst hj
  exact hxa_iald hI hs (hn_ix h0 h1).1 (hn_ix h0 h1).2 (k _ rfl)
theorem hxj_ialdB {i m : Nat} {lo hi : Int} {j : Int32} {ej : Int} (hI : hc_get tb pc = some (.iaload, len, r1, r2)) (hs : hc_get hs_sh i = some (0, 1, [m])) (hj : j.toInt = ej) (h0 : 0 ≤ ej) (h1 : ej < (m : Int)) (hA : hJ Q Bn Br A0 A) (hb : hb_a i = some (lo, hi)) (k : ∀ v : Int32, A.2.1 i j.toNatClampNeg = v → lo ≤ v.toInt → v.toInt ≤ hi → hxa d ret tb (pc + 1) l (.int v :: st) A P) : hxa d ret tb pc l (.int j :: .ref (i + 1) :: st) A P := by
  subst hj
  exact hxa_iald hI hs (hn_ix h0 h1).1 (hn_ix h0 h1).2 (k _ rfl (hA.a hb _).1 (hA.a hb _).2)
theorem hxj_bald {i m : Nat} {j : Int32} {ej : Int} (hI : hc_get tb pc = some (.baload, len, r1, r2)) (hs : hc_get hs_sh i = some (0, 0, [m])) (hj : j.toInt = ej) (h0 : 0 ≤ ej) (h1 : ej < (m : Int)) (k : ∀ v : Int32, A.2.1 i j.toNatClampNeg = v → hxa d ret tb (pc + 1) l (.int v :: st) A P) : hxa d ret tb pc l (.int j :: .ref (i + 1) :: st) A P := by
  subst hj
  exact hxa_bald hI hs (hn_ix h0 h1).1 (hn_ix h0 h1).2 (k _ rfl)
theorem hxj_zald {i m : Nat} {j : Int32} {ej : Int} (hI : hc_get tb pc = some (.baload, len, r1, r2)) (hs : hc_get hs_sh i = some (0, 3, [m])) (hj : j.toInt = ej) (h0 : 0 ≤ ej) (h1 : ej < (m : Int)) (k : ∀ v : Int32, A.2.1 i j.toNatClampNeg = v → hxa d ret tb (pc + 1) l (.int v :: st) A P) : hxa d ret tb pc l (.int j :: .ref (i + 1) :: st) A P := by
  subst hj
  exact hxa_zald hI hs (hn_ix h0 h1).1 (hn_ix h0 h1).2 (k _ rfl)
theorem hxj_iast {i m : Nat} {j x : Int32} {ej : Int} (hI : hc_get tb pc = some (.iastore, len, r1, r2)) (hs : hc_get hs_sh i = some (0, 1, [m])) (hj : j.toInt = ej) (h0 : 0 ≤ ej) (h1 : ej < (m : Int)) (hA : hJ Q Bn Br A0 A) (hx : hb_ok (hb_a i) x) (hr : hr_a Q i = true) (hn : hq Q i = true) (k : ∀ A' : hs_A, hJ Q Bn Br A0 A' → A'.1 = A.1 → A'.2.1 = hs_up A.2.1 i j.toNatClampNeg x → A'.2.2 = A.2.2 → hxa d ret tb (pc + 1) l st A' P) : hxa d ret tb pc l (.int x :: .int j :: .ref (i + 1) :: st) A P := by
  subst hj
  exact hxa_iast hI hs (hn_ix h0 h1).1 (hn_ix h0 h1).2 (k _ (hA.setI hx hr hn) rfl rfl rfl)
theorem hxj_zast {i m : Nat} {j x : Int32} {ej ex : Int} (hI : hc_get tb pc = some (.bastore, len, r1, r2)) (hs : hc_get hs_sh i = some (0, 3, [m])) (hj : j.toInt = ej) (h0 : 0 ≤ ej) (h1 : ej < (m : Int)) (hx0 : x.toInt = ex) (hx1 : 0 ≤ ex) (hx2 : ex ≤ 1) (hA : hJ Q Bn Br A0 A) (hx : hb_ok (hb_a i) x) (hr : hr_a Q i = true) (hn : hq Q i = true) (k : ∀ A' : hs_A, hJ Q Bn Br A0 A' → A'.1 = A.1 → A'.2.1 = hs_up A.2.1 i j.toNatClampNeg x → A'.2.2 = A.2.2 → hxa d ret tb (pc + 1) l st A' P) : hxa d ret tb pc l (.int x :: .int j :: .ref (i + 1) :: st) A P := by
  subst hj
  subst hx0
  exact hxa_zast hI (hn_01 hx1 hx2) hs (hn_ix h0 h1).1 (hn_ix h0 h1).2 (k _ (hA.setI hx hr hn) rfl rfl rfl)
theorem hxj_copy {z i0 i1 m : Nat} {w : Int32} (hI : hc_get tb pc = some (.invokestatic z, len, r1, 8)) (hs0 : hc_get hs_sh i0 = some (0, 1, [m])) (hs1 : hc_get hs_sh i1 = some (0, 1, [m])) (hw : w.toInt = (m : Int)) (hcat : Nat.ble (hc_cat st) 8 = true) (hA : hJ Q Bn Br A0 A) (hx : ∀ v, hb_ok (hb_a i0) v → hb_ok (hb_a i1) v) (hr : hr_a Q i1 = true) (hn : hq Q i1 = true) (k : ∀ A' : hs_A, hJ Q Bn Br A0 A' → A'.1 = A.1 → hxa d ret tb (pc + 3) l st A' P) {e0 e1 : Int32} (q0 : e0 = 0) (q1 : e1 = 0) : hxa d ret tb pc l (.int w :: .int e1 :: .ref (i1 + 1) :: .int e0 :: .ref (i0 + 1) :: st) A P := by
  subst q0
  subst q1
  exact hxa_copy hI hs0 hs1 (by rw [Int32.lt_iff_toInt_lt]; have : (0 : Int32).toInt = 0 := by decide
                                omega) (by show w.toInt.toNat = m; omega) hcat (k _ (hA.cpy hx hr hn) rfl)
theorem hs_fs_setR {i k x : Nat} {ks : List Nat} (hk : hc_nth ks k = some 100000) : hc_set (hs_fs A i ks) k (.ref x) = hs_fs (A.1, A.2.1, A.2.2.1, hs_upN A.2.2.2 i k x) i ks := by
  rw [hc_nth_eq] at hk
  rw [hc_set_eq]
  have hlt := (List.getElem?_eq_some_iff.mp hk).1
  apply List.ext_getElem?
  intro j
  rw [List.getElem?_set]
  unfold hs_fs
  rw [List.length_map, List.length_range]
  by_cases e : k = j
  · subst e
    rw [if_pos rfl, if_pos hlt, List.getElem?_map, List.getElem?_range hlt, Option.map_some, List.getD_eq_getElem?_getD, hk]
    show _ = some (hs_val _ i k 100000)
    unfold hs_val hs_upN
    simp
  · rw [if_neg e, List.getElem?_map, List.getElem?_map]
    by_cases hj : j < ks.length
    · rw [List.getElem?_range hj, Option.map_some, Option.map_some]
      unfold hs_val hs_upN
      have e' : ¬ j = k := fun q => e q.symm
      simp [e']
    · rw [List.getElem?_eq_none (by rw [List.length_range]; omega)]
      rfl
theorem hs_putR {h : hc_H} {i ci k x : Nat} {ks : List Nat} (hR : hs_Rep h A) (hs : hc_get hs_sh i = some (3, ci, ks)) (hk : hc_nth ks k = some 100000) : ∃ h', hc_put h i (.inr (ci, hc_set (hs_fs A i ks) k (.ref x))) = some h' ∧ hs_Rep h' (A.1, A.2.1, A.2.2.1, hs_upN A.2.2.2 i k x) := by
  obtain ⟨h', hp⟩ := hc_put_some (e := .inr (ci, hc_set (hs_fs A i ks) k (.ref x))) (hR i _ hs)
  refine ⟨h', hp, fun j sh hj => ?_⟩
  rw [hc_get_put hp j]
  by_cases e : j = i
  · subst e
    rw [if_pos rfl]
    cases hj.symm.trans hs
    rw [hs_cell3, hs_fs_setR hk]
  · rw [if_neg e, hR j sh hj]
    exact congrArg some (hs_cell_ne _ _ sh (fun _ => rfl) (fun _ => rfl) (fun _ => rfl) (fun k => by simp [hs_upN, e]))
theorem hxa_putR {z i x : Nat} {ks : List Nat} (hI : hc_get tb pc = some (.putfield z, len, r1, r2)) (hs : hc_get hs_sh i = some (3, r1, ks)) (hk : hc_nth ks r2 = some 100000) (hf : hc_fit (hc_tyX r1 r2) (.ref x) = true) (k : hxa d ret tb (pc + 3) l st (A.1, A.2.1, A.2.2.1, hs_upN A.2.2.2 i r2 x) P) : hxa d ret tb pc l (.ref x :: .ref (i + 1) :: st) A P := fun h hR => by
  obtain ⟨h', hp, hR'⟩ := hs_putR (x := x) hR hs hk
  refine hx_step 0 (fun g _ => ?_) (k h' hR')
  unfold hc_step1
  simp only [hI]
  show hi_putfield r1 r2 pc l (.ref x :: .ref (i + 1) :: st) hs_n h 0 0 = _
  unfold hi_putfield
  dsimp only
  rw [hR i _ hs, hs_cell3, hc_objS]
  dsimp only
  rw [hf]
  dsimp only
  rw [hs_fs_at hk]
  dsimp only
  rw [hp]
  rfl
theorem hxj_putLaws {z T : Nat} (hI : hc_get tb pc = some (.putfield z, len, 0, 5)) (hA : hJ 0 Bn Br A0 A) (hT : hTT T) (k : ∀ A' : hs_A, hJ 0 Bn Br A0 A' → A'.1 = A.1 → A'.2.2.2 323 5 = T + 5 → hxa d ret tb (pc + 3) l st A' P) : hxa d ret tb pc l (.ref (T + 5) :: .ref 324 :: st) A P := hxa_putR (i := 323) hI rfl rfl rfl (k _ (hA.laws hT) rfl (by simp [hs_upN]))
theorem hs_al_set {i j m : Nat} {x : Int64} (hj : j < m) : hc_set (hs_al A i m) j (.long x) = hs_al (A.1, A.2.1, hs_upL A.2.2.1 i j x, A.2.2.2) i m := by
  rw [hc_set_eq]
  apply List.ext_getElem?
  intro q
  rw [List.getElem?_set]
  unfold hs_al
  rw [List.length_map, List.length_range, List.getElem?_map, List.getElem?_map]
  by_cases e : j = q
  · subst e
    rw [if_pos rfl, if_pos hj, List.getElem?_range hj]
    simp [hs_upL]
  · rw [if_neg e]
    by_cases hq : q < m
    · rw [List.getElem?_range hq]
      have e' : ¬ q = j := fun z => e z.symm
      simp [hs_upL, e']
    · rw [List.getElem?_eq_none (by rw [List.length_range]; omega)]
      rfl
theorem hs_setL {h : hc_H} {i t j m : Nat} {x : Int64} (hR : hs_Rep h A) (hs : hc_get hs_sh i = some (1, t, [m])) (hj : j < m) : ∃ h', hc_put h i (.inl (t, hc_set (hs_al A i m) j (.long x))) = some h' ∧ hs_Rep h' (A.1, A.2.1, hs_upL A.2.2.1 i j x, A.2.2.2) := by
  obtain ⟨h', hp⟩ := hc_put_some (e := .inl (t, hc_set (hs_al A i m) j (.long x))) (hR i _ hs)
  refine ⟨h', hp, fun q sh hq => ?_⟩
  rw [hc_get_put hp q]
  by_cases e : q = i
  · subst e
    rw [if_pos rfl]
    cases hq.symm.trans hs
    rw [hs_cell1, hs_al_set hj]
  · rw [if_neg e, hR q sh hq]
    exact congrArg some (hs_cell_ne _ _ sh (fun _ => rfl) (fun _ => rfl) (fun k => by simp [hs_upL, e]) (fun _ => rfl))
theorem hxa_last {i m : Nat} {j : Int32} {x : Int64} (hI : hc_get tb pc = some (.lastore, len, r1, r2)) (hs : hc_get hs_sh i = some (1, 2, [m])) (h0 : ¬ j < 0) (h1 : j.toNatClampNeg < m) (k : hxa d ret tb (pc + 1) l st (A.1, A.2.1, hs_upL A.2.2.1 i j.toNatClampNeg x, A.2.2.2) P) : hxa d ret tb pc l (.long x :: .int j :: .ref (i + 1) :: st) A P := fun h hR => by
  obtain ⟨h', hp, hR'⟩ := hs_setL (x := x) hR hs h1
  refine hx_step 0 (fun g _ => ?_) (k h' hR')
  unfold hc_step1
  simp only [hI]
  show hi_lastore pc l (.long x :: .int j :: .ref (i + 1) :: st) hs_n h 0 0 = _
  unfold hi_lastore
  exact hs_ast ((hR i _ hs).trans (congrArg some (hs_cell1 A i 2 m))) (hs_el h0 (hs_al_at h1)) hp
theorem hxj_iald395 {j : Int32} {ej : Int} (hI : hc_get tb pc = some (.iaload, len, r1, r2)) (hj : j.toInt = ej) (h0 : 0 ≤ ej) (h1 : ej < 73) (hA : hJ 0 Bn Br A0 A) (k : ∀ v : Int32, A.2.1 395 j.toNatClampNeg = v → (¬ ej = 70 ∨ (0 ≤ v.toInt ∧ v.toInt ≤ Bn)) → hxa d ret tb (pc + 1) l (.int v :: st) A P) : hxa d ret tb pc l (.int j :: .ref 396 :: st) A P := by
  subst hj
  refine hxa_iald (i := 395) (m := 73) hI (by rfl) (hn_ix h0 h1).1 (hn_ix h0 h1).2 (k _ rfl ?_)
  obtain ⟨q1, q2, q3, q4⟩ := hA.2.1
  by_cases e : j.toInt = 70
  · have : j.toNatClampNeg = 70 := by show j.toInt.toNat = 70; omega
    rw [this]
    exact Or.inr q2
  · exact Or.inl e
theorem hxj_iast395 {j x : Int32} {ej ex : Int} (hI : hc_get tb pc = some (.iastore, len, r1, r2)) (hj : j.toInt = ej) (h0 : 0 ≤ ej) (h1 : ej < 73) (hx0 : x.toInt = ex) (hA : hJ 0 Bn Br A0 A) (hx : ¬ ej = 70 ∨ (0 ≤ ex ∧ ex ≤ Bn)) (k : ∀ A' : hs_A, hJ 0 Bn Br A0 A' → A'.1 = A.1 → A'.2.1 = hs_up A.2.1 395 j.toNatClampNeg x → A'.2.2 = A.2.2 → hxa d ret tb (pc + 1) l st A' P) : hxa d ret tb pc l (.int x :: .int j :: .ref 396 :: st) A P := by
  subst hj
  subst hx0
  refine hxa_iast (i := 395) (m := 73) hI (by rfl) (hn_ix h0 h1).1 (hn_ix h0 h1).2 (k _ (hA.setH (by omega) ?_) rfl rfl rfl)
  have e : (j.toNatClampNeg : Int) = j.toInt := by show (j.toInt.toNat : Int) = _; omega
  rw [e]
  simpa using hx
theorem hxj_iald396 {j : Int32} {ej : Int} (hI : hc_get tb pc = some (.iaload, len, r1, r2)) (hj : j.toInt = ej) (h0 : 0 ≤ ej) (h1 : ej < 73) (hA : hJ 0 Bn Br A0 A) (k : ∀ v : Int32, A.2.1 396 j.toNatClampNeg = v → (¬ ej = 70 ∨ (0 ≤ v.toInt ∧ v.toInt ≤ Br)) → hxa d ret tb (pc + 1) l (.int v :: st) A P) : hxa d ret tb pc l (.int j :: .ref 397 :: st) A P := by
  subst hj
  refine hxa_iald (i := 396) (m := 73) hI (by rfl) (hn_ix h0 h1).1 (hn_ix h0 h1).2 (k _ rfl ?_)
  obtain ⟨q1, q2, q3, q4⟩ := hA.2.1
  by_cases e : j.toInt = 70
  · have : j.toNatClampNeg = 70 := by show j.toInt.toNat = 70; omega
    rw [this]
    exact Or.inr q1
  · exact Or.inl e
theorem hxj_iast396 {j x : Int32} {ej ex : Int} (hI : hc_get tb pc = some (.iastore, len, r1, r2)) (hj : j.toInt = ej) (h0 : 0 ≤ ej) (h1 : ej < 73) (hx0 : x.toInt = ex) (hA : hJ 0 Bn Br A0 A) (hx : ¬ ej = 70 ∨ (0 ≤ ex ∧ ex ≤ Br)) (k : ∀ A' : hs_A, hJ 0 Bn Br A0 A' → A'.1 = A.1 → A'.2.1 = hs_up A.2.1 396 j.toNatClampNeg x → A'.2.2 = A.2.2 → hxa d ret tb (pc + 1) l st A' P) : hxa d ret tb pc l (.int x :: .int j :: .ref 397 :: st) A P := by
  subst hj
  subst hx0
  refine hxa_iast (i := 396) (m := 73) hI (by rfl) (hn_ix h0 h1).1 (hn_ix h0 h1).2 (k _ (hA.setH (by omega) ?_) rfl rfl rfl)
  have e : (j.toNatClampNeg : Int) = j.toInt := by show (j.toInt.toNat : Int) = _; omega
  rw [e]
  simpa using hx
theorem hxj_iald399 {j : Int32} {ej : Int} (hI : hc_get tb pc = some (.iaload, len, r1, r2)) (hj : j.toInt = ej) (h0 : 0 ≤ ej) (h1 : ej < 2920) (hA : hJ 0 Bn Br A0 A) (k : ∀ v : Int32, A.2.1 399 j.toNatClampNeg = v → (¬ ej % 73 = 70 ∨ (0 ≤ v.toInt ∧ v.toInt ≤ Bn)) → hxa d ret tb (pc + 1) l (.int v :: st) A P) : hxa d ret tb pc l (.int j :: .ref 400 :: st) A P := by
  subst hj
  refine hxa_iald (i := 399) (m := 2920) hI (by rfl) (hn_ix h0 h1).1 (hn_ix h0 h1).2 (k _ rfl ?_)
  obtain ⟨q1, q2, q3, q4⟩ := hA.2.1
  by_cases e : j.toInt % 73 = 70
  · have : j.toNatClampNeg = 73 * (j.toInt / 73).toNat + 70 := by show j.toInt.toNat = _; omega
    rw [this]
    exact Or.inr (q3 _ (by omega))
  · exact Or.inl e
theorem hxj_iast399 {j x : Int32} {ej ex : Int} (hI : hc_get tb pc = some (.iastore, len, r1, r2)) (hj : j.toInt = ej) (h0 : 0 ≤ ej) (h1 : ej < 2920) (hx0 : x.toInt = ex) (hA : hJ 0 Bn Br A0 A) (hx : ¬ ej % 73 = 70 ∨ (0 ≤ ex ∧ ex ≤ Bn)) (k : ∀ A' : hs_A, hJ 0 Bn Br A0 A' → A'.1 = A.1 → A'.2.1 = hs_up A.2.1 399 j.toNatClampNeg x → A'.2.2 = A.2.2 → hxa d ret tb (pc + 1) l st A' P) : hxa d ret tb pc l (.int x :: .int j :: .ref 400 :: st) A P := by
  subst hj
  subst hx0
  refine hxa_iast (i := 399) (m := 2920) hI (by rfl) (hn_ix h0 h1).1 (hn_ix h0 h1).2 (k _ (hA.setH (by omega) ?_) rfl rfl rfl)
  have e : (j.toNatClampNeg : Int) = j.toInt := by show (j.toInt.toNat : Int) = _; omega
  rw [e]
  simpa using hx
theorem hxj_iald409 {j : Int32} {ej : Int} (hI : hc_get tb pc = some (.iaload, len, r1, r2)) (hj : j.toInt = ej) (h0 : 0 ≤ ej) (h1 : ej < 219) (hA : hJ 0 Bn Br A0 A) (k : ∀ v : Int32, A.2.1 409 j.toNatClampNeg = v → (¬ ej % 73 = 70 ∨ (0 ≤ v.toInt ∧ v.toInt ≤ Bn)) → hxa d ret tb (pc + 1) l (.int v :: st) A P) : hxa d ret tb pc l (.int j :: .ref 410 :: st) A P := by
  subst hj
  refine hxa_iald (i := 409) (m := 219) hI (by rfl) (hn_ix h0 h1).1 (hn_ix h0 h1).2 (k _ rfl ?_)
  obtain ⟨q1, q2, q3, q4⟩ := hA.2.1
  by_cases e : j.toInt % 73 = 70
  · have : j.toNatClampNeg = 73 * (j.toInt / 73).toNat + 70 := by show j.toInt.toNat = _; omega
    rw [this]
    exact Or.inr (q4 _ (by omega))
  · exact Or.inl e
theorem hxj_iast409 {j x : Int32} {ej ex : Int} (hI : hc_get tb pc = some (.iastore, len, r1, r2)) (hj : j.toInt = ej) (h0 : 0 ≤ ej) (h1 : ej < 219) (hx0 : x.toInt = ex) (hA : hJ 0 Bn Br A0 A) (hx : ¬ ej % 73 = 70 ∨ (0 ≤ ex ∧ ex ≤ Bn)) (k : ∀ A' : hs_A, hJ 0 Bn Br A0 A' → A'.1 = A.1 → A'.2.1 = hs_up A.2.1 409 j.toNatClampNeg x → A'.2.2 = A.2.2 → hxa d ret tb (pc + 1) l st A' P) : hxa d ret tb pc l (.int x :: .int j :: .ref 410 :: st) A P := by
  subst hj
  subst hx0
  refine hxa_iast (i := 409) (m := 219) hI (by rfl) (hn_ix h0 h1).1 (hn_ix h0 h1).2 (k _ (hA.setH (by omega) ?_) rfl rfl rfl)
  have e : (j.toNatClampNeg : Int) = j.toInt := by show (j.toInt.toNat : Int) = _; omega
  rw [e]
  simpa using hx
theorem hxj_iinc {z : Nat} {w : Int} {x : Int32} {l' : Int32 → List Value} {ex c : Int} (hI : hc_get tb pc = some (.iinc z w, len, r1, r2)) (hx : hc_nth l r1 = some (.int x)) (he : x.toInt = ex) (hc : (Int32.ofNat r2).toInt = c) (h1 : -2147483648 ≤ ex + c) (h2 : ex + c ≤ 2147483647) (hl : ∀ v, hc_s1 l r1 (.int v) = some (l' v)) (k : ∀ v : Int32, v.toInt = ex + c → hxa d ret tb (pc + 3) (l' v) st A P) : hxa d ret tb pc l st A P := by
  subst he
  subst hc
  exact hxa_iinc hI hx (hl _) (k _ (hn_add rfl h1 h2))
theorem hxj_iincU {z : Nat} {w : Int} {x : Int32} {l' : Int32 → List Value} (hI : hc_get tb pc = some (.iinc z w, len, r1, r2)) (hx : hc_nth l r1 = some (.int x)) (hl : ∀ v, hc_s1 l r1 (.int v) = some (l' v)) (k : ∀ v : Int32, hxa d ret tb (pc + 3) (l' v) st A P) : hxa d ret tb pc l st A P := hxa_iinc hI hx (hl _) (k _)
theorem hs1_v {i : Nat} {v w x : Value} (h1 : hc_nth l (i + 1) = some w) (h2 : hc_nth l i = some v) (hv : hc_two (some v) = false) : hc_s1 l (i + 1) x = some (hc_set l (i + 1) x) := by
  unfold hc_s1
  rw [h1]
  show (match hc_two (hc_nth l i) with
    | true => none
    | false => some (hc_set l (i + 1) x)) = _
  rw [h2, hv]
end HXJ
theorem hk_0 : (Int32.ofNat 0).toInt = 0 := by decide
theorem hk_1 : (Int32.ofNat 1).toInt = 1 := by decide
theorem hk_2 : (Int32.ofNat 2).toInt = 2 := by decide
theorem hk_3 : (Int32.ofNat 3).toInt = 3 := by decide
theorem hk_4 : (Int32.ofNat 4).toInt = 4 := by decide
theorem hk_5 : (Int32.ofNat 5).toInt = 5 := by decide
theorem hk_6 : (Int32.ofNat 6).toInt = 6 := by decide
theorem hk_7 : (Int32.ofNat 7).toInt = 7 := by decide
theorem hk_8 : (Int32.ofNat 8).toInt = 8 := by decide
theorem hk_9 : (Int32.ofNat 9).toInt = 9 := by decide
theorem hk_10 : (Int32.ofNat 10).toInt = 10 := by decide
theorem hk_11 : (Int32.ofNat 11).toInt = 11 := by decide
theorem hk_12 : (Int32.ofNat 12).toInt = 12 := by decide
theorem hk_13 : (Int32.ofNat 13).toInt = 13 := by decide
theorem hk_14 : (Int32.ofNat 14).toInt = 14 := by decide
theorem hk_15 : (Int32.ofNat 15).toInt = 15 := by decide
theorem hk_16 : (Int32.ofNat 16).toInt = 16 := by decide
theorem hk_17 : (Int32.ofNat 17).toInt = 17 := by decide
theorem hk_18 : (Int32.ofNat 18).toInt = 18 := by decide
theorem hk_19 : (Int32.ofNat 19).toInt = 19 := by decide
theorem hk_20 : (Int32.ofNat 20).toInt = 20 := by decide
theorem hk_21 : (Int32.ofNat 21).toInt = 21 := by decide
theorem hk_22 : (Int32.ofNat 22).toInt = 22 := by decide
theorem hk_23 : (Int32.ofNat 23).toInt = 23 := by decide
theorem hk_24 : (Int32.ofNat 24).toInt = 24 := by decide
theorem hk_25 : (Int32.ofNat 25).toInt = 25 := by decide
theorem hk_26 : (Int32.ofNat 26).toInt = 26 := by decide
theorem hk_27 : (Int32.ofNat 27).toInt = 27 := by decide
theorem hk_28 : (Int32.ofNat 28).toInt = 28 := by decide
theorem hk_29 : (Int32.ofNat 29).toInt = 29 := by decide
theorem hk_30 : (Int32.ofNat 30).toInt = 30 := by decide
theorem hk_31 : (Int32.ofNat 31).toInt = 31 := by decide
theorem hk_32 : (Int32.ofNat 32).toInt = 32 := by decide
theorem hk_39 : (Int32.ofNat 39).toInt = 39 := by decide
theorem hk_40 : (Int32.ofNat 40).toInt = 40 := by decide
theorem hk_41 : (Int32.ofNat 41).toInt = 41 := by decide
theorem hk_42 : (Int32.ofNat 42).toInt = 42 := by decide
theorem hk_43 : (Int32.ofNat 43).toInt = 43 := by decide
theorem hk_45 : (Int32.ofNat 45).toInt = 45 := by decide
theorem hk_47 : (Int32.ofNat 47).toInt = 47 := by decide
theorem hk_48 : (Int32.ofNat 48).toInt = 48 := by decide
theorem hk_50 : (Int32.ofNat 50).toInt = 50 := by decide
theorem hk_57 : (Int32.ofNat 57).toInt = 57 := by decide
theorem hk_59 : (Int32.ofNat 59).toInt = 59 := by decide
theorem hk_60 : (Int32.ofNat 60).toInt = 60 := by decide
theorem hk_61 : (Int32.ofNat 61).toInt = 61 := by decide
theorem hk_63 : (Int32.ofNat 63).toInt = 63 := by decide
theorem hk_64 : (Int32.ofNat 64).toInt = 64 := by decide
theorem hk_70 : (Int32.ofNat 70).toInt = 70 := by decide
theorem hk_71 : (Int32.ofNat 71).toInt = 71 := by decide
theorem hk_72 : (Int32.ofNat 72).toInt = 72 := by decide
theorem hk_73 : (Int32.ofNat 73).toInt = 73 := by decide
theorem hk_97 : (Int32.ofNat 97).toInt = 97 := by decide
theorem hk_99 : (Int32.ofNat 99).toInt = 99 := by decide
theorem hk_100 : (Int32.ofNat 100).toInt = 100 := by decide
theorem hk_101 : (Int32.ofNat 101).toInt = 101 := by decide
theorem hk_102 : (Int32.ofNat 102).toInt = 102 := by decide
theorem hk_103 : (Int32.ofNat 103).toInt = 103 := by decide
theorem hk_104 : (Int32.ofNat 104).toInt = 104 := by decide
theorem hk_105 : (Int32.ofNat 105).toInt = 105 := by decide
theorem hk_107 : (Int32.ofNat 107).toInt = 107 := by decide
theorem hk_108 : (Int32.ofNat 108).toInt = 108 := by decide
theorem hk_109 : (Int32.ofNat 109).toInt = 109 := by decide
theorem hk_110 : (Int32.ofNat 110).toInt = 110 := by decide
theorem hk_111 : (Int32.ofNat 111).toInt = 111 := by decide
theorem hk_112 : (Int32.ofNat 112).toInt = 112 := by decide
theorem hk_114 : (Int32.ofNat 114).toInt = 114 := by decide
theorem hk_115 : (Int32.ofNat 115).toInt = 115 := by decide
theorem hk_116 : (Int32.ofNat 116).toInt = 116 := by decide
theorem hk_117 : (Int32.ofNat 117).toInt = 117 := by decide
theorem hk_119 : (Int32.ofNat 119).toInt = 119 := by decide
theorem hk_121 : (Int32.ofNat 121).toInt = 121 := by decide
theorem hk_122 : (Int32.ofNat 122).toInt = 122 := by decide
theorem hk_130 : (Int32.ofNat 130).toInt = 130 := by decide
theorem hk_137 : (Int32.ofNat 137).toInt = 137 := by decide
theorem hk_219 : (Int32.ofNat 219).toInt = 219 := by decide
theorem hk_255 : (Int32.ofNat 255).toInt = 255 := by decide
theorem hk_256 : (Int32.ofNat 256).toInt = 256 := by decide
theorem hk_257 : (Int32.ofNat 257).toInt = 257 := by decide
theorem hk_260 : (Int32.ofNat 260).toInt = 260 := by decide
theorem hk_400 : (Int32.ofNat 400).toInt = 400 := by decide
theorem hk_401 : (Int32.ofNat 401).toInt = 401 := by decide
theorem hk_403 : (Int32.ofNat 403).toInt = 403 := by decide
theorem hk_408 : (Int32.ofNat 408).toInt = 408 := by decide
theorem hk_420 : (Int32.ofNat 420).toInt = 420 := by decide
theorem hk_576 : (Int32.ofNat 576).toInt = 576 := by decide
theorem hk_840 : (Int32.ofNat 840).toInt = 840 := by decide
theorem hk_1980 : (Int32.ofNat 1980).toInt = 1980 := by decide
theorem hk_2000 : (Int32.ofNat 2000).toInt = 2000 := by decide
theorem hk_2847 : (Int32.ofNat 2847).toInt = 2847 := by decide
theorem hk_2920 : (Int32.ofNat 2920).toInt = 2920 := by decide
theorem hk_9999 : (Int32.ofNat 9999).toInt = 9999 := by decide
theorem hk_12345 : (Int32.ofNat 12345).toInt = 12345 := by decide
theorem hk_13824 : (Int32.ofNat 13824).toInt = 13824 := by decide
theorem hk_252645135 : (Int32.ofNat 252645135).toInt = 252645135 := by decide
theorem hk_858993459 : (Int32.ofNat 858993459).toInt = 858993459 := by decide
theorem hk_1103515245 : (Int32.ofNat 1103515245).toInt = 1103515245 := by decide
theorem hk_1431655765 : (Int32.ofNat 1431655765).toInt = 1431655765 := by decide
theorem hk_4294967288 : (Int32.ofNat 4294967288).toInt = -8 := by decide
theorem hk_4294967294 : (Int32.ofNat 4294967294).toInt = -2 := by decide
theorem hk_4294967295 : (Int32.ofNat 4294967295).toInt = -1 := by decide
theorem hL26 : hLL 26 := by
  unfold hLL
  decide
theorem hL33 : hLL 33 := by
  unfold hLL
  decide
theorem hn_ix0 {j : Int32} {ej : Int} (hj : j.toInt = ej) (h : 0 ≤ ej) : ¬ j < 0 := by
  rw [Int32.lt_iff_toInt_lt]
  have : (0 : Int32).toInt = 0 := by decide
  omega
theorem hn_cn {j : Int32} (h : 0 ≤ j.toInt) : (j.toNatClampNeg : Int) = j.toInt := by
  show (j.toInt.toNat : Int) = _
  omega
theorem haa_rows {j : Int32} {ej : Int} (hj : j.toInt = ej) (h0 : 0 ≤ ej) (h1 : ej ≤ 9) : ∃ R, hRR R ∧ ([331, 332, 333, 334, 335, 336, 337, 338, 339, 340] : List Nat)[j.toNatClampNeg]? = some (R + 1) := by
  have e : j.toNatClampNeg = ej.toNat := by rw [← hj]; rfl
  rw [e]
  have : ej = 0 ∨ ej = 1 ∨ ej = 2 ∨ ej = 3 ∨ ej = 4 ∨ ej = 5 ∨ ej = 6 ∨ ej = 7 ∨ ej = 8 ∨ ej = 9 := by omega
  rcases this with rfl | rfl | rfl | rfl | rfl | rfl | rfl | rfl | rfl | rfl
  · exact ⟨330, by unfold hRR; omega, rfl⟩
  · exact ⟨331, by unfold hRR; omega, rfl⟩
  · exact ⟨332, by unfold hRR; omega, rfl⟩
  · exact ⟨333, by unfold hRR; omega, rfl⟩
  · exact ⟨334, by unfold hRR; omega, rfl⟩
  · exact ⟨335, by unfold hRR; omega, rfl⟩
  · exact ⟨336, by unfold hRR; omega, rfl⟩
  · exact ⟨337, by unfold hRR; omega, rfl⟩
  · exact ⟨338, by unfold hRR; omega, rfl⟩
  · exact ⟨339, by unfold hRR; omega, rfl⟩
def hl_l40 : List Nat := [43, 50, 57, 64, 71, 78, 85, 92, 99, 106, 113, 120, 127, 134, 141, 148, 155, 162, 169, 176, 183, 190, 197, 204, 211, 218, 225, 232, 239, 246, 253, 260, 267, 274, 281, 288, 295, 302, 309, 316]
theorem haa_list {l : List Nat} (hl : (l.all fun x => decide (x - 1 ∈ hl_L ∧ 1 ≤ x)) = true) {n : Nat} (hn : n < l.length) : ∃ L, hLL L ∧ l[n]? = some (L + 1) := by
  have h := List.all_eq_true.mp hl (l[n]) (List.getElem_mem hn)
  have h2 := of_decide_eq_true h
  exact ⟨l[n] - 1, h2.1, by rw [List.getElem?_eq_getElem hn]; congr 1; omega⟩
theorem haa_lives {j : Int32} {ej : Int} (hj : j.toInt = ej) (h0 : 0 ≤ ej) (h1 : ej ≤ 39) : ∃ L, hLL L ∧ hl_l40[j.toNatClampNeg]? = some (L + 1) := haa_list (by decide +kernel) (by show j.toInt.toNat < 40; omega)
theorem haa_slots {j : Int32} {ej : Int} (hj : j.toInt = ej) (h0 : 0 ≤ ej) (h1 : ej ≤ 2) : ∃ L, hLL L ∧ ([347, 354, 361] : List Nat)[j.toNatClampNeg]? = some (L + 1) := haa_list (by decide +kernel) (by show j.toInt.toNat < 3; omega)
theorem hJ.low {Q : Nat} {Bn Br Br' : Int} {A0 A : hs_A} (h : hJ Q Bn Br A0 A) (q : (A.2.1 396 70).toInt ≤ Br') : hJ Q Bn Br' A0 A := ⟨h.1, ⟨⟨h.2.1.1.1, q⟩, h.2.1.2⟩, h.2.2⟩
theorem hcp {A A' : hs_A} {c : Nat} {B : Int} {j v z : Int32} (e : A'.2.1 = hs_up A.2.1 c j.toNatClampNeg v) (hj : 0 ≤ j.toInt) (hf : ¬ j.toInt = 70 ∨ (0 ≤ v.toInt ∧ v.toInt ≤ B)) (hz : z.toInt = j.toInt + 1) (u : j.toInt ≤ 70 ∨ (A.2.1 c 70).toInt ≤ B) : z.toInt ≤ 70 ∨ (A'.2.1 c 70).toInt ≤ B := by
  have hn := hn_cn hj
  rw [e]
  by_cases q : j.toInt = 70
  · right
    have : j.toNatClampNeg = 70 := by omega
    rw [this, hup1]
    omega
  · rw [hup2 (by omega)]
    omega
theorem hcode {A A' : hs_A} {m x z : Int32} (e : A'.2.1 = hs_up A.2.1 402 m.toNatClampNeg x) (u : ∀ j : Nat, (j : Int) < m.toInt → 0 ≤ (A.2.1 402 j).toInt ∧ (A.2.1 402 j).toInt ≤ 255) (hm : 0 ≤ m.toInt) (h0 : 0 ≤ x.toInt) (h1 : x.toInt ≤ 255) (hz : z.toInt = m.toInt + 1) : ∀ j : Nat, (j : Int) < z.toInt → 0 ≤ (A'.2.1 402 j).toInt ∧ (A'.2.1 402 j).toInt ≤ 255 := by
  intro j hj
  have hn := hn_cn hm
  rw [e]
  by_cases q : j = m.toNatClampNeg
  · subst q
    rw [hup1]
    exact ⟨h0, h1⟩
  · rw [hup2 (by omega)]
    exact u j (by omega)
theorem hn_sar3 {x : Int32} (h : 0 ≤ x.toInt) : 0 ≤ (x >>> (Int32.ofNat 3 &&& 31)).toInt := by
  have e : (Int32.ofNat 3 &&& 31) = (3 : Int32) := by decide
  rw [e]
  have : (x >>> (3 : Int32)).toInt = x.toBitVec.toInt >>> 3 := by
    show (x >>> (3 : Int32)).toBitVec.toInt = _
    rw [Int32.toBitVec_shiftRight]
    rw [BitVec.toInt_sshiftRight']
    rfl
  rw [this]
  have h' : 0 ≤ x.toBitVec.toInt := h
  rw [Int.shiftRight_eq_div_pow]
  exact Int.ediv_nonneg h' (by decide)
theorem hworth {a x y s w : Int32} (h : hVs a) (hx : a = x) (hy : a = y) (hs : s = x &&& Int32.ofNat 7) (hw : w = y >>> (Int32.ofNat 3 &&& 31)) : ¬ s.toInt = 1 ∨ 0 ≤ w.toInt := by
  subst hx
  subst hy
  by_cases q : s.toInt = 1
  · right
    have e : a &&& 7 = 1 := by
      rw [hs] at q
      exact Int32.toInt_inj.mp (q.trans (by decide))
    rw [hw]
    exact hn_sar3 (h e)
  · exact Or.inl q
def hbc_us (x : Int32) (y : Int32) : Int32 := (x.toUInt32 >>> (y.toUInt32 &&& Int32.toUInt32 31)).toInt32
def hbc1 (x : Int32) : Int32 := x - (hbc_us x (Int32.ofNat 1) &&& Int32.ofNat 1431655765)
def hbc2 (x : Int32) : Int32 := (x &&& Int32.ofNat 858993459) + (hbc_us x (Int32.ofNat 2) &&& Int32.ofNat 858993459)
def hbc3 (x : Int32) : Int32 := (x + hbc_us x (Int32.ofNat 4)) &&& Int32.ofNat 252645135
def hbc4 (x : Int32) : Int32 := x + hbc_us x (Int32.ofNat 8)
def hbc5 (x : Int32) : Int32 := x + hbc_us x (Int32.ofNat 16)
def hbc (x : Int32) : Int32 := hbc5 (hbc4 (hbc3 (hbc2 (hbc1 x)))) &&& Int32.ofNat 63
theorem hbc_all : (List.range 256).all (fun n => decide (0 ≤ (hbc (Int32.ofNat n)).toInt ∧ (hbc (Int32.ofNat n)).toInt ≤ 8)) = true := by decide +kernel
theorem hbc_le {x : Int32} (h0 : 0 ≤ x.toInt) (h1 : x.toInt ≤ 255) : 0 ≤ (hbc x).toInt ∧ (hbc x).toInt ≤ 8 := by
  have e : x = Int32.ofNat x.toInt.toNat := by
    apply Int32.toInt_inj.mp
    rw [hn_c (n := x.toInt.toNat) rfl (by omega)]
    omega
  have := List.all_eq_true.mp hbc_all x.toInt.toNat (List.mem_range.mpr (by omega))
  rw [← e] at this
  exact of_decide_eq_true this
theorem hX242 {d : Nat} {A : hs_A} (a1 : Int32) : hxC (d + 1) 242 hm_m242 [.int a1] A (fun r A' => A = A' ∧ ∃ z : Int32, r = some (.int z) ∧ (a1.toInt < 0 ∨ 255 < a1.toInt ∨ (0 ≤ z.toInt ∧ z.toInt ≤ 8))) := by
  have key : ∀ z, z = hbc a1 → (a1.toInt < 0 ∨ 255 < a1.toInt ∨ (0 ≤ z.toInt ∧ z.toInt ≤ 8)) := by
    intro z hz
    rw [hz]
    by_cases h0 : a1.toInt < 0
    · exact Or.inl h0
    · by_cases h1 : 255 < a1.toInt
      · exact Or.inr (Or.inl h1)
      · exact Or.inr (Or.inr (hbc_le (by omega) (by omega)))
  refine hxC.of (by rfl) ?_
  refine hxa_iload_n (by rfl) rfl ?_
  refine hxa_iload_n (by rfl) rfl ?_
  refine hxa_iconst (by rfl) rfl ?_
  refine hxa_iushr (by rfl) ?_
  refine hxa_ldc_w (by rfl) rfl ?_
  refine hxa_iand (by rfl) ?_
  refine hxa_isub (by rfl) (hn_top (fun z1 e1 => ?_))
  refine hxa_s1 (by rfl) (Or.inl ⟨_, rfl, rfl⟩) rfl ?_
  refine hxa_iload_n (by rfl) rfl ?_
  refine hxa_ldc_w (by rfl) rfl ?_
  refine hxa_iand (by rfl) ?_
  refine hxa_iload_n (by rfl) rfl ?_
  refine hxa_iconst (by rfl) rfl ?_
  refine hxa_iushr (by rfl) ?_
  refine hxa_ldc_w (by rfl) rfl ?_
  refine hxa_iand (by rfl) ?_
  refine hxa_iadd (by rfl) (hn_top (fun z2 e2 => ?_))
  refine hxa_s1 (by rfl) (Or.inl ⟨_, rfl, rfl⟩) rfl ?_
  refine hxa_iload_n (by rfl) rfl ?_
  refine hxa_iload_n (by rfl) rfl ?_
  refine hxa_iconst (by rfl) rfl ?_
  refine hxa_iushr (by rfl) ?_
  refine hxa_iadd (by rfl) ?_
  refine hxa_ldc_w (by rfl) rfl ?_
  refine hxa_iand (by rfl) (hn_top (fun z3 e3 => ?_))
  refine hxa_s1 (by rfl) (Or.inl ⟨_, rfl, rfl⟩) rfl ?_
  refine hxa_iload_n (by rfl) rfl ?_
  refine hxa_iload_n (by rfl) rfl ?_
  refine hxa_bipush (by rfl) rfl ?_
  refine hxa_iushr (by rfl) ?_
  refine hxa_iadd (by rfl) (hn_top (fun z4 e4 => ?_))
  refine hxa_s1 (by rfl) (Or.inl ⟨_, rfl, rfl⟩) rfl ?_
  refine hxa_iload_n (by rfl) rfl ?_
  refine hxa_iload_n (by rfl) rfl ?_
  refine hxa_bipush (by rfl) rfl ?_
  refine hxa_iushr (by rfl) ?_
  refine hxa_iadd (by rfl) (hn_top (fun z5 e5 => ?_))
  refine hxa_s1 (by rfl) (Or.inl ⟨_, rfl, rfl⟩) rfl ?_
  refine hxa_iload_n (by rfl) rfl ?_
  refine hxa_bipush (by rfl) rfl ?_
  refine hxa_iand (by rfl) ?_
  refine hxa_ireturn (by rfl) rfl ⟨rfl, _, rfl, key _ ?_⟩
  have g1 : z1 = hbc1 a1 := e1
  have g2 : z2 = hbc2 z1 := e2
  have g3 : z3 = hbc3 z2 := e3
  have g4 : z4 = hbc4 z3 := e4
  have g5 : z5 = hbc5 z4 := e5
  rw [g5, g4, g3, g2, g1]
  rfl
theorem hfm_sgn {x y : Int32} (hy : y.toInt = 24) : (x ^^^ y).toInt < 0 ↔ x.toInt < 0 := by
  have e : y = 24 := Int32.toInt_inj.mp (hy.trans (by decide))
  subst e
  have m1 : ∀ w : Int32, w.toInt < 0 ↔ w.toBitVec.msb = true := fun w => by
    rw [BitVec.msb_eq_toInt]
    exact decide_eq_true_iff.symm
  rw [m1, m1, Int32.toBitVec_xor, BitVec.msb_xor]
  have : (24 : Int32).toBitVec.msb = false := by decide
  rw [this]
  simp
theorem hfm_neg {x y : Int32} (hx : x.toInt < 0) (hy : y.toInt = 24) : -23 ≤ (x - x / y * y).toInt ∧ (x - x / y * y).toInt ≤ 0 := by
  have e : y = 24 := Int32.toInt_inj.mp (hy.trans (by decide))
  have hd : (x / y).toInt = x.toInt.tdiv y.toInt := Int32.toInt_div_of_ne_right _ _ (by rw [e]; decide)
  have e2 : x.toInt.tdiv 24 = -((-x.toInt) / 24) := by
    have := Int.neg_tdiv (-x.toInt) 24
    rw [Int.neg_neg] at this
    rw [this, Int.tdiv_eq_ediv_of_nonneg (by omega)]
  rw [hy, e2] at hd
  have rx := hn_rng x
  have hm : (x / y * y).toInt = (x / y).toInt * y.toInt := hn_mul rfl (by rw [hd, hy]; omega) (by rw [hd, hy]; omega)
  rw [hd, hy] at hm
  have := hn_sub (z := x - x / y * y) rfl (by rw [hm]; omega) (by rw [hm]; omega)
  rw [hm] at this
  omega
theorem hX243 {d : Nat} {A : hs_A} (a1 a2 : Int32) (x0 : ¬ a2.toInt = 0) : hxC (d + 1) 243 hm_m243 [.int a1, .int a2] A (fun r A' => A = A' ∧ ∃ z : Int32, r = some (.int z) ∧ (¬ a2.toInt = 24 ∨ (0 ≤ z.toInt ∧ z.toInt ≤ 23))) := by
  refine hxC.of (by rfl) ?_
  refine hxa_iload_n (by rfl) rfl ?_
  refine hxa_iload_n (by rfl) rfl ?_
  refine hxa_irem (by rfl) (hn_nz x0) (hn_top (fun z1 e1 => ?_))
  refine hxa_s1 (by rfl) (Or.inl ⟨_, rfl, rfl⟩) rfl ?_
  refine hxa_iload_n (by rfl) rfl ?_
  refine hxa_iload_n (by rfl) rfl ?_
  refine hxa_ixor (by rfl) (hn_top (fun z2 e2 => ?_))
  refine hxj_zge (by rfl) rfl (fun q => ?_) (fun q => ?_)
  · refine hxa_iload_n (by rfl) rfl ?_
    refine hxa_ireturn (by rfl) rfl ⟨rfl, _, rfl, ?_⟩
    by_cases h : a2.toInt = 24
    · right
      have s := hfm_sgn (x := a1) h
      rw [← e2] at s
      have := hn_rem (x := a1) (y := a2) (by omega) (by omega)
      rw [← e1, h] at this
      omega
    · exact Or.inl h
  · refine hxa_iload_n (by rfl) rfl ?_
    have key : a2.toInt = 24 → -23 ≤ z1.toInt ∧ z1.toInt ≤ 0 := fun h => by
      have s := hfm_sgn (x := a1) h
      rw [← e2] at s
      rw [e1]
      exact hfm_neg (by omega) h
    refine hxj_zeq (by rfl) rfl (fun q2 => ?_) (fun q2 => ?_)
    · refine hxa_iload_n (by rfl) rfl ?_
      exact hxa_ireturn (by rfl) rfl ⟨rfl, _, rfl, by omega⟩
    · refine hxa_iload_n (by rfl) rfl ?_
      refine hxa_iload_n (by rfl) rfl ?_
      refine hxa_iadd (by rfl) (hn_top (fun z3 e3 => ?_))
      refine hxa_ireturn (by rfl) rfl ⟨rfl, _, rfl, ?_⟩
      by_cases h : a2.toInt = 24
      · right
        have k := key h
        have := hn_add e3 (by omega) (by omega)
        omega
      · exact Or.inl h
theorem hX246 {d : Nat} {Q : Nat} {Bn Br : Int} {A0 A : hs_A} {C m : Nat} {a2 : Int32} (hA : hJ Q Bn Br A0 A) (hC : hc_get hs_sh C = some (0, 1, [m])) (hm : m < 100000) (hx : hb_ok (hb_a C) a2) (hr : hr_a Q C = true) (hq' : hq Q C = true) : hxC (d + 1) 246 hm_m246 [.ref (C + 1), .int a2] A (fun r A' => hJ Q Bn Br A0 A' ∧ r = none) := by
  refine hxC.of (by rfl) ?_
  refine hxa_iconst (by rfl) rfl ?_
  refine hxa_s1 (by rfl) (Or.inl ⟨_, rfl, rfl⟩) rfl ?_
  refine hxa_aload_n (by rfl) rfl ?_
  refine hxa_alen (by rfl) rfl hC (hn_top (fun z ez => ?_))
  have hz : z.toInt = m := hn_c ez (by omega)
  refine hxa_s1 (by rfl) (Or.inl ⟨_, rfl, rfl⟩) rfl ?_
  have L : ∀ (n : Nat) (i : Int32) (A1 : hs_A) (h1 : hJ Q Bn Br A0 A1) (h0 : 0 ≤ i.toInt) (h2 : i.toInt ≤ m) (hn : (m : Int) - i.toInt < n), hxa d none hm_t246 5 [.ref (C + 1), .int a2, .int i, .int z] [] A1 (fun r A' => hJ Q Bn Br A0 A' ∧ r = none) := by
    intro n
    induction n with
    | zero => intro i A1 h1 h0 h2 hn; exact False.elim (by omega)
    | succ n ih =>
      intro i A1 h1 h0 h2 hn
      refine hxa_iload_n (by rfl) rfl ?_
      refine hxa_iload_n (by rfl) rfl ?_
      refine hxj_cge (by rfl) rfl hz (fun q => ?_) (fun q => ?_)
      · exact hxa_return (by rfl) rfl ⟨h1, rfl⟩
      · refine hxa_aload_n (by rfl) rfl ?_
        refine hxa_iload_n (by rfl) rfl ?_
        refine hxa_iload_n (by rfl) rfl ?_
        refine hxj_iast (by rfl) hC rfl (by omega) (by omega) h1 hx hr hq' (fun A2 h2 e2 f2 g2 => ?_)
        refine hxj_iinc (by rfl) rfl rfl hk_1 (by omega) (by omega) (fun _ => rfl) (fun i2 e => ?_)
        refine hxa_goto (by rfl) ?_
        exact ih i2 A2 h2 (by omega) (by omega) (by omega)
  have k0 := hk_0
  exact L (m + 1) _ A hA (by omega) (by omega) (by omega)
theorem hsame {A : hs_A} {i : Nat} {j j' v v' : Int32} (e : A.2.1 i j.toNatClampNeg = v) (e' : A.2.1 i j'.toNatClampNeg = v') (h : j.toInt = j'.toInt) : v = v' := by
  have : j = j' := Int32.toInt_inj.mp h
  subst this
  exact e.symm.trans e'
theorem hJ.pos {Q : Nat} {Bn Br : Int} {A0 A : hs_A} (h : hJ Q Bn Br A0 A) : 0 ≤ Bn ∧ 0 ≤ Br := by
  have a := h.2.1.1
  have b := h.2.1.2.1
  omega
theorem hfr {Q : Nat} {Bn Br : Int} {A0 A : hs_A} {i j : Nat} {v : Int32} (hA : hJ Q Bn Br A0 A) (h : hr_a Q i = false) (e : A.2.1 i j = v) : A0.2.1 i j = v := (hA.2.2.1.2.1 i h j).symm.trans e
theorem hfrf {Q : Nat} {Bn Br : Int} {A0 A : hs_A} {i k : Nat} {v : Int32} (hA : hJ Q Bn Br A0 A) (h : hr_f Q i k = false) (e : A.1 i k = v) : A0.1 i k = v := (hA.2.2.1.1 i k h).symm.trans e
theorem hWn {K I : Nat → Int32} {n c h n' c' h' : Nat} (w : hW K I n c h) (e1 : n = n') (e2 : c = c') (e3 : h = h') : hW K I n' c' h' := by
  subst e1
  subst e2
  subst e3
  exact w
theorem hWc {Bn Br : Int} {A0 A : hs_A} {b c z t : Int32} (hA : hJ 0 Bn Br A0 A) (u : hW (A0.2.1 390) (A0.2.1 391) (b.toInt - c.toInt).toNat c.toInt.toNat t.toInt.toNat) (h0 : 0 ≤ c.toInt) (h1 : c.toInt < b.toInt) (e : A.2.1 390 c.toNatClampNeg = z) : (z.toInt = 0 ∧ hW (A0.2.1 390) (A0.2.1 391) (b.toInt - (c.toInt + 1)).toNat (c.toInt + 1).toNat (t.toInt.toNat + 1)) ∨ (z.toInt = 1 ∧ (0 ≤ (A.2.1 391 c.toNatClampNeg).toInt ∧ (A.2.1 391 c.toNatClampNeg).toInt ≤ 8) ∧ hW (A0.2.1 390) (A0.2.1 391) (b.toInt - (c.toInt + 1)).toNat (c.toInt + 1).toNat (t.toInt.toNat + 1)) ∨ ((2 ≤ z.toInt ∧ z.toInt ≤ 5) ∧ 2 ≤ t.toInt.toNat ∧ hW (A0.2.1 390) (A0.2.1 391) (b.toInt - (c.toInt + 1)).toNat (c.toInt + 1).toNat (t.toInt.toNat - 1)) := by
  have e1 : (b.toInt - c.toInt).toNat = (b.toInt - (c.toInt + 1)).toNat + 1 := by omega
  have e2 : c.toNatClampNeg = c.toInt.toNat := rfl
  have e3 : (c.toInt + 1).toNat = c.toInt.toNat + 1 := by omega
  have f1 : A.2.1 391 c.toNatClampNeg = A0.2.1 391 c.toNatClampNeg := hA.2.2.1.2.1 391 rfl _
  have f0 := hfr hA rfl e
  rw [e1] at u
  rw [f1, e2, e3]
  rw [e2] at f0
  rw [← f0]
  exact u
theorem hZc {Bn Br : Int} {A0 A : hs_A} {a k b z : Int32} (hA : hJ 0 Bn Br A0 A) (h0 : 0 ≤ a.toInt) (ha : a.toInt = 4 * (A0.1 367 18).toInt + k.toInt) (hk0 : 0 ≤ k.toInt) (hk1 : k.toInt ≤ 3) (e : A.2.1 384 a.toNatClampNeg = z) (hb : (A0.2.1 383 a.toNatClampNeg).toInt ≤ b.toInt) (hz : b.toInt < z.toInt) : (0 ≤ b.toInt ∧ b.toInt < 260) ∧ (¬ (A0.2.1 385 b.toNatClampNeg).toInt = 0 → hWt (A0.1 367 18).toInt A0 (A0.2.1 386 b.toNatClampNeg) (A0.2.1 387 b.toNatClampNeg) ∧ hWt (A0.1 367 18).toInt A0 (A0.2.1 387 b.toNatClampNeg) (A0.2.1 388 b.toNatClampNeg)) ∧ hWt (A0.1 367 18).toInt A0 (A0.2.1 388 b.toNatClampNeg) (A0.2.1 389 b.toNatClampNeg) := by
  have hn := hn_cn h0
  have hlv := hA.2.2.2.1.2.2.2.2
  have f := hfr hA rfl e
  rcases hA.2.2.2.1.2.2.2.1 a.toNatClampNeg (by omega) (by omega) with q | q
  · rw [f] at q
    omega
  · have hb0 : 0 ≤ b.toInt := by omega
    have hnb := hn_cn hb0
    have q2 := q.2.2 b.toNatClampNeg (by omega) (by rw [f]; omega)
    have q1 := q.2.1
    rw [f] at q1
    exact ⟨⟨hb0, by omega⟩, q2⟩
theorem hn_lt24 {j : Int32} {ej : Int} (hj : j.toInt = ej) (h0 : 0 ≤ ej) (h1 : ej < 24) : j.toNatClampNeg < 24 := by
  show j.toInt.toNat < 24
  omega
theorem hY1 {d : Nat} {Bn Br : Int} {A0 A : hs_A} (hA : hJ 0 Bn Br A0 A)  {T : Nat} (hT : hTT T) (eT : A0.2.2.2 0 3 = T + 1) {L : Nat} (hL : hLL L) (a3 : Int32) (p3 : 0 ≤ a3.toInt) (q3 : a3.toInt ≤ 9) (a4 : Int32) {P : Option Value → hs_A → Prop} (hP : ∀ (r : Option Value) (A' : hs_A), (hJ 0 Bn Br A0 A' ∧ r = none) → P r A') : hxa (d + 1) none hm_t1 0 [.ref 324, .ref (T + 1), .ref (L + 1), .int a3, .int a4] [] A P := by
  have k0 := hk_0
  have k4294967295 := hk_4294967295
  refine hxa_aload_n (by rfl) rfl ?_
  refine hxa_aload_n (by rfl) rfl ?_
  refine hxa_get (v := .ref (T + 5)) (by rfl) (hsT hT) (by rfl) (hvT hT (by omega)) ?_
  refine hxj_putLaws (by rfl) hA hT (fun A1 hA1 eA1 fA1 => ?_)
  refine hxa_aload_n (by rfl) rfl ?_
  refine hxa_get (v := .ref 325) (by rfl) (by rfl) (by rfl) rfl ?_
  refine hxa_iconst (by rfl) rfl ?_
  refine hxa_iload_n (by rfl) rfl ?_
  refine hxj_iast (by rfl) (by rfl) hk_0 (by omega) (by omega) hA1 (hbokN (by rfl)) (by rfl) (by rfl) (fun A2 hA2 eA2 fA2 gA2 => ?_)
  refine hxa_aload_n (by rfl) rfl ?_
  refine hxa_get (v := .ref 325) (by rfl) (by rfl) (by rfl) rfl ?_
  refine hxa_iconst (by rfl) rfl ?_
  refine hxa_iload (by rfl) rfl ?_
  refine hxa_bipush (by rfl) rfl ?_
  refine hxj_iremU (by rfl) hk_24 (by omega) (fun z3 => ?_)
  refine hxj_iast (by rfl) (by rfl) hk_1 (by omega) (by omega) hA2 (hbokN (by rfl)) (by rfl) (by rfl) (fun A4 hA4 eA4 fA4 gA4 => ?_)
  refine hxa_aload_n (by rfl) rfl ?_
  refine hxa_get (v := .ref 325) (by rfl) (by rfl) (by rfl) rfl ?_
  refine hxa_iconst (by rfl) rfl ?_
  refine hxa_iload (by rfl) rfl ?_
  refine hxa_bipush (by rfl) rfl ?_
  refine hxj_idivU (by rfl) hk_24 (by omega) (fun z5 => ?_)
  refine hxj_iast (by rfl) (by rfl) hk_2 (by omega) (by omega) hA4 (hbokN (by rfl)) (by rfl) (by rfl) (fun A6 hA6 eA6 fA6 gA6 => ?_)
  refine hxa_aload_n (by rfl) rfl ?_
  refine hxa_get (v := .ref 325) (by rfl) (by rfl) (by rfl) rfl ?_
  refine hxa_iconst (by rfl) rfl ?_
  refine hxa_aload_n (by rfl) rfl ?_
  refine hxa_get (v := .ref (L + 2)) (by rfl) (hsL hL) (by rfl) (hvL hL (by omega)) ?_
  refine hxa_iload_n (by rfl) rfl ?_
  refine hxj_iald (by rfl) (hsLa hL (by omega) (by omega)) rfl (by omega) (by omega) (fun z7 ez7 => ?_)
  refine hxa_call2 (by rfl) (by decide) (by rfl) (by rfl) (by rfl) (hX242 (d := d + 0)  z7) ?_
  rintro _ _ ⟨rfl, z8, rfl, fz8⟩
  refine hxj_iast (by rfl) (by rfl) hk_4 (by omega) (by omega) hA6 (hbokN (by rfl)) (by rfl) (by rfl) (fun A9 hA9 eA9 fA9 gA9 => ?_)
  refine hxa_aload_n (by rfl) rfl ?_
  refine hxa_get (v := .ref 325) (by rfl) (by rfl) (by rfl) rfl ?_
  refine hxa_iconst (by rfl) rfl ?_
  refine hxa_aload_n (by rfl) rfl ?_
  refine hxa_get (v := .ref (L + 3)) (by rfl) (hsL hL) (by rfl) (hvL hL (by omega)) ?_
  refine hxa_iload_n (by rfl) rfl ?_
  refine hxj_iald (by rfl) (hsLa hL (by omega) (by omega)) rfl (by omega) (by omega) (fun z10 ez10 => ?_)
  refine hxj_iast (by rfl) (by rfl) hk_5 (by omega) (by omega) hA9 (hbokN (by rfl)) (by rfl) (by rfl) (fun A11 hA11 eA11 fA11 gA11 => ?_)
  refine hxa_aload_n (by rfl) rfl ?_
  refine hxa_get (v := .ref 325) (by rfl) (by rfl) (by rfl) rfl ?_
  refine hxa_bipush (by rfl) rfl ?_
  refine hxa_aload_n (by rfl) rfl ?_
  refine hxj_getB (by rfl) (hsT hT) (by rfl) hA11 (hbT_4 hT) (fun z12 ez12 fz12 gz12 => ?_)
  refine hxj_iast (by rfl) (by rfl) hk_7 (by omega) (by omega) hA11 (hbokN (by rfl)) (by rfl) (by rfl) (fun A13 hA13 eA13 fA13 gA13 => ?_)
  refine hxa_aload_n (by rfl) rfl ?_
  refine hxa_get (v := .ref 325) (by rfl) (by rfl) (by rfl) rfl ?_
  refine hxa_bipush (by rfl) rfl ?_
  refine hxa_aload_n (by rfl) rfl ?_
  refine hxa_get (v := .ref (L + 4)) (by rfl) (hsL hL) (by rfl) (hvL hL (by omega)) ?_
  refine hxa_iload_n (by rfl) rfl ?_
  refine hxj_iald (by rfl) (hsLa hL (by omega) (by omega)) rfl (by omega) (by omega) (fun z14 ez14 => ?_)
  refine hxa_call2 (by rfl) (by decide) (by rfl) (by rfl) (by rfl) (hX242 (d := d + 0)  z14) ?_
  rintro _ _ ⟨rfl, z15, rfl, fz15⟩
  refine hxj_iast (by rfl) (by rfl) hk_8 (by omega) (by omega) hA13 (hbokN (by rfl)) (by rfl) (by rfl) (fun A16 hA16 eA16 fA16 gA16 => ?_)
  refine hxa_aload_n (by rfl) rfl ?_
  refine hxa_get (v := .ref 326) (by rfl) (by rfl) (by rfl) rfl ?_
  refine hxa_iconst (by rfl) rfl ?_
  refine hxa_call2 (by rfl) (by decide) (by rfl) (by rfl) (by rfl) (hX246 (d := d + 0) hA16 (C := 325) (by rfl) (by omega) (hbokN (by rfl)) (by rfl) (by rfl)) ?_
  rintro _ A17 ⟨hA17, rfl⟩
  refine hxa_aload_n (by rfl) rfl ?_
  refine hxa_get (v := .ref 327) (by rfl) (by rfl) (by rfl) rfl ?_
  refine hxa_iconst (by rfl) rfl ?_
  refine hxa_call2 (by rfl) (by decide) (by rfl) (by rfl) (by rfl) (hX246 (d := d + 0) hA17 (C := 326) (by rfl) (by omega) (hbokN (by rfl)) (by rfl) (by rfl)) ?_
  rintro _ A18 ⟨hA18, rfl⟩
  refine hxa_aload_n (by rfl) rfl ?_
  refine hxa_get (v := .ref 328) (by rfl) (by rfl) (by rfl) rfl ?_
  refine hxa_iconst (by rfl) rfl ?_
  refine hxa_call2 (by rfl) (by decide) (by rfl) (by rfl) (by rfl) (hX246 (d := d + 0) hA18 (C := 327) (by rfl) (by omega) (hbokN (by rfl)) (by rfl) (by rfl)) ?_
  rintro _ A19 ⟨hA19, rfl⟩
  refine hxa_aload_n (by rfl) rfl ?_
  refine hxa_iconst (by rfl) rfl ?_
  refine hxj_putI (by rfl) (by rfl) (by rfl) (by rfl) hA19 (hbok (by rfl) hk_4294967295 (by omega) (by omega)) (by rfl) (by rfl) (fun A20 hA20 eA20 fA20 => ?_)
  exact hxa_return (by rfl) rfl (hP _ _ ⟨hA20, rfl⟩)
theorem hX1 {d : Nat} {Bn Br : Int} {A0 A : hs_A} (hA : hJ 0 Bn Br A0 A)  {T : Nat} (hT : hTT T) (eT : A0.2.2.2 0 3 = T + 1) {L : Nat} (hL : hLL L) (a3 : Int32) (p3 : 0 ≤ a3.toInt) (q3 : a3.toInt ≤ 9) (a4 : Int32) : hxC (d + 2) 1 hm_m1 [.ref 324, .ref (T + 1), .ref (L + 1), .int a3, .int a4] A (fun r A' => hJ 0 Bn Br A0 A' ∧ r = none) := hxC.of (by rfl) (hY1 hA hT eT hL a3 p3 q3 a4 (fun r A' h => h))
theorem hY14 {d : Nat} {Bn Br : Int} {A0 A : hs_A} (hA : hJ 0 Bn Br A0 A)  {T : Nat} (hT : hTT T) (a1 : Int32) (p1 : 0 ≤ a1.toInt) (q1 : a1.toInt ≤ 3) (a3 : Int32) (a4 : Int32) {P : Option Value → hs_A → Prop} (hP : ∀ (r : Option Value) (A' : hs_A), (hJ 0 Bn Br A0 A' ∧ ∃ z : Int32, r = some (.int z)) → P r A') : hxa (d + 0) (some (.int)) hm_t14 0 [.ref (T + 5), .int a1, .ref 325, .int a3, .int a4, .retAddr 0, .retAddr 0, .retAddr 0, .retAddr 0, .retAddr 0, .retAddr 0] [] A P := by
  have k0 := hk_0
  have L21 : ∀ (m21 : Nat) (x21_5 : Int32) (x21_6 : Int32) (x21_7 : Value) (x21_8 : Value) (x21_9 : Value) (x21_10 : Value) (Ac21 : hs_A) (hx21_7 : hc_two (some x21_7) = false) (hx21_8 : hc_two (some x21_8) = false) (hx21_9 : hc_two (some x21_9) = false) (hAc21 : hJ 0 Bn Br A0 Ac21) (bx21_5 : 0 ≤ x21_5.toInt) (cx21_5 : x21_5.toInt ≤ 16) (hm21 : 2147483647 - x21_6.toInt < (m21 : Int)), hxa (d + 0) (some (.int)) hm_t14 21 [.ref (T + 5), .int a1, .ref 325, .int a3, .int a4, .int x21_5, .int x21_6, x21_7, x21_8, x21_9, x21_10] [] Ac21 P := by
    intro m21
    induction m21 with
    | zero => intro x21_5 x21_6 x21_7 x21_8 x21_9 x21_10 Ac21 hx21_7 hx21_8 hx21_9 hAc21 bx21_5 cx21_5 hm21; have := hn_rng x21_6; exact False.elim (by omega)
    | succ m21 ih21 =>
      intro x21_5 x21_6 x21_7 x21_8 x21_9 x21_10 Ac21 hx21_7 hx21_8 hx21_9 hAc21 bx21_5 cx21_5 hm21
      refine hxa_iload (by rfl) rfl ?_
      refine hxj_zlt (by rfl) rfl (fun q1 => ?_) (fun q1 => ?_)
      ·
        refine hxa_iconst (by rfl) rfl ?_
        exact hxa_ireturn (by rfl) rfl (hP _ _ ⟨hAc21, _, rfl⟩)
      ·
        refine hxa_iload (by rfl) rfl ?_
        refine hxa_aload_n (by rfl) rfl ?_
        refine hxj_getB (by rfl) (hsT4 hT) (by rfl) hAc21 (hbT4_4 hT) (fun z2 ez2 fz2 gz2 => ?_)
        have rgx21_6 := hn_rng x21_6
        refine hxj_cge (by rfl) rfl rfl (fun q3 => ?_) (fun q3 => ?_)
        ·
          refine hxa_iconst (by rfl) rfl ?_
          exact hxa_ireturn (by rfl) rfl (hP _ _ ⟨hAc21, _, rfl⟩)
        ·
          refine hxa_aload_n (by rfl) rfl ?_
          refine hxa_get (v := .ref (T + 6)) (by rfl) (hsT4 hT) (by rfl) (hvT hT (by omega)) ?_
          refine hxa_iload (by rfl) rfl ?_
          refine hxj_iald (by rfl) (hsT5 hT) rfl (by omega) (by omega) (fun z4 ez4 => ?_)
          refine hxa_bipush (by rfl) rfl ?_
          refine hxa_iand (by rfl) (hn_top (fun z5 ez5 => ?_))
          have fz5 : 0 ≤ z5.toInt ∧ z5.toInt ≤ 7 := by
            have q := hn_and (x := z4) (y := (Int32.ofNat 7)) (by rw [hk_7]; decide)
            rw [← ez5, hk_7] at q
            exact q
          refine hxa_s1 (by rfl) (Or.inr ⟨_, rfl, rfl⟩) rfl ?_
          refine hxa_aload_n (by rfl) rfl ?_
          refine hxa_get (v := .ref (T + 6)) (by rfl) (hsT4 hT) (by rfl) (hvT hT (by omega)) ?_
          refine hxa_iload (by rfl) rfl ?_
          refine hxj_iald (by rfl) (hsT5 hT) rfl (by omega) (by omega) (fun z6 ez6 => ?_)
          refine hxa_iconst (by rfl) rfl ?_
          refine hxa_ishr (by rfl) (hn_top (fun z7 ez7 => ?_))
          have fz7 : ¬ z5.toInt = 1 ∨ 0 ≤ z7.toInt := hworth (hAc21.steps hT _) ez4 ez6 ez5 ez7
          refine hxa_s1 (by rfl) (Or.inr ⟨_, rfl, rfl⟩) rfl ?_
          refine hxa_iload (by rfl) rfl ?_
          refine hxj_zeq (by rfl) rfl (fun q8 => ?_) (fun q8 => ?_)
          ·
            refine hxa_iload (by rfl) rfl ?_
            refine hxa_bipush (by rfl) rfl ?_
            refine hxj_cge (by rfl) rfl hk_16 (fun q9 => ?_) (fun q9 => ?_)
            ·
              refine hxa_iconst (by rfl) rfl ?_
              exact hxa_ireturn (by rfl) rfl (hP _ _ ⟨hAc21, _, rfl⟩)
            ·
              refine hxa_iload (by rfl) rfl ?_
              refine hxa_iconst (by rfl) rfl ?_
              refine hxj_cne (by rfl) rfl hk_1 (fun q10 => ?_) (fun q10 => False.elim (by omega))
              refine hxa_aload_n (by rfl) rfl ?_
              refine hxa_get (v := .ref (T + 9)) (by rfl) (hsT4 hT) (by rfl) (hvT hT (by omega)) ?_
              refine hxa_iload (by rfl) rfl ?_
              refine hxa_iload (by rfl) rfl ?_
              refine hxj_zne (by rfl) rfl (fun q11 => False.elim (by omega)) (fun q11 => ?_)
              refine hxa_iload (by rfl) rfl ?_
              refine hxa_goto (by rfl) ?_
              refine hxj_iast (by rfl) (hsT8 hT) rfl (by omega) (by omega) hAc21 (hbokN (haT8 hT)) (hrT8 hT) (hqT8 hT) (fun A12 hA12 eA12 fA12 gA12 => ?_)
              refine hxj_iinc (by rfl) rfl rfl hk_1 (by omega) (by omega) (fun _ => rfl) (fun z13 ez13 => ?_)
              refine hxa_goto (by rfl) ?_
              refine hxj_iinc (by rfl) rfl rfl hk_1 (by omega) (by omega) (fun _ => rfl) (fun z14 ez14 => ?_)
              refine hxa_goto (by rfl) ?_
              exact ih21 z13 z14 (.int z5) (.int z7) (x21_9) (x21_10) A12 rfl rfl hx21_9 hA12 (by omega) (by omega) (by omega)
          ·
            refine hxa_iload (by rfl) rfl ?_
            refine hxa_iconst (by rfl) rfl ?_
            refine hxj_cne (by rfl) rfl hk_1 (fun q15 => ?_) (fun q15 => ?_)
            ·
              refine hxa_iload (by rfl) rfl ?_
              refine hxa_bipush (by rfl) rfl ?_
              refine hxj_cne (by rfl) rfl hk_7 (fun q16 => ?_) (fun q16 => ?_)
              ·
                refine hxa_iload (by rfl) rfl ?_
                refine hxa_iconst (by rfl) rfl ?_
                refine hxj_clt (by rfl) rfl hk_2 (fun q17 => ?_) (fun q17 => ?_)
                ·
                  refine hxa_iconst (by rfl) rfl ?_
                  exact hxa_ireturn (by rfl) rfl (hP _ _ ⟨hAc21, _, rfl⟩)
                ·
                  refine hxa_iload (by rfl) rfl ?_
                  refine hxa_iconst (by rfl) rfl ?_
                  refine hxj_cne (by rfl) rfl hk_5 (fun q18 => ?_) (fun q18 => ?_)
                  ·
                    refine hxj_iinc (by rfl) rfl rfl hk_4294967295 (by omega) (by omega) (fun _ => rfl) (fun z19 ez19 => ?_)
                    refine hxa_aload_n (by rfl) rfl ?_
                    refine hxa_get (v := .ref (T + 9)) (by rfl) (hsT4 hT) (by rfl) (hvT hT (by omega)) ?_
                    refine hxa_iload (by rfl) rfl ?_
                    refine hxa_iconst (by rfl) rfl ?_
                    refine hxj_isub (by rfl) rfl hk_1 (by omega) (by omega) (fun z20 ez20 => ?_)
                    refine hxj_iald (by rfl) (hsT8 hT) rfl (by omega) (by omega) (fun z21 ez21 => ?_)
                    refine hxa_s1 (by rfl) (Or.inr ⟨_, rfl, rfl⟩) rfl ?_
                    refine hxa_aload_n (by rfl) rfl ?_
                    refine hxa_get (v := .ref (T + 9)) (by rfl) (hsT4 hT) (by rfl) (hvT hT (by omega)) ?_
                    refine hxa_iload (by rfl) rfl ?_
                    refine hxj_iald (by rfl) (hsT8 hT) rfl (by omega) (by omega) (fun z22 ez22 => ?_)
                    refine hxa_s1 (by rfl) (Or.inr ⟨_, rfl, rfl⟩) rfl ?_
                    refine hxa_iload (by rfl) rfl ?_
                    by_cases q23 : z5.toInt = 2
                    ·
                      refine hxa_tabIn (by rfl) (by omega) (by omega) (by rw [q23]; rfl) (tgt := 224) (by rfl) ?_
                      refine hxa_aload_n (by rfl) rfl ?_
                      refine hxa_get (v := .ref (T + 9)) (by rfl) (hsT4 hT) (by rfl) (hvT hT (by omega)) ?_
                      refine hxa_iload (by rfl) rfl ?_
                      refine hxa_iconst (by rfl) rfl ?_
                      refine hxj_isub (by rfl) rfl hk_1 (by omega) (by omega) (fun z24 ez24 => ?_)
                      refine hxa_iload (by rfl) rfl ?_
                      refine hxa_iload (by rfl) rfl ?_
                      refine hxj_iaddU (by rfl) (fun z25 => ?_)
                      refine hxj_iast (by rfl) (hsT8 hT) rfl (by omega) (by omega) hAc21 (hbokN (haT8 hT)) (hrT8 hT) (hqT8 hT) (fun A26 hA26 eA26 fA26 gA26 => ?_)
                      refine hxa_goto (by rfl) ?_
                      refine hxj_iinc (by rfl) rfl rfl hk_1 (by omega) (by omega) (fun _ => rfl) (fun z27 ez27 => ?_)
                      refine hxa_goto (by rfl) ?_
                      exact ih21 z19 z27 (.int z5) (.int z7) (.int z21) (.int z22) A26 rfl rfl rfl hA26 (by omega) (by omega) (by omega)
                    ·
                      by_cases q28 : z5.toInt = 3
                      ·
                        refine hxa_tabIn (by rfl) (by omega) (by omega) (by rw [q28]; rfl) (tgt := 241) (by rfl) ?_
                        refine hxa_aload_n (by rfl) rfl ?_
                        refine hxa_get (v := .ref (T + 9)) (by rfl) (hsT4 hT) (by rfl) (hvT hT (by omega)) ?_
                        refine hxa_iload (by rfl) rfl ?_
                        refine hxa_iconst (by rfl) rfl ?_
                        refine hxj_isub (by rfl) rfl hk_1 (by omega) (by omega) (fun z29 ez29 => ?_)
                        refine hxa_iload (by rfl) rfl ?_
                        refine hxa_iload (by rfl) rfl ?_
                        refine hxj_isubU (by rfl) (fun z30 => ?_)
                        refine hxj_iast (by rfl) (hsT8 hT) rfl (by omega) (by omega) hAc21 (hbokN (haT8 hT)) (hrT8 hT) (hqT8 hT) (fun A31 hA31 eA31 fA31 gA31 => ?_)
                        refine hxa_goto (by rfl) ?_
                        refine hxj_iinc (by rfl) rfl rfl hk_1 (by omega) (by omega) (fun _ => rfl) (fun z32 ez32 => ?_)
                        refine hxa_goto (by rfl) ?_
                        exact ih21 z19 z32 (.int z5) (.int z7) (.int z21) (.int z22) A31 rfl rfl rfl hA31 (by omega) (by omega) (by omega)
                      ·
                        by_cases q33 : z5.toInt = 4
                        ·
                          refine hxa_tabIn (by rfl) (by omega) (by omega) (by rw [q33]; rfl) (tgt := 258) (by rfl) ?_
                          refine hxa_aload_n (by rfl) rfl ?_
                          refine hxa_get (v := .ref (T + 9)) (by rfl) (hsT4 hT) (by rfl) (hvT hT (by omega)) ?_
                          refine hxa_iload (by rfl) rfl ?_
                          refine hxa_iconst (by rfl) rfl ?_
                          refine hxj_isub (by rfl) rfl hk_1 (by omega) (by omega) (fun z34 ez34 => ?_)
                          refine hxa_iload (by rfl) rfl ?_
                          refine hxa_iload (by rfl) rfl ?_
                          refine hxj_imulU (by rfl) (fun z35 => ?_)
                          refine hxj_iast (by rfl) (hsT8 hT) rfl (by omega) (by omega) hAc21 (hbokN (haT8 hT)) (hrT8 hT) (hqT8 hT) (fun A36 hA36 eA36 fA36 gA36 => ?_)
                          refine hxa_goto (by rfl) ?_
                          refine hxj_iinc (by rfl) rfl rfl hk_1 (by omega) (by omega) (fun _ => rfl) (fun z37 ez37 => ?_)
                          refine hxa_goto (by rfl) ?_
                          exact ih21 z19 z37 (.int z5) (.int z7) (.int z21) (.int z22) A36 rfl rfl rfl hA36 (by omega) (by omega) (by omega)
                        ·
                          by_cases q38 : z5.toInt = 5
                          ·
                            refine hxa_tabIn (by rfl) (by omega) (by omega) (by rw [q38]; rfl) (tgt := 275) (by rfl) ?_
                            refine hxa_aload_n (by rfl) rfl ?_
                            refine hxa_get (v := .ref (T + 9)) (by rfl) (hsT4 hT) (by rfl) (hvT hT (by omega)) ?_
                            refine hxa_iload (by rfl) rfl ?_
                            refine hxa_iconst (by rfl) rfl ?_
                            refine hxj_isub (by rfl) rfl hk_1 (by omega) (by omega) (fun z39 ez39 => ?_)
                            refine hxa_iload (by rfl) rfl ?_
                            refine hxa_iload (by rfl) rfl ?_
                            refine hxj_idivU (by rfl) rfl (by omega) (fun z40 => ?_)
                            refine hxj_iast (by rfl) (hsT8 hT) rfl (by omega) (by omega) hAc21 (hbokN (haT8 hT)) (hrT8 hT) (hqT8 hT) (fun A41 hA41 eA41 fA41 gA41 => ?_)
                            refine hxa_goto (by rfl) ?_
                            refine hxj_iinc (by rfl) rfl rfl hk_1 (by omega) (by omega) (fun _ => rfl) (fun z42 ez42 => ?_)
                            refine hxa_goto (by rfl) ?_
                            exact ih21 z19 z42 (.int z5) (.int z7) (.int z21) (.int z22) A41 rfl rfl rfl hA41 (by omega) (by omega) (by omega)
                          ·
                            refine hxa_tabOut (by rfl) (by omega) (tgt := 292) (by rfl) ?_
                            refine hxj_iinc (by rfl) rfl rfl hk_4294967295 (by omega) (by omega) (fun _ => rfl) (fun z43 ez43 => ?_)
                            refine hxa_iload (by rfl) rfl ?_
                            refine hxa_iload (by rfl) rfl ?_
                            have rgz21 := hn_rng z21
                            have rgz22 := hn_rng z22
                            refine hxj_clt (by rfl) rfl rfl (fun q44 => ?_) (fun q44 => ?_)
                            ·
                              refine hxj_iinc (by rfl) rfl rfl hk_1 (by omega) (by omega) (fun _ => rfl) (fun z45 ez45 => ?_)
                              refine hxa_goto (by rfl) ?_
                              exact ih21 z43 z45 (.int z5) (.int z7) (.int z21) (.int z22) Ac21 rfl rfl rfl hAc21 (by omega) (by omega) (by omega)
                            ·
                              refine hxa_iload (by rfl) rfl ?_
                              refine hxa_iload (by rfl) rfl ?_
                              have rgz7 := hn_rng z7
                              refine hxj_cle (by rfl) rfl rfl (fun q46 => ?_) (fun q46 => ?_)
                              ·
                                refine hxj_iinc (by rfl) rfl rfl hk_1 (by omega) (by omega) (fun _ => rfl) (fun z47 ez47 => ?_)
                                refine hxa_goto (by rfl) ?_
                                exact ih21 z43 z47 (.int z5) (.int z7) (.int z21) (.int z22) Ac21 rfl rfl rfl hAc21 (by omega) (by omega) (by omega)
                              ·
                                refine hxa_iload (by rfl) rfl ?_
                                refine hxa_iconst (by rfl) rfl ?_
                                refine hxj_isub (by rfl) rfl hk_1 (by omega) (by omega) (fun z48 ez48 => ?_)
                                refine hxa_s1 (by rfl) (Or.inr ⟨_, rfl, rfl⟩) rfl ?_
                                refine hxj_iinc (by rfl) rfl rfl hk_1 (by omega) (by omega) (fun _ => rfl) (fun z49 ez49 => ?_)
                                refine hxa_goto (by rfl) ?_
                                exact ih21 z43 z49 (.int z5) (.int z7) (.int z21) (.int z22) Ac21 rfl rfl rfl hAc21 (by omega) (by omega) (by omega)
                  ·
                    refine hxa_aload_n (by rfl) rfl ?_
                    refine hxa_get (v := .ref (T + 9)) (by rfl) (hsT4 hT) (by rfl) (hvT hT (by omega)) ?_
                    refine hxa_iload (by rfl) rfl ?_
                    refine hxa_iconst (by rfl) rfl ?_
                    refine hxj_isub (by rfl) rfl hk_1 (by omega) (by omega) (fun z50 ez50 => ?_)
                    refine hxj_iald (by rfl) (hsT8 hT) rfl (by omega) (by omega) (fun z51 ez51 => ?_)
                    refine hxj_zne (by rfl) rfl (fun q52 => ?_) (fun q52 => ?_)
                    ·
                      refine hxj_iinc (by rfl) rfl rfl hk_4294967295 (by omega) (by omega) (fun _ => rfl) (fun z53 ez53 => ?_)
                      refine hxa_aload_n (by rfl) rfl ?_
                      refine hxa_get (v := .ref (T + 9)) (by rfl) (hsT4 hT) (by rfl) (hvT hT (by omega)) ?_
                      refine hxa_iload (by rfl) rfl ?_
                      refine hxa_iconst (by rfl) rfl ?_
                      refine hxj_isub (by rfl) rfl hk_1 (by omega) (by omega) (fun z54 ez54 => ?_)
                      refine hxj_iald (by rfl) (hsT8 hT) rfl (by omega) (by omega) (fun z55 ez55 => ?_)
                      refine hxa_s1 (by rfl) (Or.inr ⟨_, rfl, rfl⟩) rfl ?_
                      refine hxa_aload_n (by rfl) rfl ?_
                      refine hxa_get (v := .ref (T + 9)) (by rfl) (hsT4 hT) (by rfl) (hvT hT (by omega)) ?_
                      refine hxa_iload (by rfl) rfl ?_
                      refine hxj_iald (by rfl) (hsT8 hT) rfl (by omega) (by omega) (fun z56 ez56 => ?_)
                      have sz56 : z51.toInt = z56.toInt := by rw [hsame ez51 ez56 (by omega)]
                      refine hxa_s1 (by rfl) (Or.inr ⟨_, rfl, rfl⟩) rfl ?_
                      refine hxa_iload (by rfl) rfl ?_
                      by_cases q57 : z5.toInt = 5
                      ·
                        refine hxa_tabIn (by rfl) (by omega) (by omega) (by rw [q57]; rfl) (tgt := 275) (by rfl) ?_
                        refine hxa_aload_n (by rfl) rfl ?_
                        refine hxa_get (v := .ref (T + 9)) (by rfl) (hsT4 hT) (by rfl) (hvT hT (by omega)) ?_
                        refine hxa_iload (by rfl) rfl ?_
                        refine hxa_iconst (by rfl) rfl ?_
                        refine hxj_isub (by rfl) rfl hk_1 (by omega) (by omega) (fun z58 ez58 => ?_)
                        refine hxa_iload (by rfl) rfl ?_
                        refine hxa_iload (by rfl) rfl ?_
                        refine hxj_idivU (by rfl) rfl (by omega) (fun z59 => ?_)
                        refine hxj_iast (by rfl) (hsT8 hT) rfl (by omega) (by omega) hAc21 (hbokN (haT8 hT)) (hrT8 hT) (hqT8 hT) (fun A60 hA60 eA60 fA60 gA60 => ?_)
                        refine hxa_goto (by rfl) ?_
                        refine hxj_iinc (by rfl) rfl rfl hk_1 (by omega) (by omega) (fun _ => rfl) (fun z61 ez61 => ?_)
                        refine hxa_goto (by rfl) ?_
                        exact ih21 z53 z61 (.int z5) (.int z7) (.int z55) (.int z56) A60 rfl rfl rfl hA60 (by omega) (by omega) (by omega)
                      ·
                        exact False.elim (by omega)
                    ·
                      refine hxa_iconst (by rfl) rfl ?_
                      exact hxa_ireturn (by rfl) rfl (hP _ _ ⟨hAc21, _, rfl⟩)
              ·
                refine hxa_iload (by rfl) rfl ?_
                refine hxj_zle (by rfl) rfl (fun q62 => ?_) (fun q62 => ?_)
                ·
                  refine hxa_iconst (by rfl) rfl ?_
                  exact hxa_ireturn (by rfl) rfl (hP _ _ ⟨hAc21, _, rfl⟩)
                ·
                  refine hxa_aload_n (by rfl) rfl ?_
                  refine hxa_get (v := .ref (T + 9)) (by rfl) (hsT4 hT) (by rfl) (hvT hT (by omega)) ?_
                  refine hxa_iload (by rfl) rfl ?_
                  refine hxa_iconst (by rfl) rfl ?_
                  refine hxj_isub (by rfl) rfl hk_1 (by omega) (by omega) (fun z63 ez63 => ?_)
                  refine hxj_iald (by rfl) (hsT8 hT) rfl (by omega) (by omega) (fun z64 ez64 => ?_)
                  refine hxa_goto (by rfl) ?_
                  exact hxa_ireturn (by rfl) rfl (hP _ _ ⟨hAc21, _, rfl⟩)
            ·
              refine hxa_iload (by rfl) rfl ?_
              refine hxa_bipush (by rfl) rfl ?_
              refine hxj_cge (by rfl) rfl hk_16 (fun q65 => ?_) (fun q65 => ?_)
              ·
                refine hxa_iconst (by rfl) rfl ?_
                exact hxa_ireturn (by rfl) rfl (hP _ _ ⟨hAc21, _, rfl⟩)
              ·
                refine hxa_iload (by rfl) rfl ?_
                refine hxa_iconst (by rfl) rfl ?_
                refine hxj_cne (by rfl) rfl hk_1 (fun q66 => False.elim (by omega)) (fun q66 => ?_)
                refine hxa_iload (by rfl) rfl ?_
                refine hxa_bipush (by rfl) rfl ?_
                refine hxj_clt (by rfl) rfl hk_9 (fun q67 => ?_) (fun q67 => ?_)
                ·
                  refine hxa_aload_n (by rfl) rfl ?_
                  refine hxa_get (v := .ref (T + 9)) (by rfl) (hsT4 hT) (by rfl) (hvT hT (by omega)) ?_
                  refine hxa_iload (by rfl) rfl ?_
                  refine hxa_iload (by rfl) rfl ?_
                  refine hxj_zne (by rfl) rfl (fun q68 => ?_) (fun q68 => False.elim (by omega))
                  refine hxa_aload_n (by rfl) rfl ?_
                  refine hxa_iload (by rfl) rfl ?_
                  refine hxj_iald (by rfl) (by rfl) rfl (by omega) (by omega) (fun z69 ez69 => ?_)
                  refine hxj_iast (by rfl) (hsT8 hT) rfl (by omega) (by omega) hAc21 (hbokN (haT8 hT)) (hrT8 hT) (hqT8 hT) (fun A70 hA70 eA70 fA70 gA70 => ?_)
                  refine hxj_iinc (by rfl) rfl rfl hk_1 (by omega) (by omega) (fun _ => rfl) (fun z71 ez71 => ?_)
                  refine hxa_goto (by rfl) ?_
                  refine hxj_iinc (by rfl) rfl rfl hk_1 (by omega) (by omega) (fun _ => rfl) (fun z72 ez72 => ?_)
                  refine hxa_goto (by rfl) ?_
                  exact ih21 z71 z72 (.int z5) (.int z7) (x21_9) (x21_10) A70 rfl rfl hx21_9 hA70 (by omega) (by omega) (by omega)
                ·
                  refine hxa_iconst (by rfl) rfl ?_
                  exact hxa_ireturn (by rfl) rfl (hP _ _ ⟨hAc21, _, rfl⟩)
  refine hxa_aload_n (by rfl) rfl ?_
  refine hxa_iconst (by rfl) rfl ?_
  refine hxa_iload_n (by rfl) rfl ?_
  refine hxj_iast (by rfl) (by rfl) hk_3 (by omega) (by omega) hA (hbokN (by rfl)) (by rfl) (by rfl) (fun A73 hA73 eA73 fA73 gA73 => ?_)
  refine hxa_aload_n (by rfl) rfl ?_
  refine hxa_bipush (by rfl) rfl ?_
  refine hxa_iload (by rfl) rfl ?_
  refine hxj_iast (by rfl) (by rfl) hk_6 (by omega) (by omega) hA73 (hbokN (by rfl)) (by rfl) (by rfl) (fun A74 hA74 eA74 fA74 gA74 => ?_)
  refine hxa_iconst (by rfl) rfl ?_
  refine hxa_s1 (by rfl) (Or.inr ⟨_, rfl, rfl⟩) rfl ?_
  refine hxa_aload_n (by rfl) rfl ?_
  refine hxa_get (v := .ref (T + 7)) (by rfl) (hsT4 hT) (by rfl) (hvT hT (by omega)) ?_
  refine hxa_iload_n (by rfl) rfl ?_
  refine hxj_iald (by rfl) (hsT6 hT) rfl (by omega) (by omega) (fun z75 ez75 => ?_)
  refine hxa_s1 (by rfl) (Or.inr ⟨_, rfl, rfl⟩) rfl ?_
  exact L21 (Int.toNat (2147483647 - z75.toInt) + 1) (Int32.ofNat 0) z75 (.retAddr 0) (.retAddr 0) (.retAddr 0) (.retAddr 0) A74 rfl rfl rfl hA74 (by omega) (by omega) (by omega)
theorem hX14 {d : Nat} {Bn Br : Int} {A0 A : hs_A} (hA : hJ 0 Bn Br A0 A)  {T : Nat} (hT : hTT T) (a1 : Int32) (p1 : 0 ≤ a1.toInt) (q1 : a1.toInt ≤ 3) (a3 : Int32) (a4 : Int32) : hxC (d + 1) 14 hm_m14 [.ref (T + 5), .int a1, .ref 325, .int a3, .int a4] A (fun r A' => hJ 0 Bn Br A0 A' ∧ ∃ z : Int32, r = some (.int z)) := hxC.of (by rfl) (hY14 hA hT a1 p1 q1 a3 a4 (fun r A' h => h))
theorem hY245 {d : Nat} {A : hs_A} (a1 : Int32) (a2 : Int32) {P : Option Value → hs_A → Prop} (hP : ∀ (r : Option Value) (A' : hs_A), (A = A' ∧ ∃ z : Int32, r = some (.int z) ∧ ((z.toInt = a1.toInt ∧ a1.toInt ≤ a2.toInt) ∨ (z.toInt = a2.toInt ∧ a2.toInt ≤ a1.toInt))) → P r A') : hxa (d + 0) (some (.int)) hm_t245 0 [.int a1, .int a2] [] A P := by
  refine hxa_iload_n (by rfl) rfl ?_
  refine hxa_iload_n (by rfl) rfl ?_
  have rga1 := hn_rng a1
  have rga2 := hn_rng a2
  refine hxj_cgt (by rfl) rfl rfl (fun q1 => ?_) (fun q1 => ?_)
  ·
    refine hxa_iload_n (by rfl) rfl ?_
    exact hxa_ireturn (by rfl) rfl (hP _ _ ⟨rfl, _, rfl, by omega⟩)
  ·
    refine hxa_iload_n (by rfl) rfl ?_
    refine hxa_goto (by rfl) ?_
    exact hxa_ireturn (by rfl) rfl (hP _ _ ⟨rfl, _, rfl, by omega⟩)
theorem hX245 {d : Nat} {A : hs_A} (a1 : Int32) (a2 : Int32) : hxC (d + 1) 245 hm_m245 [.int a1, .int a2] A (fun r A' => A = A' ∧ ∃ z : Int32, r = some (.int z) ∧ ((z.toInt = a1.toInt ∧ a1.toInt ≤ a2.toInt) ∨ (z.toInt = a2.toInt ∧ a2.toInt ≤ a1.toInt))) := hxC.of (by rfl) (hY245 a1 a2 (fun r A' h => h))
theorem hY244 {d : Nat} {A : hs_A} (a1 : Int32) (a2 : Int32) {P : Option Value → hs_A → Prop} (hP : ∀ (r : Option Value) (A' : hs_A), (A = A' ∧ ∃ z : Int32, r = some (.int z) ∧ ((z.toInt = a1.toInt ∧ a2.toInt ≤ a1.toInt) ∨ (z.toInt = a2.toInt ∧ a1.toInt ≤ a2.toInt))) → P r A') : hxa (d + 0) (some (.int)) hm_t244 0 [.int a1, .int a2] [] A P := by
  refine hxa_iload_n (by rfl) rfl ?_
  refine hxa_iload_n (by rfl) rfl ?_
  have rga1 := hn_rng a1
  have rga2 := hn_rng a2
  refine hxj_clt (by rfl) rfl rfl (fun q1 => ?_) (fun q1 => ?_)
  ·
    refine hxa_iload_n (by rfl) rfl ?_
    exact hxa_ireturn (by rfl) rfl (hP _ _ ⟨rfl, _, rfl, by omega⟩)
  ·
    refine hxa_iload_n (by rfl) rfl ?_
    refine hxa_goto (by rfl) ?_
    exact hxa_ireturn (by rfl) rfl (hP _ _ ⟨rfl, _, rfl, by omega⟩)
theorem hX244 {d : Nat} {A : hs_A} (a1 : Int32) (a2 : Int32) : hxC (d + 1) 244 hm_m244 [.int a1, .int a2] A (fun r A' => A = A' ∧ ∃ z : Int32, r = some (.int z) ∧ ((z.toInt = a1.toInt ∧ a2.toInt ≤ a1.toInt) ∨ (z.toInt = a2.toInt ∧ a1.toInt ≤ a2.toInt))) := hxC.of (by rfl) (hY244 a1 a2 (fun r A' h => h))
theorem hY2 {d : Nat} {Bn Br : Int} {A0 A : hs_A} (hA : hJ 0 Bn Br A0 A)  (a1 : Int32) (p1 : 0 ≤ a1.toInt) (q1 : a1.toInt ≤ 8) {P : Option Value → hs_A → Prop} (hP : ∀ (r : Option Value) (A' : hs_A), (hJ 0 Bn Br A0 A' ∧ ∃ z : Int32, r = some (.int z)) → P r A') : hxa (d + 1) (some (.int)) hm_t2 0 [.ref 324, .int a1] [] A P := by
  have k0 := hk_0
  have k1 := hk_1
  have k7 := hk_7
  refine hxa_aload_n (by rfl) rfl ?_
  refine hxa_get (v := .ref 328) (by rfl) (by rfl) (by rfl) rfl ?_
  refine hxa_iload_n (by rfl) rfl ?_
  refine hxj_iald (by rfl) (by rfl) rfl (by omega) (by omega) (fun z1 ez1 => ?_)
  refine hxa_iconst (by rfl) rfl ?_
  refine hxj_cne (by rfl) rfl hk_4294967295 (fun q2 => ?_) (fun q2 => ?_)
  ·
    refine hxa_aload_n (by rfl) rfl ?_
    refine hxa_get (v := .ref 328) (by rfl) (by rfl) (by rfl) rfl ?_
    refine hxa_iload_n (by rfl) rfl ?_
    refine hxj_iald (by rfl) (by rfl) rfl (by omega) (by omega) (fun z3 ez3 => ?_)
    exact hxa_ireturn (by rfl) rfl (hP _ _ ⟨hA, _, rfl⟩)
  ·
    refine hxa_aload_n (by rfl) rfl ?_
    refine hxa_get (v := .ref 328) (by rfl) (by rfl) (by rfl) rfl ?_
    refine hxa_iload_n (by rfl) rfl ?_
    refine hxa_iconst (by rfl) rfl ?_
    refine hxa_bipush (by rfl) rfl ?_
    refine hxa_aload_n (by rfl) rfl ?_
    obtain ⟨T4, hT4, eT4⟩ := hA.lawsT
    refine hxj_getT (by rfl) (by rfl) (by rfl) eT4 ?_
    refine hxa_iconst (by rfl) rfl ?_
    refine hxa_aload_n (by rfl) rfl ?_
    refine hxa_get (v := .ref 325) (by rfl) (by rfl) (by rfl) rfl ?_
    refine hxa_iconst (by rfl) rfl ?_
    refine hxa_iload_n (by rfl) rfl ?_
    refine hxa_call0 (by rfl) (by rfl) (by rfl) (hsT4 hT4) (by rfl) (by rfl) (hX14 (d := d + 0) hA hT4 (Int32.ofNat 1) (by omega) (by omega) (Int32.ofNat 0) a1) ?_
    rintro _ A5 ⟨hA5, z6, rfl⟩
    refine hxa_call2 (by rfl) (by decide) (by rfl) (by rfl) (by rfl) (hX245 (d := d + 0)  (Int32.ofNat 7) z6) ?_
    rintro _ _ ⟨rfl, z7, rfl, fz7⟩
    refine hxa_call2 (by rfl) (by decide) (by rfl) (by rfl) (by rfl) (hX244 (d := d + 0)  (Int32.ofNat 0) z7) ?_
    rintro _ _ ⟨rfl, z8, rfl, fz8⟩
    refine hxj_iast (by rfl) (by rfl) rfl (by omega) (by omega) hA5 (hbokN (by rfl)) (by rfl) (by rfl) (fun A9 hA9 eA9 fA9 gA9 => ?_)
    refine hxa_aload_n (by rfl) rfl ?_
    refine hxa_get (v := .ref 328) (by rfl) (by rfl) (by rfl) rfl ?_
    refine hxa_iload_n (by rfl) rfl ?_
    refine hxj_iald (by rfl) (by rfl) rfl (by omega) (by omega) (fun z10 ez10 => ?_)
    exact hxa_ireturn (by rfl) rfl (hP _ _ ⟨hA9, _, rfl⟩)
theorem hX2 {d : Nat} {Bn Br : Int} {A0 A : hs_A} (hA : hJ 0 Bn Br A0 A)  (a1 : Int32) (p1 : 0 ≤ a1.toInt) (q1 : a1.toInt ≤ 8) : hxC (d + 2) 2 hm_m2 [.ref 324, .int a1] A (fun r A' => hJ 0 Bn Br A0 A' ∧ ∃ z : Int32, r = some (.int z)) := hxC.of (by rfl) (hY2 hA a1 p1 q1 (fun r A' h => h))
theorem hY3 {d : Nat} {Bn Br : Int} {A0 A : hs_A} (hA : hJ 0 Bn Br A0 A)   {P : Option Value → hs_A → Prop} (hP : ∀ (r : Option Value) (A' : hs_A), (hJ 0 Bn Br A0 A' ∧ ∃ z : Int32, r = some (.int z) ∧ ((0 ≤ z.toInt ∧ z.toInt ≤ 255))) → P r A') : hxa (d + 1) (some (.int)) hm_t3 0 [.ref 324] [] A P := by
  have k0 := hk_0
  have k2 := hk_2
  have k255 := hk_255
  refine hxa_aload_n (by rfl) rfl ?_
  refine hxj_getB (by rfl) (by rfl) (by rfl) hA (by rfl) (fun z1 ez1 fz1 gz1 => ?_)
  refine hxa_iconst (by rfl) rfl ?_
  refine hxj_cne (by rfl) rfl hk_4294967295 (fun q2 => ?_) (fun q2 => ?_)
  ·
    refine hxa_aload_n (by rfl) rfl ?_
    refine hxj_getK (by rfl) (by rfl) (by rfl) ez1 ?_
    exact hxa_ireturn (by rfl) rfl (hP _ _ ⟨hA, _, rfl, by omega⟩)
  ·
    refine hxa_aload_n (by rfl) rfl ?_
    refine hxa_iconst (by rfl) rfl ?_
    refine hxa_sipush (by rfl) rfl ?_
    refine hxa_aload_n (by rfl) rfl ?_
    obtain ⟨T3, hT3, eT3⟩ := hA.lawsT
    refine hxj_getT (by rfl) (by rfl) (by rfl) eT3 ?_
    refine hxa_iconst (by rfl) rfl ?_
    refine hxa_aload_n (by rfl) rfl ?_
    refine hxa_get (v := .ref 325) (by rfl) (by rfl) (by rfl) rfl ?_
    refine hxa_iconst (by rfl) rfl ?_
    refine hxa_iconst (by rfl) rfl ?_
    refine hxa_call0 (by rfl) (by rfl) (by rfl) (hsT4 hT3) (by rfl) (by rfl) (hX14 (d := d + 0) hA hT3 (Int32.ofNat 2) (by omega) (by omega) (Int32.ofNat 0) (Int32.ofNat 0)) ?_
    rintro _ A4 ⟨hA4, z5, rfl⟩
    refine hxa_call2 (by rfl) (by decide) (by rfl) (by rfl) (by rfl) (hX245 (d := d + 0)  (Int32.ofNat 255) z5) ?_
    rintro _ _ ⟨rfl, z6, rfl, fz6⟩
    refine hxa_call2 (by rfl) (by decide) (by rfl) (by rfl) (by rfl) (hX244 (d := d + 0)  (Int32.ofNat 0) z6) ?_
    rintro _ _ ⟨rfl, z7, rfl, fz7⟩
    refine hxj_putI (by rfl) (by rfl) (by rfl) (by rfl) hA4 (hbok (by rfl) rfl (by omega) (by omega)) (by rfl) (by rfl) (fun A8 hA8 eA8 fA8 => ?_)
    refine hxa_aload_n (by rfl) rfl ?_
    refine hxj_getK (by rfl) (by rfl) (by rfl) (hkS eA8) ?_
    exact hxa_ireturn (by rfl) rfl (hP _ _ ⟨hA8, _, rfl, by omega⟩)
theorem hX3 {d : Nat} {Bn Br : Int} {A0 A : hs_A} (hA : hJ 0 Bn Br A0 A)   : hxC (d + 2) 3 hm_m3 [.ref 324] A (fun r A' => hJ 0 Bn Br A0 A' ∧ ∃ z : Int32, r = some (.int z) ∧ ((0 ≤ z.toInt ∧ z.toInt ≤ 255))) := hxC.of (by rfl) (hY3 hA  (fun r A' h => h))
theorem hY4 {d : Nat} {Bn Br : Int} {A0 A : hs_A} (hA : hJ 0 Bn Br A0 A)   {P : Option Value → hs_A → Prop} (hP : ∀ (r : Option Value) (A' : hs_A), (hJ 0 Bn Br A0 A' ∧ ∃ z : Int32, r = some (.int z)) → P r A') : hxa (d + 1) (some (.int)) hm_t4 0 [.ref 324] [] A P := by
  have k0 := hk_0
  have k100 := hk_100
  have k3 := hk_3
  refine hxa_iconst (by rfl) rfl ?_
  refine hxa_bipush (by rfl) rfl ?_
  refine hxa_aload_n (by rfl) rfl ?_
  obtain ⟨T1, hT1, eT1⟩ := hA.lawsT
  refine hxj_getT (by rfl) (by rfl) (by rfl) eT1 ?_
  refine hxa_iconst (by rfl) rfl ?_
  refine hxa_aload_n (by rfl) rfl ?_
  refine hxa_get (v := .ref 325) (by rfl) (by rfl) (by rfl) rfl ?_
  refine hxa_iconst (by rfl) rfl ?_
  refine hxa_iconst (by rfl) rfl ?_
  refine hxa_call0 (by rfl) (by rfl) (by rfl) (hsT4 hT1) (by rfl) (by rfl) (hX14 (d := d + 0) hA hT1 (Int32.ofNat 3) (by omega) (by omega) (Int32.ofNat 0) (Int32.ofNat 0)) ?_
  rintro _ A2 ⟨hA2, z3, rfl⟩
  refine hxa_call2 (by rfl) (by decide) (by rfl) (by rfl) (by rfl) (hX245 (d := d + 0)  (Int32.ofNat 100) z3) ?_
  rintro _ _ ⟨rfl, z4, rfl, fz4⟩
  refine hxa_call2 (by rfl) (by decide) (by rfl) (by rfl) (by rfl) (hX244 (d := d + 0)  (Int32.ofNat 0) z4) ?_
  rintro _ _ ⟨rfl, z5, rfl, fz5⟩
  exact hxa_ireturn (by rfl) rfl (hP _ _ ⟨hA2, _, rfl⟩)
theorem hX4 {d : Nat} {Bn Br : Int} {A0 A : hs_A} (hA : hJ 0 Bn Br A0 A)   : hxC (d + 2) 4 hm_m4 [.ref 324] A (fun r A' => hJ 0 Bn Br A0 A' ∧ ∃ z : Int32, r = some (.int z)) := hxC.of (by rfl) (hY4 hA  (fun r A' h => h))
theorem hY11 {d : Nat} {Bn Br : Int} {A0 A : hs_A} (hA : hJ 0 Bn Br A0 A)  {T : Nat} (hT : hTT T) (a1 : Int32) (p1 : 0 ≤ a1.toInt) (q1 : a1.toInt ≤ 3) (a2 : Int32) {P : Option Value → hs_A → Prop} (hP : ∀ (r : Option Value) (A' : hs_A), (A = A' ∧ ∃ z : Int32, r = some (.int z) ∧ ((0 ≤ z.toInt ∧ z.toInt ≤ 1))) → P r A') : hxa (d + 0) (some (.boolean)) hm_t11 0 [.ref (T + 5), .int a1, .int a2] [] A P := by
  have k0 := hk_0
  have k1 := hk_1
  refine hxa_aload_n (by rfl) rfl ?_
  refine hxa_get (v := .ref (T + 8)) (by rfl) (hsT4 hT) (by rfl) (hvT hT (by omega)) ?_
  refine hxa_iload_n (by rfl) rfl ?_
  refine hxj_iald (by rfl) (hsT7 hT) rfl (by omega) (by omega) (fun z1 ez1 => ?_)
  refine hxa_iload_n (by rfl) rfl ?_
  refine hxj_ishrU (by rfl) (fun z2 => ?_)
  refine hxa_iconst (by rfl) rfl ?_
  refine hxj_iandR (by rfl) hk_1 (by omega) (fun z3 ez3 fz3 => ?_)
  refine hxj_zeq (by rfl) rfl (fun q4 => ?_) (fun q4 => ?_)
  ·
    refine hxa_iconst (by rfl) rfl ?_
    exact hxa_ireturn (by rfl) (by rfl) (hP _ _ ⟨rfl, _, rfl, by omega⟩)
  ·
    refine hxa_iconst (by rfl) rfl ?_
    refine hxa_goto (by rfl) ?_
    exact hxa_ireturn (by rfl) (by rfl) (hP _ _ ⟨rfl, _, rfl, by omega⟩)
theorem hX11 {d : Nat} {Bn Br : Int} {A0 A : hs_A} (hA : hJ 0 Bn Br A0 A)  {T : Nat} (hT : hTT T) (a1 : Int32) (p1 : 0 ≤ a1.toInt) (q1 : a1.toInt ≤ 3) (a2 : Int32) : hxC (d + 1) 11 hm_m11 [.ref (T + 5), .int a1, .int a2] A (fun r A' => A = A' ∧ ∃ z : Int32, r = some (.int z) ∧ ((0 ≤ z.toInt ∧ z.toInt ≤ 1))) := hxC.of (by rfl) (hY11 hA hT a1 p1 q1 a2 (fun r A' h => h))
theorem hY6 {d : Nat} {Bn Br : Int} {A0 A : hs_A} (hA : hJ 0 Bn Br A0 A)  (a1 : Int32) (p1 : 0 ≤ a1.toInt) (q1 : a1.toInt ≤ 255) (a2 : Int32) (p2 : 0 ≤ a2.toInt) (q2 : a2.toInt ≤ 8) {P : Option Value → hs_A → Prop} (hP : ∀ (r : Option Value) (A' : hs_A), (hJ 0 Bn Br A0 A' ∧ ∃ z : Int32, r = some (.int z) ∧ ((0 ≤ z.toInt ∧ z.toInt ≤ 255))) → P r A') : hxa (d + 1) (some (.int)) hm_t6 0 [.ref 324, .int a1, .int a2, .retAddr 0, .retAddr 0] [] A P := by
  have k0 := hk_0
  have k3 := hk_3
  have L84 : ∀ (m84 : Nat) (x84_3 : Int32) (x84_4 : Value) (Ac84 : hs_A) (hAc84 : hJ 0 Bn Br A0 Ac84) (bx84_3 : 0 ≤ x84_3.toInt) (cx84_3 : x84_3.toInt ≤ 8) (hm84 : 8 - x84_3.toInt < (m84 : Int)), hxa (d + 1) (some (.int)) hm_t6 84 [.ref 324, .int a1, .int a2, .int x84_3, x84_4] [] Ac84 P := by
    intro m84
    induction m84 with
    | zero => intro x84_3 x84_4 Ac84 hAc84 bx84_3 cx84_3 hm84;  exact False.elim (by omega)
    | succ m84 ih84 =>
      intro x84_3 x84_4 Ac84 hAc84 bx84_3 cx84_3 hm84
      refine hxa_iload_n (by rfl) rfl ?_
      refine hxa_bipush (by rfl) rfl ?_
      refine hxj_cge (by rfl) rfl hk_8 (fun q1 => ?_) (fun q1 => ?_)
      ·
        refine hxa_aload_n (by rfl) rfl ?_
        refine hxa_get (v := .ref 326) (by rfl) (by rfl) (by rfl) rfl ?_
        refine hxa_iload_n (by rfl) rfl ?_
        refine hxa_dup2IR (by rfl) ?_
        refine hxj_iald (by rfl) (by rfl) rfl (by omega) (by omega) (fun z2 ez2 => ?_)
        refine hxa_iload_n (by rfl) rfl ?_
        refine hxj_iorU (by rfl) (fun z3 => ?_)
        refine hxj_iast (by rfl) (by rfl) rfl (by omega) (by omega) hAc84 (hbokN (by rfl)) (by rfl) (by rfl) (fun A4 hA4 eA4 fA4 gA4 => ?_)
        refine hxa_iload_n (by rfl) rfl ?_
        refine hxa_aload_n (by rfl) rfl ?_
        refine hxa_get (v := .ref 327) (by rfl) (by rfl) (by rfl) rfl ?_
        refine hxa_iload_n (by rfl) rfl ?_
        refine hxj_iald (by rfl) (by rfl) rfl (by omega) (by omega) (fun z5 ez5 => ?_)
        refine hxj_iandL (by rfl) rfl (by omega) (fun z6 ez6 fz6 => ?_)
        exact hxa_ireturn (by rfl) rfl (hP _ _ ⟨hA4, _, rfl, by omega⟩)
      ·
        refine hxa_iconst (by rfl) rfl ?_
        refine hxa_iload_n (by rfl) rfl ?_
        refine hxj_ishl1 (by rfl) rfl rfl (by omega) (by omega) (fun z7 ez7 fz7 => ?_)
        refine hxa_s1 (by rfl) (Or.inr ⟨_, rfl, rfl⟩) rfl ?_
        refine hxa_iload_n (by rfl) rfl ?_
        refine hxa_iload (by rfl) rfl ?_
        refine hxj_iandR (by rfl) rfl (by omega) (fun z8 ez8 fz8 => ?_)
        refine hxa_aload_n (by rfl) rfl ?_
        refine hxa_get (v := .ref 326) (by rfl) (by rfl) (by rfl) rfl ?_
        refine hxa_iload_n (by rfl) rfl ?_
        refine hxj_iald (by rfl) (by rfl) rfl (by omega) (by omega) (fun z9 ez9 => ?_)
        refine hxa_iconst (by rfl) rfl ?_
        refine hxj_ixorU (by rfl) (fun z10 => ?_)
        refine hxj_iandL (by rfl) rfl (by omega) (fun z11 ez11 fz11 => ?_)
        refine hxj_zeq (by rfl) rfl (fun q12 => ?_) (fun q12 => ?_)
        ·
          refine hxj_iinc (by rfl) rfl rfl hk_1 (by omega) (by omega) (fun _ => rfl) (fun z13 ez13 => ?_)
          refine hxa_goto (by rfl) ?_
          exact ih84 z13 (.int z7) Ac84 hAc84 (by omega) (by omega) (by omega)
        ·
          refine hxa_aload_n (by rfl) rfl ?_
          obtain ⟨T14, hT14, eT14⟩ := hAc84.lawsT
          refine hxj_getT (by rfl) (by rfl) (by rfl) eT14 ?_
          refine hxa_iconst (by rfl) rfl ?_
          refine hxa_aload_n (by rfl) rfl ?_
          refine hxa_get (v := .ref 325) (by rfl) (by rfl) (by rfl) rfl ?_
          refine hxa_iload_n (by rfl) rfl ?_
          refine hxa_iload_n (by rfl) rfl ?_
          refine hxa_call0 (by rfl) (by rfl) (by rfl) (hsT4 hT14) (by rfl) (by rfl) (hX14 (d := d + 0) hAc84 hT14 (Int32.ofNat 0) (by omega) (by omega) x84_3 a2) ?_
          rintro _ A15 ⟨hA15, z16, rfl⟩
          refine hxj_zle (by rfl) rfl (fun q17 => ?_) (fun q17 => ?_)
          ·
            refine hxj_iinc (by rfl) rfl rfl hk_1 (by omega) (by omega) (fun _ => rfl) (fun z18 ez18 => ?_)
            refine hxa_goto (by rfl) ?_
            exact ih84 z18 (.int z7) A15 hA15 (by omega) (by omega) (by omega)
          ·
            refine hxa_aload_n (by rfl) rfl ?_
            refine hxa_get (v := .ref 327) (by rfl) (by rfl) (by rfl) rfl ?_
            refine hxa_iload_n (by rfl) rfl ?_
            refine hxa_dup2IR (by rfl) ?_
            refine hxj_iald (by rfl) (by rfl) rfl (by omega) (by omega) (fun z19 ez19 => ?_)
            refine hxa_iload (by rfl) rfl ?_
            refine hxj_iorU (by rfl) (fun z20 => ?_)
            refine hxj_iast (by rfl) (by rfl) rfl (by omega) (by omega) hA15 (hbokN (by rfl)) (by rfl) (by rfl) (fun A21 hA21 eA21 fA21 gA21 => ?_)
            refine hxj_iinc (by rfl) rfl rfl hk_1 (by omega) (by omega) (fun _ => rfl) (fun z22 ez22 => ?_)
            refine hxa_goto (by rfl) ?_
            exact ih84 z22 (.int z7) A21 hA21 (by omega) (by omega) (by omega)
  refine hxa_iload_n (by rfl) rfl ?_
  refine hxa_aload_n (by rfl) rfl ?_
  refine hxa_get (v := .ref 326) (by rfl) (by rfl) (by rfl) rfl ?_
  refine hxa_iload_n (by rfl) rfl ?_
  refine hxj_iald (by rfl) (by rfl) rfl (by omega) (by omega) (fun z23 ez23 => ?_)
  refine hxa_iconst (by rfl) rfl ?_
  refine hxj_ixorU (by rfl) (fun z24 => ?_)
  refine hxj_iandL (by rfl) rfl (by omega) (fun z25 ez25 fz25 => ?_)
  refine hxj_zne (by rfl) rfl (fun q26 => ?_) (fun q26 => ?_)
  ·
    refine hxa_aload_n (by rfl) rfl ?_
    obtain ⟨T27, hT27, eT27⟩ := hA.lawsT
    refine hxj_getT (by rfl) (by rfl) (by rfl) eT27 ?_
    refine hxa_iconst (by rfl) rfl ?_
    refine hxa_iconst (by rfl) rfl ?_
    refine hxa_call0 (by rfl) (by rfl) (by rfl) (hsT4 hT27) (by rfl) (by rfl) (hX11 (d := d + 0) hA hT27 (Int32.ofNat 0) (by omega) (by omega) (Int32.ofNat 3)) ?_
    rintro _ _ ⟨rfl, z28, rfl, fz28⟩
    refine hxj_zne (by rfl) rfl (fun q29 => ?_) (fun q29 => ?_)
    ·
      refine hxa_iconst (by rfl) rfl ?_
      refine hxa_s1 (by rfl) (Or.inl ⟨_, rfl, rfl⟩) rfl ?_
      exact L84 (Int.toNat (8 - 0) + 1) (Int32.ofNat 0) (.retAddr 0) A hA (by omega) (by omega) (by omega)
    ·
      refine hxa_aload_n (by rfl) rfl ?_
      refine hxa_get (v := .ref 326) (by rfl) (by rfl) (by rfl) rfl ?_
      refine hxa_iload_n (by rfl) rfl ?_
      refine hxa_sipush (by rfl) rfl ?_
      refine hxj_iast (by rfl) (by rfl) rfl (by omega) (by omega) hA (hbokN (by rfl)) (by rfl) (by rfl) (fun A30 hA30 eA30 fA30 gA30 => ?_)
      refine hxa_aload_n (by rfl) rfl ?_
      refine hxa_get (v := .ref 327) (by rfl) (by rfl) (by rfl) rfl ?_
      refine hxa_iload_n (by rfl) rfl ?_
      refine hxa_aload_n (by rfl) rfl ?_
      obtain ⟨T31, hT31, eT31⟩ := hA30.lawsT
      refine hxj_getT (by rfl) (by rfl) (by rfl) eT31 ?_
      refine hxa_iconst (by rfl) rfl ?_
      refine hxa_aload_n (by rfl) rfl ?_
      refine hxa_get (v := .ref 325) (by rfl) (by rfl) (by rfl) rfl ?_
      refine hxa_iconst (by rfl) rfl ?_
      refine hxa_iload_n (by rfl) rfl ?_
      refine hxa_call0 (by rfl) (by rfl) (by rfl) (hsT4 hT31) (by rfl) (by rfl) (hX14 (d := d + 0) hA30 hT31 (Int32.ofNat 0) (by omega) (by omega) (Int32.ofNat 0) a2) ?_
      rintro _ A32 ⟨hA32, z33, rfl⟩
      refine hxj_zle (by rfl) rfl (fun q34 => ?_) (fun q34 => ?_)
      ·
        refine hxa_iconst (by rfl) rfl ?_
        refine hxj_iast (by rfl) (by rfl) rfl (by omega) (by omega) hA32 (hbokN (by rfl)) (by rfl) (by rfl) (fun A35 hA35 eA35 fA35 gA35 => ?_)
        refine hxa_iload_n (by rfl) rfl ?_
        refine hxa_aload_n (by rfl) rfl ?_
        refine hxa_get (v := .ref 327) (by rfl) (by rfl) (by rfl) rfl ?_
        refine hxa_iload_n (by rfl) rfl ?_
        refine hxj_iald (by rfl) (by rfl) rfl (by omega) (by omega) (fun z36 ez36 => ?_)
        refine hxj_iandL (by rfl) rfl (by omega) (fun z37 ez37 fz37 => ?_)
        exact hxa_ireturn (by rfl) rfl (hP _ _ ⟨hA35, _, rfl, by omega⟩)
      ·
        refine hxa_sipush (by rfl) rfl ?_
        refine hxa_goto (by rfl) ?_
        refine hxj_iast (by rfl) (by rfl) rfl (by omega) (by omega) hA32 (hbokN (by rfl)) (by rfl) (by rfl) (fun A38 hA38 eA38 fA38 gA38 => ?_)
        refine hxa_iload_n (by rfl) rfl ?_
        refine hxa_aload_n (by rfl) rfl ?_
        refine hxa_get (v := .ref 327) (by rfl) (by rfl) (by rfl) rfl ?_
        refine hxa_iload_n (by rfl) rfl ?_
        refine hxj_iald (by rfl) (by rfl) rfl (by omega) (by omega) (fun z39 ez39 => ?_)
        refine hxj_iandL (by rfl) rfl (by omega) (fun z40 ez40 fz40 => ?_)
        exact hxa_ireturn (by rfl) rfl (hP _ _ ⟨hA38, _, rfl, by omega⟩)
  ·
    refine hxa_iload_n (by rfl) rfl ?_
    refine hxa_aload_n (by rfl) rfl ?_
    refine hxa_get (v := .ref 327) (by rfl) (by rfl) (by rfl) rfl ?_
    refine hxa_iload_n (by rfl) rfl ?_
    refine hxj_iald (by rfl) (by rfl) rfl (by omega) (by omega) (fun z41 ez41 => ?_)
    refine hxj_iandL (by rfl) rfl (by omega) (fun z42 ez42 fz42 => ?_)
    exact hxa_ireturn (by rfl) rfl (hP _ _ ⟨hA, _, rfl, by omega⟩)
theorem hX6 {d : Nat} {Bn Br : Int} {A0 A : hs_A} (hA : hJ 0 Bn Br A0 A)  (a1 : Int32) (p1 : 0 ≤ a1.toInt) (q1 : a1.toInt ≤ 255) (a2 : Int32) (p2 : 0 ≤ a2.toInt) (q2 : a2.toInt ≤ 8) : hxC (d + 2) 6 hm_m6 [.ref 324, .int a1, .int a2] A (fun r A' => hJ 0 Bn Br A0 A' ∧ ∃ z : Int32, r = some (.int z) ∧ ((0 ≤ z.toInt ∧ z.toInt ≤ 255))) := hxC.of (by rfl) (hY6 hA a1 p1 q1 a2 p2 q2 (fun r A' h => h))
theorem hY5 {d : Nat} {Bn Br : Int} {A0 A : hs_A} (hA : hJ 0 Bn Br A0 A)  (a1 : Int32) {P : Option Value → hs_A → Prop} (hP : ∀ (r : Option Value) (A' : hs_A), (hJ 0 Bn Br A0 A' ∧ ∃ z : Int32, r = some (.int z) ∧ ((0 ≤ z.toInt ∧ z.toInt ≤ 255))) → P r A') : hxa (d + 2) (some (.int)) hm_t5 0 [.ref 324, .int a1, .retAddr 0, .retAddr 0, .retAddr 0] [] A P := by
  refine hxa_iload_n (by rfl) rfl ?_
  refine hxa_sipush (by rfl) rfl ?_
  refine hxj_iandR (by rfl) hk_255 (by omega) (fun z1 ez1 fz1 => ?_)
  refine hxa_call2 (by rfl) (by decide) (by rfl) (by rfl) (by rfl) (hX242 (d := d + 1)  z1) ?_
  rintro _ _ ⟨rfl, z2, rfl, fz2⟩
  refine hxa_s1 (by rfl) (Or.inl ⟨_, rfl, rfl⟩) rfl ?_
  refine hxa_aload_n (by rfl) rfl ?_
  refine hxa_iload_n (by rfl) rfl ?_
  refine hxa_sipush (by rfl) rfl ?_
  refine hxj_iandR (by rfl) hk_255 (by omega) (fun z3 ez3 fz3 => ?_)
  refine hxa_iload_n (by rfl) rfl ?_
  refine hxa_call0 (by rfl) (by rfl) (by rfl) (by rfl) (by rfl) (by rfl) (hX6 (d := d + 0) hA z3 (by omega) (by omega) z2 (by omega) (by omega)) ?_
  rintro _ A4 ⟨hA4, z5, rfl, fz5⟩
  refine hxa_s1 (by rfl) (Or.inl ⟨_, rfl, rfl⟩) rfl ?_
  refine hxa_iload_n (by rfl) rfl ?_
  refine hxj_zeq (by rfl) rfl (fun q6 => ?_) (fun q6 => ?_)
  ·
    refine hxa_iload_n (by rfl) rfl ?_
    refine hxa_aload_n (by rfl) rfl ?_
    refine hxa_call0 (by rfl) (by rfl) (by rfl) (by rfl) (by rfl) (by rfl) (hX3 (d := d + 0) hA4 ) ?_
    rintro _ A7 ⟨hA7, z8, rfl, fz8⟩
    refine hxj_ior255 (by rfl) rfl rfl (by omega) (by omega) (by omega) (by omega) (fun z9 ez9 fz9 => ?_)
    exact hxa_ireturn (by rfl) rfl (hP _ _ ⟨hA7, _, rfl, by omega⟩)
  ·
    refine hxa_aload_n (by rfl) rfl ?_
    refine hxa_iload_n (by rfl) rfl ?_
    refine hxa_call0 (by rfl) (by rfl) (by rfl) (by rfl) (by rfl) (by rfl) (hX2 (d := d + 0) hA4 z2 (by omega) (by omega)) ?_
    rintro _ A10 ⟨hA10, z11, rfl⟩
    refine hxa_s1 (by rfl) (Or.inr ⟨_, rfl, rfl⟩) rfl ?_
    refine hxa_iload_n (by rfl) rfl ?_
    refine hxa_iload (by rfl) rfl ?_
    refine hxj_ishlU (by rfl) (fun z12 => ?_)
    refine hxa_iload_n (by rfl) rfl ?_
    refine hxa_bipush (by rfl) rfl ?_
    refine hxa_iload (by rfl) rfl ?_
    refine hxj_isubU (by rfl) (fun z13 => ?_)
    refine hxj_ishrU (by rfl) (fun z14 => ?_)
    refine hxj_iorU (by rfl) (fun z15 => ?_)
    refine hxa_sipush (by rfl) rfl ?_
    refine hxj_iandR (by rfl) hk_255 (by omega) (fun z16 ez16 fz16 => ?_)
    refine hxa_s1 (by rfl) (Or.inl ⟨_, rfl, rfl⟩) rfl ?_
    refine hxa_iload_n (by rfl) rfl ?_
    refine hxa_aload_n (by rfl) rfl ?_
    refine hxa_call0 (by rfl) (by rfl) (by rfl) (by rfl) (by rfl) (by rfl) (hX3 (d := d + 0) hA10 ) ?_
    rintro _ A17 ⟨hA17, z18, rfl, fz18⟩
    refine hxj_ior255 (by rfl) rfl rfl (by omega) (by omega) (by omega) (by omega) (fun z19 ez19 fz19 => ?_)
    exact hxa_ireturn (by rfl) rfl (hP _ _ ⟨hA17, _, rfl, by omega⟩)
theorem hX5 {d : Nat} {Bn Br : Int} {A0 A : hs_A} (hA : hJ 0 Bn Br A0 A)  (a1 : Int32) : hxC (d + 3) 5 hm_m5 [.ref 324, .int a1] A (fun r A' => hJ 0 Bn Br A0 A' ∧ ∃ z : Int32, r = some (.int z) ∧ ((0 ≤ z.toInt ∧ z.toInt ≤ 255))) := hxC.of (by rfl) (hY5 hA a1 (fun r A' h => h))
