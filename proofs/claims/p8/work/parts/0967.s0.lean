/-! WHAT feed WRITES -/
def hvb (w : Int32) (q : Nat) : Int32 := (w >>> (Int32.ofNat (24 - 8 * q) &&& 31)).toInt8.toInt32
theorem hvb_rng (x : Int8) : -128 ≤ x.toInt32.toInt ∧ x.toInt32.toInt ≤ 127 := by
  rw [Int8.toInt_toInt32]
  have h1 := Int8.le_toInt x
  have h2 := Int8.toInt_lt x
  omega
theorem hvb8 (x : Int8) : x.toInt32.toInt8.toInt32 = x.toInt32 := hi8 (hvb_rng x).1 (hvb_rng x).2
theorem hvbx {x : Int32} {q : Nat} (h : x.toInt = 24 - 8 * (q : Int)) (hq : q ≤ 3) : x = Int32.ofNat (24 - 8 * q) := by
  apply Int32.toInt_inj.mp
  rw [hn_c (n := 24 - 8 * q) rfl (by omega)]
  omega
theorem hvb_u (w : Int32) {q : Nat} (hq : q ≤ 3) : ((w.toUInt32 >>> ((Int32.ofNat (24 - 8 * q)).toUInt32 &&& Int32.toUInt32 31)).toInt32).toInt8 = (w >>> (Int32.ofNat (24 - 8 * q) &&& 31)).toInt8 := by
  have hc : q = 0 ∨ q = 1 ∨ q = 2 ∨ q = 3 := by omega
  apply Int8.toBitVec_inj.mp
  rcases hc with rfl | rfl | rfl | rfl
  · show ((w.toBitVec >>> (24 : Nat)).signExtend 8 : BitVec 8) = ((w.toBitVec.sshiftRight 24).signExtend 8 : BitVec 8)
    apply BitVec.eq_of_getLsbD_eq
    intro i hi
    rw [BitVec.getLsbD_signExtend, BitVec.getLsbD_signExtend]
    have : i < 32 := by omega
    have h2 : 24 + i < 32 := by omega
    have h3 : ¬ 32 ≤ i := by omega
    simp [this, h2, h3, hi, BitVec.getLsbD_sshiftRight, BitVec.getElem_sshiftRight]
  · show ((w.toBitVec >>> (16 : Nat)).signExtend 8 : BitVec 8) = ((w.toBitVec.sshiftRight 16).signExtend 8 : BitVec 8)
    apply BitVec.eq_of_getLsbD_eq
    intro i hi
    rw [BitVec.getLsbD_signExtend, BitVec.getLsbD_signExtend]
    have : i < 32 := by omega
    have h2 : 16 + i < 32 := by omega
    have h3 : ¬ 32 ≤ i := by omega
    simp [this, h2, h3, hi, BitVec.getLsbD_sshiftRight, BitVec.getElem_sshiftRight]
  · show ((w.toBitVec >>> (8 : Nat)).signExtend 8 : BitVec 8) = ((w.toBitVec.sshiftRight 8).signExtend 8 : BitVec 8)
    apply BitVec.eq_of_getLsbD_eq
    intro i hi
    rw [BitVec.getLsbD_signExtend, BitVec.getLsbD_signExtend]
    have : i < 32 := by omega
    have h2 : 8 + i < 32 := by omega
    have h3 : ¬ 32 ≤ i := by omega
    simp [this, h2, h3, hi, BitVec.getLsbD_sshiftRight, BitVec.getElem_sshiftRight]
  · show ((w.toBitVec >>> (0 : Nat)).signExtend 8 : BitVec 8) = ((w.toBitVec.sshiftRight 0).signExtend 8 : BitVec 8)
    apply BitVec.eq_of_getLsbD_eq
    intro i hi
    rw [BitVec.getLsbD_signExtend, BitVec.getLsbD_signExtend]
    have : i < 32 := by omega
    simp [this, BitVec.getLsbD_sshiftRight]
def hfw (f : Nat → Int32) (len : Nat) (w : Int32) (q : Nat) : Nat → Int32 := fun i => if len ≤ i ∧ i < len + q then hvb w (i - len) else f i
theorem hfw_0 {f : Nat → Int32} {len : Nat} {w : Int32} : f = hfw f len w 0 := by
  funext i
  unfold hfw
  rw [if_neg (by omega)]
theorem hfw_s {f : Nat → Int32} {g g' : Nat → Nat → Int32} {len c j q : Nat} {w x : Int32} (h : g c = hfw f len w q) (hg : g' = hs_up g c j x) (hj : j = len + q) (hx : x = hvb w q) : g' c = hfw f len w (q + 1) := by
  funext i
  rw [hg]
  unfold hfw
  by_cases e : i = j
  · subst e
    rw [hup1, if_pos (by omega), hx, show i - len = q by omega]
  · rw [hup2 (fun w => e w.2), h]
    unfold hfw
    by_cases k : len ≤ i ∧ i < len + q
    · rw [if_pos k, if_pos (by omega)]
    · rw [if_neg k, if_neg (by omega)]
def hf5 (f : Nat → Int32) (len : Nat) (a b c d e : Int32) : Nat → Int32 := if len ≤ 1980 then hfw (hfw (hfw (hfw (hfw f len a 4) (len + 4) b 4) (len + 8) c 4) (len + 12) d 4) (len + 16) e 4 else f
