/-! AN HOUR IN THE REFERENCE: the row when the houses below k are done -/
def huRa (D : hg_D) (n : Nat) (b : Bool) (s : Int32) (ro : Nat → Int32) (k : Nat) : Nat → Int32 := fun j =>
  if 30 ≤ j ∧ j < 30 + k then huHd D n ro (j - 30)
  else if 40 ≤ j ∧ j < 40 + k then ro j ||| (huHd D n ro (j - 40) &&& ro (j - 40))
  else if 60 ≤ j ∧ j < 60 + k then huGr D n ro b s (j - 60)
  else if j = 72 then ro 72 + Int32.ofNat (huCt (huDy D n ro b s) k)
  else ro j
/-- k hours -/
def huY (D : hg_D) (n : Nat) (b : Bool) (s : Int32) : Nat → (Nat → Int32) → (Nat → Int32)
  | 0, ro => ro
  | k + 1, ro => huR D n b s (huY D n b s k ro)
section HUR
variable {D : hg_D} {n k h : Nat} {b : Bool} {s : Int32} {ro : Nat → Int32}
theorem hu_a0 {a : Int32} : a + Int32.ofNat 0 = a := by
  apply Int32.toBitVec_inj.mp
  show a.toBitVec + 0#32 = a.toBitVec
  exact BitVec.add_zero _
theorem huRa_0 : ∀ j, j < 73 → huRa D n b s ro 0 j = ro j := fun j hj => by
  unfold huRa
  rw [if_neg (by omega), if_neg (by omega), if_neg (by omega)]
  split
  next q => rw [q]; exact hu_a0
  · rfl
theorem huRa_at (hk : k ≤ 9) {j : Nat} (hj : j < 30 ∨ j = 30 + k ∨ j = 40 + k ∨ j = 60 + k ∨ 50 ≤ j ∧ j < 60 ∨ j = 70 ∨ j = 71) : huRa D n b s ro k j = ro j := by
  unfold huRa
  rw [if_neg (by omega), if_neg (by omega), if_neg (by omega), if_neg (by omega)]
theorem huRa_72 (hk : k ≤ 10) : huRa D n b s ro k 72 = ro 72 + Int32.ofNat (huCt (huDy D n ro b s) k) := by
  unfold huRa
  rw [if_neg (by omega), if_neg (by omega), if_neg (by omega), if_pos rfl]
theorem huRa.step {a a' : Nat → Int32} (w : ∀ j, j < 73 → a j = huRa D n b s ro k j) (hk : k ≤ 9) (f30 : a' (30 + k) = huHd D n ro k) (f40 : a' (40 + k) = ro (40 + k) ||| (huHd D n ro k &&& ro k)) (f60 : a' (60 + k) = huGr D n ro b s k) (f72 : a' 72 = if huDy D n ro b s k then a 72 + Int32.ofNat 1 else a 72) (o : ∀ j, j < 73 → ¬ j = 30 + k → ¬ j = 40 + k → ¬ j = 60 + k → ¬ j = 72 → a' j = a j) : ∀ j, j < 73 → a' j = huRa D n b s ro (k + 1) j := fun j hj => by
  by_cases q1 : j = 30 + k
  · subst q1
    rw [f30]
    unfold huRa
    rw [if_pos (by omega), show 30 + k - 30 = k by omega]
  · by_cases q2 : j = 40 + k
    · subst q2
      rw [f40]
      unfold huRa
      rw [if_neg (by omega), if_pos (by omega), show 40 + k - 40 = k by omega]
    · by_cases q3 : j = 60 + k
      · subst q3
        rw [f60]
        unfold huRa
        rw [if_neg (by omega), if_neg (by omega), if_pos (by omega), show 60 + k - 60 = k by omega]
      · by_cases q4 : j = 72
        · subst q4
          rw [f72, w 72 (by omega), huRa_72 (by omega), huRa_72 (by omega)]
          have e : huCt (huDy D n ro b s) (k + 1) = huCt (huDy D n ro b s) k + (if huDy D n ro b s k then 1 else 0) := rfl
          rw [e]
          cases huDy D n ro b s k with
          | false => rw [if_neg (by decide), if_neg (by decide)]; rfl
          | true =>
            rw [if_pos rfl, if_pos rfl, Int32.ofNat_add]
            apply Int32.toBitVec_inj.mp
            show _ + BitVec.ofNat 32 _ + 1#32 = _ + (BitVec.ofNat 32 _ + 1#32)
            exact BitVec.add_assoc _ _ _
        · rw [o j hj q1 q2 q3 q4, w j hj]
          unfold huRa
          by_cases c1 : 30 ≤ j ∧ j < 30 + k
          · rw [if_pos c1, if_pos (by omega)]
          · rw [if_neg c1]
            by_cases c2 : 40 ≤ j ∧ j < 40 + k
            · rw [if_pos c2, if_neg (by omega : ¬ (30 ≤ j ∧ j < 30 + (k + 1))), if_pos (by omega)]
            · rw [if_neg c2]
              by_cases c3 : 60 ≤ j ∧ j < 60 + k
              · rw [if_pos c3, if_neg (by omega : ¬ (30 ≤ j ∧ j < 30 + (k + 1))), if_neg (by omega : ¬ (40 ≤ j ∧ j < 40 + (k + 1))), if_pos (by omega)]
              · rw [if_neg c3, if_neg q4, if_neg (by omega : ¬ (30 ≤ j ∧ j < 30 + (k + 1))), if_neg (by omega : ¬ (40 ≤ j ∧ j < 40 + (k + 1))), if_neg (by omega : ¬ (60 ≤ j ∧ j < 60 + (k + 1))), if_neg q4]
theorem huRa.over {a a' : Nat → Int32} (w : ∀ j, j < 73 → a j = huRa D n b s ro n j) (h9 : n ≤ 10) (f70 : a' 70 = ro 70 + Int32.ofNat 1) (f71 : a' 71 = Int32.ofNat 4294967295) (o : ∀ j, j < 73 → ¬ j = 70 → ¬ j = 71 → a' j = a j) : ∀ j, j < 73 → a' j = huR D n b s ro j := fun j hj => by
  by_cases q0 : j = 70
  · rw [q0, f70]
    exact (huR_70 h9).1.symm
  · by_cases q1 : j = 71
    · rw [q1, f71]
      exact (huR_70 h9).2.1.symm
    · rw [o j hj q0 q1, w j hj]
      unfold huRa huR
      by_cases c1 : 30 ≤ j ∧ j < 30 + n
      · rw [if_pos c1, if_pos c1]
      · rw [if_neg c1, if_neg c1]
        by_cases c2 : 40 ≤ j ∧ j < 40 + n
        · rw [if_pos c2, if_pos c2]
        · rw [if_neg c2, if_neg c2]
          by_cases c3 : 60 ≤ j ∧ j < 60 + n
          · rw [if_pos c3, if_pos c3]
          · rw [if_neg c3, if_neg c3, if_neg q0, if_neg q1]
theorem huO.R (hO : huO ro n) (h9 : n ≤ 10) (hb : (ro 70).toInt ≤ 2000000) (hD : ∀ t, t < 24 → 0 ≤ D.1 t ∧ D.1 t ≤ 255) (hD2 : 0 ≤ D.2.1 ∧ D.2.1 ≤ 10000) : huO (huR D n b s ro) n ∧ (huR D n b s ro 70).toInt = (ro 70).toInt + 1 := by
  have m := hO.mix (b := b) (s := s) (k := 0) h9 hD hD2
  obtain ⟨r0, r1, r2⟩ := huR_70 (D := D) (b := b) (s := s) (ro := ro) h9
  have o2 := hO.2.1
  have e := hn_add (z := ro 70 + Int32.ofNat 1) rfl (by rw [hk_1]; omega) (by rw [hk_1]; omega)
  rw [hk_1] at e
  refine ⟨⟨fun h hn => ?_, by rw [r0]; omega, by rw [r1]; exact Or.inl hk_4294967295⟩, by rw [r0]; exact e⟩
  rw [huRm_0 h9 h (by omega), huRm_0 h9 (40 + h) (by omega), huRm_0 h9 (30 + h) (by omega), huRm_0 h9 (60 + h) (by omega)]
  exact m.1 h hn
theorem huO.I (hO : huO ro n) (h9 : n ≤ 10) (hD : ∀ t, t < 24 → 0 ≤ D.1 t ∧ D.1 t ≤ 255) (hD2 : 0 ≤ D.2.1 ∧ D.2.1 ≤ 10000) : ∀ m : Nat, (ro 70).toInt + (m : Int) ≤ 2000000 → huO (huY D n b s m ro) n ∧ (huY D n b s m ro 70).toInt = (ro 70).toInt + (m : Int)
  | 0, _ => ⟨hO, by show (ro 70).toInt = _; omega⟩
  | m + 1, hb => by
    have q := huO.I hO h9 hD hD2 m (by omega)
    have r := q.1.R (b := b) (s := s) h9 (by omega) hD hD2
    refine ⟨r.1, ?_⟩
    show (huR D n b s (huY D n b s m ro) 70).toInt = _
    omega
end HUR
/-- the same row at all places that there are gives the same hour -/
theorem hu_c {h : Nat} (hh : h < 10) : (Int32.ofNat h).toNatClampNeg = h := by
  have e := hn_c (n := h) (z := Int32.ofNat h) rfl (by omega)
  have c := hn_cn (j := Int32.ofNat h) (by omega)
  omega
section HURC
variable {D : hg_D} {n : Nat} {b : Bool} {s : Int32} {r1 r2 : Nat → Int32}
theorem huX_cg {h : Nat} (hh : h < 10) (e : ∀ j, j < 73 → r1 j = r2 j) : huX (Int32.ofNat n) r1 (Int32.ofNat h) (r1 70) = huX (Int32.ofNat n) r2 (Int32.ofNat h) (r2 70) := by
  unfold huX
  rw [hu_c hh, e h (by omega), e (10 + h) (by omega), e (40 + h) (by omega), e 70 (by omega)]
theorem huN_cg (e : ∀ j, j < 73 → r1 j = r2 j) : huN D r1 = huN D r2 := by
  unfold huN
  rw [e 70 (by omega), e 71 (by omega)]
theorem huH_cg {h : Nat} (hh : h < 10) (e : ∀ j, j < 73 → r1 j = r2 j) : huH r1 h = huH r2 h := by
  unfold huH
  rw [e (50 + h) (by omega), e (60 + h) (by omega)]
theorem huHd_cg {h : Nat} (hh : h < 10) (e : ∀ j, j < 73 → r1 j = r2 j) : huHd D n r1 h = huHd D n r2 h := by
  unfold huHd
  rw [huH_cg hh e, huN_cg e, huX_cg hh e, e (29 + h) (by omega)]
theorem huDy_cg {h : Nat} (hh : h < 10) (e : ∀ j, j < 73 → r1 j = r2 j) : huDy D n r1 b s h = huDy D n r2 b s h := by
  unfold huDy
  rw [huX_cg hh e, e (60 + h) (by omega), e 70 (by omega)]
theorem huGr_cg {h : Nat} (hh : h < 10) (e : ∀ j, j < 73 → r1 j = r2 j) : huGr D n r1 b s h = huGr D n r2 b s h := by
  unfold huGr
  rw [e (60 + h) (by omega), huDy_cg hh e]
theorem huCt_cg {f g : Nat → Bool} : ∀ k : Nat, (∀ h, h < k → f h = g h) → huCt f k = huCt g k
  | 0, _ => rfl
  | k + 1, e => by
    show huCt f k + (if f k then 1 else 0) = huCt g k + (if g k then 1 else 0)
    rw [huCt_cg k (fun h hh => e h (by omega)), e k (by omega)]
theorem huR_cg (h9 : n ≤ 10) (e : ∀ j, j < 73 → r1 j = r2 j) : ∀ j, j < 73 → huR D n b s r1 j = huR D n b s r2 j := by
  have cc : huCt (huDy D n r1 b s) n = huCt (huDy D n r2 b s) n := huCt_cg n (fun h hh => huDy_cg (by omega) e)
  intro j hj
  unfold huR
  rw [e j hj, e 70 (by omega), e 72 (by omega), cc]
  by_cases c1 : 30 ≤ j ∧ j < 30 + n
  · rw [if_pos c1, if_pos c1, huHd_cg (by omega) e]
  · rw [if_neg c1, if_neg c1]
    by_cases c2 : 40 ≤ j ∧ j < 40 + n
    · rw [if_pos c2, if_pos c2, huHd_cg (by omega) e, e (j - 40) (by omega)]
    · rw [if_neg c2, if_neg c2]
      by_cases c3 : 60 ≤ j ∧ j < 60 + n
      · rw [if_pos c3, if_pos c3, huGr_cg (by omega) e]
      · rw [if_neg c3, if_neg c3]
end HURC
