/-! AN HOUR, house by house from the last one: the row when the houses from k on are done -/
def huRm (D : hg_D) (n : Nat) (b : Bool) (s : Int32) (ro : Nat → Int32) (k : Nat) : Nat → Int32 := fun j =>
  if 30 + k ≤ j ∧ j < 30 + n then huHd D n ro (j - 30)
  else if 40 + k ≤ j ∧ j < 40 + n then ro j ||| (huHd D n ro (j - 40) &&& ro (j - 40))
  else if 60 + k ≤ j ∧ j < 60 + n then huGr D n ro b s (j - 60)
  else if j = 72 then ro 72 + Int32.ofNat (huCt (huDy D n ro b s) n) - Int32.ofNat (huCt (huDy D n ro b s) k)
  else ro j
section HSR
variable {D : hg_D} {n k h : Nat} {b : Bool} {s : Int32} {ro : Nat → Int32}
theorem hs_ac {a c : Int32} : a + c - c = a := by
  apply Int32.toBitVec_inj.mp
  show a.toBitVec + c.toBitVec - c.toBitVec = a.toBitVec
  exact BitVec.add_sub_cancel _ _
theorem huRm_low (h9 : n ≤ 10) {j : Nat} (hj : j < 30 ∨ 50 ≤ j ∧ j < 60 ∨ j = 70 ∨ j = 71) : huRm D n b s ro k j = ro j := by
  unfold huRm
  rw [if_neg (by omega), if_neg (by omega), if_neg (by omega), if_neg (by omega)]
theorem huRm_old (h9 : n ≤ 10) (hk : h < k) (hn : h < n) : huRm D n b s ro k (30 + h) = ro (30 + h) ∧ huRm D n b s ro k (40 + h) = ro (40 + h) ∧ huRm D n b s ro k (60 + h) = ro (60 + h) := by
  unfold huRm
  refine ⟨?_, ?_, ?_⟩
  · rw [if_neg (by omega), if_neg (by omega), if_neg (by omega), if_neg (by omega)]
  · rw [if_neg (by omega), if_neg (by omega), if_neg (by omega), if_neg (by omega)]
  · rw [if_neg (by omega), if_neg (by omega), if_neg (by omega), if_neg (by omega)]
theorem huRm_new (h9 : n ≤ 10) (hk : k ≤ h) (hn : h < n) : huRm D n b s ro k (30 + h) = huHd D n ro h ∧ huRm D n b s ro k (40 + h) = ro (40 + h) ||| (huHd D n ro h &&& ro h) ∧ huRm D n b s ro k (60 + h) = huGr D n ro b s h := by
  unfold huRm
  refine ⟨?_, ?_, ?_⟩
  · rw [if_pos (by omega), show 30 + h - 30 = h by omega]
  · rw [if_neg (by omega), if_pos (by omega), show 40 + h - 40 = h by omega]
  · rw [if_neg (by omega), if_neg (by omega), if_pos (by omega), show 60 + h - 60 = h by omega]
theorem huRm_72 (h9 : n ≤ 10) : huRm D n b s ro k 72 = ro 72 + Int32.ofNat (huCt (huDy D n ro b s) n) - Int32.ofNat (huCt (huDy D n ro b s) k) := by
  unfold huRm
  rw [if_neg (by omega), if_neg (by omega), if_neg (by omega), if_pos rfl]
theorem huX_at (h9 : n ≤ 10) (hk : h < k) (hn : h < n) {t : Int32} : huX (Int32.ofNat n) (huRm D n b s ro k) (Int32.ofNat h) t = huX (Int32.ofNat n) ro (Int32.ofNat h) t := by
  have c : (Int32.ofNat h).toNatClampNeg = h := by
    have e := hn_c (n := h) (z := Int32.ofNat h) rfl (by omega)
    have := hn_cn (j := Int32.ofNat h) (by omega)
    omega
  have e4 : huRm D n b s ro k h = ro h := huRm_low h9 (by omega)
  have e5 : huRm D n b s ro k (10 + h) = ro (10 + h) := huRm_low h9 (by omega)
  have e8 := (huRm_old (D := D) (b := b) (s := s) (ro := ro) h9 hk hn).2.1
  funext i
  unfold huX
  rw [c, e4, e5, e8]
theorem huRm_H (h9 : n ≤ 10) (hk : h < k) (hn : h < n) : huH (huRm D n b s ro k) h = huH ro h := by
  unfold huH
  rw [huRm_low h9 (by omega), (huRm_old h9 hk hn).2.2]
theorem hs_ofInt {v : Int} (h0 : 0 ≤ v) (h1 : v ≤ 10000) : (Int32.ofInt v).toInt = v := Int32.toInt_ofInt_of_le (by omega) (by omega)
/-- bounds stay -/
theorem huN_in (hO : huO ro n) (hD : ∀ t, t < 24 → 0 ≤ D.1 t ∧ D.1 t ≤ 255) : 0 ≤ (huN D ro).toInt ∧ (huN D ro).toInt ≤ 255 := by
  unfold huN
  split
  · have d := hD ((ro 70).toInt % 24).toNat (by have := hO.2.1; omega)
    have e := hs_ofInt d.1 (by omega)
    omega
  · have := hO.2.2
    omega
theorem huHd_in (hO : huO ro n) (hD : ∀ t, t < 24 → 0 ≤ D.1 t ∧ D.1 t ≤ 255) : 0 ≤ (huHd D n ro h).toInt ∧ (huHd D n ro h).toInt ≤ 255 := by
  unfold huHd
  split
  · split
    · exact huN_in hO hD
    · exact huW_in
  · rw [hk_0]
    omega
theorem huGr_in (hO : huO ro n) (hn : h < n) (hD2 : 0 ≤ D.2.1 ∧ D.2.1 ≤ 10000) : 0 ≤ (huGr D n ro b s h).toInt := by
  have o := (hO.1 h hn).2.2.2.1
  unfold huGr
  split
  · have e := hn_sub (z := ro (60 + h) - Int32.ofNat 1) rfl (by rw [hk_1]; omega) (by rw [hk_1]; have := hn_rng (ro (60 + h)); omega)
    rw [hk_1] at e
    omega
  · split
    · rw [hs_ofInt hD2.1 hD2.2]
      exact hD2.1
    · exact o
theorem hs_sub {a w d : Int32} (h : a &&& w = a) : (a ||| (d &&& w)) &&& w = a ||| (d &&& w) := hub_ext (fun p _ => by
  have q : (hub a p && hub w p) = hub a p := by rw [← hub_and, h]
  rw [hub_and, hub_or, hub_and]
  revert q
  cases hub a p <;> cases hub w p <;> cases hub d p <;> decide)
theorem huO.mix (hO : huO ro n) (h9 : n ≤ 10) (hD : ∀ t, t < 24 → 0 ≤ D.1 t ∧ D.1 t ≤ 255) (hD2 : 0 ≤ D.2.1 ∧ D.2.1 ≤ 10000) : huO (huRm D n b s ro k) n := by
  obtain ⟨o1, o2, o3⟩ := id hO
  refine ⟨fun h hn => ?_, by rw [huRm_low h9 (by omega)]; exact o2, by rw [huRm_low h9 (by omega)]; exact o3⟩
  obtain ⟨p1, p2, p3, p4⟩ := o1 h hn
  rw [huRm_low h9 (by omega)]
  have hd := huHd_in (h := h) hO hD
  have ha := hn_and (x := huHd D n ro h) (y := ro h) p1.1
  by_cases q : h < k
  · obtain ⟨e1, e2, e3⟩ := huRm_old (D := D) (b := b) (s := s) (ro := ro) h9 q hn
    rw [e1, e2, e3]
    exact ⟨p1, p2, p3, p4⟩
  · obtain ⟨e1, e2, e3⟩ := huRm_new (D := D) (b := b) (s := s) (ro := ro) h9 (by omega : k ≤ h) hn
    rw [e1, e2, e3]
    exact ⟨p1, hn_or p2.1 p2.2 ha.1 (by omega), hd, huGr_in hO hn hD2, hs_sub p4.2⟩
theorem huRm_n (h9 : n ≤ 10) : ∀ j, j < 73 → huRm D n b s ro n j = ro j := fun j hj => by
  unfold huRm
  rw [if_neg (by omega), if_neg (by omega), if_neg (by omega)]
  split
  next q => rw [hs_ac, q]
  · rfl
theorem huRm_0 (h9 : n ≤ 10) : ∀ j, j < 70 → huR D n b s ro j = huRm D n b s ro 0 j := fun j hj => by
  unfold huR huRm
  simp only [Nat.add_zero]
  by_cases q1 : 30 ≤ j ∧ j < 30 + n
  · rw [if_pos q1, if_pos q1]
  · rw [if_neg q1, if_neg q1]
    by_cases q2 : 40 ≤ j ∧ j < 40 + n
    · rw [if_pos q2, if_pos q2]
    · rw [if_neg q2, if_neg q2]
      by_cases q3 : 60 ≤ j ∧ j < 60 + n
      · rw [if_pos q3, if_pos q3]
      · rw [if_neg q3, if_neg q3, if_neg (by omega : ¬ j = 70), if_neg (by omega : ¬ j = 71), if_neg (by omega : ¬ j = 72), if_neg (by omega : ¬ j = 72)]
theorem huR_70 (h9 : n ≤ 10) : huR D n b s ro 70 = ro 70 + Int32.ofNat 1 ∧ huR D n b s ro 71 = Int32.ofNat 4294967295 ∧ huR D n b s ro 72 = ro 72 + Int32.ofNat (huCt (huDy D n ro b s) n) := by
  unfold huR
  refine ⟨?_, ?_, ?_⟩
  · rw [if_neg (by omega), if_neg (by omega), if_neg (by omega), if_pos rfl]
  · rw [if_neg (by omega), if_neg (by omega), if_neg (by omega), if_neg (by omega), if_pos rfl]
  · rw [if_neg (by omega), if_neg (by omega), if_neg (by omega), if_neg (by omega), if_neg (by omega), if_pos rfl]
theorem huRm_72s (h9 : n ≤ 10) : huRm D n b s ro k 72 = (if huDy D n ro b s k then huRm D n b s ro (k + 1) 72 + Int32.ofNat 1 else huRm D n b s ro (k + 1) 72) := by
  rw [huRm_72 h9, huRm_72 h9]
  have e : huCt (huDy D n ro b s) (k + 1) = huCt (huDy D n ro b s) k + (if huDy D n ro b s k then 1 else 0) := rfl
  rw [e]
  cases huDy D n ro b s k with
  | false =>
    rw [if_neg (by decide), if_neg (by decide)]
    rfl
  | true =>
    rw [if_pos rfl, if_pos rfl, Int32.ofNat_add]
    apply Int32.toBitVec_inj.mp
    show _ + _ - BitVec.ofNat 32 _ = _ + _ - (BitVec.ofNat 32 _ + 1#32) + 1#32
    bv_omega
/-- one house done -/
theorem hdL.step {L : Nat} {A A' : hs_A} (hm : hdL L (huRm D n b s ro (h + 1)) n A) (hn : h < n) (e10 : A'.1 L 10 = if huDy D n ro b s h then A.1 L 10 + Int32.ofNat 1 else A.1 L 10) (e : ∀ k, 6 ≤ k → k ≤ 9 → A'.1 L k = A.1 L k) (f5 : A'.2.1 (L + 5) h = huHd D n ro h) (f3 : A'.2.1 (L + 3) h = ro (40 + h) ||| (huHd D n ro h &&& ro h)) (f6 : A'.2.1 (L + 6) h = huGr D n ro b s h) (o : ∀ j x, 1 ≤ j → j ≤ 6 → x < 10 → ¬ (x = h ∧ (j = 3 ∨ j = 5 ∨ j = 6)) → A'.2.1 (L + j) x = A.2.1 (L + j) x) : hdL L (huRm D n b s ro h) n A' := by
  obtain ⟨h0, h1, ⟨h2, h3, h4⟩, ⟨m, m1, m2, m3⟩, h5⟩ := hm
  refine ⟨h0, by rw [e 6 (by omega) (by omega)]; exact h1, ⟨?_, ?_, ?_⟩, ⟨m, m1, by rw [e 9 (by omega) (by omega)]; exact m2, fun k hk => ?_⟩, fun k hk => ?_⟩
  · rw [e 7 (by omega) (by omega), h2, huRm_low h0 (by omega), huRm_low h0 (by omega)]
  · rw [e 8 (by omega) (by omega), h3, huRm_low h0 (by omega), huRm_low h0 (by omega)]
  · rw [e10, huRm_72s h0 (k := h), h4]
  · rw [huRm_low h0 (by omega), ← m3 k hk, huRm_low h0 (by omega)]
  · obtain ⟨⟨a1, a2, a3⟩, a4, a5, a6⟩ := h5 k hk
    rw [huRm_low h0 (by omega)] at a1 a2 a4
    rw [huRm_low h0 (by omega : k < 30 ∨ _), huRm_low h0 (by omega : 10 + k < 30 ∨ _), huRm_low h0 (by omega : 20 + k < 30 ∨ _)]
    have x1 := o 1 k (by omega) (by omega) (by omega) (by omega)
    have x2 := o 2 k (by omega) (by omega) (by omega) (by omega)
    have x4 := o 4 k (by omega) (by omega) (by omega) (by omega)
    by_cases q : k = h
    · subst q
      obtain ⟨n1, n2, n3⟩ := huRm_new (D := D) (b := b) (s := s) (ro := ro) h0 (Nat.le_refl k) hk
      rw [n1, n2, n3]
      exact ⟨⟨x1.trans a1, x2.trans a2, f3⟩, x4.trans a4, f5, f6⟩
    · have x3 := o 3 k (by omega) (by omega) (by omega) (by omega)
      have x5 := o 5 k (by omega) (by omega) (by omega) (by omega)
      have x6 := o 6 k (by omega) (by omega) (by omega) (by omega)
      by_cases q2 : k < h
      · obtain ⟨n1, n2, n3⟩ := huRm_old (D := D) (b := b) (s := s) (ro := ro) h0 q2 hk
        obtain ⟨o1, o2, o3⟩ := huRm_old (D := D) (b := b) (s := s) (ro := ro) h0 (by omega : k < h + 1) hk
        rw [n1, n2, n3]
        rw [o2] at a3
        rw [o1] at a5
        rw [o3] at a6
        exact ⟨⟨x1.trans a1, x2.trans a2, x3.trans a3⟩, x4.trans a4, x5.trans a5, x6.trans a6⟩
      · obtain ⟨n1, n2, n3⟩ := huRm_new (D := D) (b := b) (s := s) (ro := ro) h0 (by omega : h ≤ k) hk
        obtain ⟨o1, o2, o3⟩ := huRm_new (D := D) (b := b) (s := s) (ro := ro) h0 (by omega : h + 1 ≤ k) hk
        rw [n1, n2, n3]
        rw [o2] at a3
        rw [o1] at a5
        rw [o3] at a6
        exact ⟨⟨x1.trans a1, x2.trans a2, x3.trans a3⟩, x4.trans a4, x5.trans a5, x6.trans a6⟩
/-- the hour is over -/
theorem hdL.over {L : Nat} {A A' : hs_A} (hm : hdL L (huRm D n b s ro 0) n A) (e7 : A'.1 L 7 = A.1 L 7 + Int32.ofNat 1) (e8 : A'.1 L 8 = Int32.ofNat 4294967295) (e : ∀ k, k = 6 ∨ k = 9 ∨ k = 10 → A'.1 L k = A.1 L k) (f : ∀ j, 1 ≤ j → j ≤ 6 → ∀ x : Nat, x < 10 → A'.2.1 (L + j) x = A.2.1 (L + j) x) : hdL L (huR D n b s ro) n A' := by
  obtain ⟨h0, h1, ⟨h2, h3, h4⟩, ⟨m, m1, m2, m3⟩, h5⟩ := hm
  obtain ⟨r0, r1, r2⟩ := huR_70 (D := D) (b := b) (s := s) (ro := ro) h0
  refine ⟨h0, by rw [e 6 (by omega)]; exact h1, ⟨by rw [e7, h2, r0, huRm_low h0 (by omega)], by rw [e8, r1], ?_⟩, ⟨m, m1, by rw [e 9 (by omega)]; exact m2, fun k hk => by rw [huRm_0 h0 (50 + k) (by omega)]; exact m3 k hk⟩, fun k hk => ?_⟩
  · rw [e 10 (by omega), h4, r2, huRm_72 h0]
    show _ - Int32.ofNat 0 = _
    apply Int32.toBitVec_inj.mp
    show _ - 0#32 = _
    exact BitVec.sub_zero _
  · obtain ⟨⟨a1, a2, a3⟩, a4, a5, a6⟩ := h5 k hk
    rw [huRm_0 h0 k (by omega), huRm_0 h0 (10 + k) (by omega), huRm_0 h0 (40 + k) (by omega), huRm_0 h0 (20 + k) (by omega), huRm_0 h0 (30 + k) (by omega), huRm_0 h0 (60 + k) (by omega)]
    exact ⟨⟨(f 1 (by omega) (by omega) k (by omega)).trans a1, (f 2 (by omega) (by omega) k (by omega)).trans a2, (f 3 (by omega) (by omega) k (by omega)).trans a3⟩, (f 4 (by omega) (by omega) k (by omega)).trans a4, (f 5 (by omega) (by omega) k (by omega)).trans a5, (f 6 (by omega) (by omega) k (by omega)).trans a6⟩
end HSR
