theorem hk_0 : (Int32.ofNat 0).toInt = 0 := by decide
theorem hk_1 : (Int32.ofNat 1).toInt = 1 := by decide
theorem hk_2 : (Int32.ofNat 2).toInt = 2 := by decide
theorem hk_3 : (Int32.ofNat 3).toInt = 3 := by decide
theorem hk_4 : (Int32.ofNat 4).toInt = 4 := by decide
theorem hk_5 : (Int32.ofNat 5).toInt = 5 := by decide
theorem hk_6 : (Int32.ofNat 6).toInt = 6 := by decide
theorem hk_7 : (Int32.ofNat 7).toInt = 7 := by decide
theorem hk_8 : (Int32.ofNat 8).toInt = 8 := by decide
theorem hk_9 : (Int32.ofNat 9).toInt = 9 := by decide
theorem hk_10 : (Int32.ofNat 10).toInt = 10 := by decide
theorem hk_11 : (Int32.ofNat 11).toInt = 11 := by decide
theorem hk_12 : (Int32.ofNat 12).toInt = 12 := by decide
theorem hk_13 : (Int32.ofNat 13).toInt = 13 := by decide
theorem hk_14 : (Int32.ofNat 14).toInt = 14 := by decide
theorem hk_15 : (Int32.ofNat 15).toInt = 15 := by decide
theorem hk_16 : (Int32.ofNat 16).toInt = 16 := by decide
theorem hk_17 : (Int32.ofNat 17).toInt = 17 := by decide
theorem hk_18 : (Int32.ofNat 18).toInt = 18 := by decide
theorem hk_19 : (Int32.ofNat 19).toInt = 19 := by decide
theorem hk_20 : (Int32.ofNat 20).toInt = 20 := by decide
theorem hk_21 : (Int32.ofNat 21).toInt = 21 := by decide
theorem hk_22 : (Int32.ofNat 22).toInt = 22 := by decide
theorem hk_23 : (Int32.ofNat 23).toInt = 23 := by decide
theorem hk_24 : (Int32.ofNat 24).toInt = 24 := by decide
theorem hk_25 : (Int32.ofNat 25).toInt = 25 := by decide
theorem hk_26 : (Int32.ofNat 26).toInt = 26 := by decide
theorem hk_27 : (Int32.ofNat 27).toInt = 27 := by decide
theorem hk_28 : (Int32.ofNat 28).toInt = 28 := by decide
theorem hk_29 : (Int32.ofNat 29).toInt = 29 := by decide
theorem hk_30 : (Int32.ofNat 30).toInt = 30 := by decide
theorem hk_31 : (Int32.ofNat 31).toInt = 31 := by decide
theorem hk_32 : (Int32.ofNat 32).toInt = 32 := by decide
theorem hk_39 : (Int32.ofNat 39).toInt = 39 := by decide
theorem hk_40 : (Int32.ofNat 40).toInt = 40 := by decide
theorem hk_41 : (Int32.ofNat 41).toInt = 41 := by decide
theorem hk_42 : (Int32.ofNat 42).toInt = 42 := by decide
theorem hk_43 : (Int32.ofNat 43).toInt = 43 := by decide
theorem hk_45 : (Int32.ofNat 45).toInt = 45 := by decide
theorem hk_47 : (Int32.ofNat 47).toInt = 47 := by decide
theorem hk_48 : (Int32.ofNat 48).toInt = 48 := by decide
theorem hk_50 : (Int32.ofNat 50).toInt = 50 := by decide
theorem hk_57 : (Int32.ofNat 57).toInt = 57 := by decide
theorem hk_59 : (Int32.ofNat 59).toInt = 59 := by decide
theorem hk_60 : (Int32.ofNat 60).toInt = 60 := by decide
theorem hk_61 : (Int32.ofNat 61).toInt = 61 := by decide
theorem hk_63 : (Int32.ofNat 63).toInt = 63 := by decide
theorem hk_64 : (Int32.ofNat 64).toInt = 64 := by decide
theorem hk_70 : (Int32.ofNat 70).toInt = 70 := by decide
theorem hk_71 : (Int32.ofNat 71).toInt = 71 := by decide
theorem hk_72 : (Int32.ofNat 72).toInt = 72 := by decide
theorem hk_73 : (Int32.ofNat 73).toInt = 73 := by decide
theorem hk_97 : (Int32.ofNat 97).toInt = 97 := by decide
theorem hk_99 : (Int32.ofNat 99).toInt = 99 := by decide
theorem hk_100 : (Int32.ofNat 100).toInt = 100 := by decide
theorem hk_101 : (Int32.ofNat 101).toInt = 101 := by decide
theorem hk_102 : (Int32.ofNat 102).toInt = 102 := by decide
theorem hk_103 : (Int32.ofNat 103).toInt = 103 := by decide
theorem hk_104 : (Int32.ofNat 104).toInt = 104 := by decide
theorem hk_105 : (Int32.ofNat 105).toInt = 105 := by decide
theorem hk_107 : (Int32.ofNat 107).toInt = 107 := by decide
theorem hk_108 : (Int32.ofNat 108).toInt = 108 := by decide
theorem hk_109 : (Int32.ofNat 109).toInt = 109 := by decide
theorem hk_110 : (Int32.ofNat 110).toInt = 110 := by decide
theorem hk_111 : (Int32.ofNat 111).toInt = 111 := by decide
theorem hk_112 : (Int32.ofNat 112).toInt = 112 := by decide
theorem hk_114 : (Int32.ofNat 114).toInt = 114 := by decide
theorem hk_115 : (Int32.ofNat 115).toInt = 115 := by decide
theorem hk_116 : (Int32.ofNat 116).toInt = 116 := by decide
theorem hk_117 : (Int32.ofNat 117).toInt = 117 := by decide
theorem hk_119 : (Int32.ofNat 119).toInt = 119 := by decide
theorem hk_121 : (Int32.ofNat 121).toInt = 121 := by decide
theorem hk_122 : (Int32.ofNat 122).toInt = 122 := by decide
theorem hk_130 : (Int32.ofNat 130).toInt = 130 := by decide
theorem hk_137 : (Int32.ofNat 137).toInt = 137 := by decide
theorem hk_219 : (Int32.ofNat 219).toInt = 219 := by decide
theorem hk_255 : (Int32.ofNat 255).toInt = 255 := by decide
theorem hk_256 : (Int32.ofNat 256).toInt = 256 := by decide
theorem hk_257 : (Int32.ofNat 257).toInt = 257 := by decide
theorem hk_260 : (Int32.ofNat 260).toInt = 260 := by decide
theorem hk_400 : (Int32.ofNat 400).toInt = 400 := by decide
theorem hk_401 : (Int32.ofNat 401).toInt = 401 := by decide
theorem hk_403 : (Int32.ofNat 403).toInt = 403 := by decide
theorem hk_408 : (Int32.ofNat 408).toInt = 408 := by decide
theorem hk_420 : (Int32.ofNat 420).toInt = 420 := by decide
theorem hk_576 : (Int32.ofNat 576).toInt = 576 := by decide
theorem hk_840 : (Int32.ofNat 840).toInt = 840 := by decide
theorem hk_1980 : (Int32.ofNat 1980).toInt = 1980 := by decide
theorem hk_2000 : (Int32.ofNat 2000).toInt = 2000 := by decide
theorem hk_2847 : (Int32.ofNat 2847).toInt = 2847 := by decide
theorem hk_2920 : (Int32.ofNat 2920).toInt = 2920 := by decide
theorem hk_9999 : (Int32.ofNat 9999).toInt = 9999 := by decide
theorem hk_12345 : (Int32.ofNat 12345).toInt = 12345 := by decide
theorem hk_13824 : (Int32.ofNat 13824).toInt = 13824 := by decide
theorem hk_252645135 : (Int32.ofNat 252645135).toInt = 252645135 := by decide
theorem hk_858993459 : (Int32.ofNat 858993459).toInt = 858993459 := by decide
theorem hk_1103515245 : (Int32.ofNat 1103515245).toInt = 1103515245 := by decide
theorem hk_1431655765 : (Int32.ofNat 1431655765).toInt = 1431655765 := by decide
theorem hk_4294967288 : (Int32.ofNat 4294967288).toInt = -8 := by decide
theorem hk_4294967294 : (Int32.ofNat 4294967294).toInt = -2 := by decide
theorem hk_4294967295 : (Int32.ofNat 4294967295).toInt = -1 := by decide
theorem hL26 : hLL 26 := by
  unfold hLL
  decide
theorem hL33 : hLL 33 := by
  unfold hLL
  decide
theorem hn_ix0 {j : Int32} {ej : Int} (hj : j.toInt = ej) (h : 0 ≤ ej) : ¬ j < 0 := by
  rw [Int32.lt_iff_toInt_lt]
  have : (0 : Int32).toInt = 0 := by decide
  omega
theorem hn_cn {j : Int32} (h : 0 ≤ j.toInt) : (j.toNatClampNeg : Int) = j.toInt := by
  show (j.toInt.toNat : Int) = _
  omega
theorem haa_rows {j : Int32} {ej : Int} (hj : j.toInt = ej) (h0 : 0 ≤ ej) (h1 : ej ≤ 9) : ∃ R, hRR R ∧ ([331, 332, 333, 334, 335, 336, 337, 338, 339, 340] : List Nat)[j.toNatClampNeg]? = some (R + 1) := by
  have e : j.toNatClampNeg = ej.toNat := by rw [← hj]; rfl
  rw [e]
  have : ej = 0 ∨ ej = 1 ∨ ej = 2 ∨ ej = 3 ∨ ej = 4 ∨ ej = 5 ∨ ej = 6 ∨ ej = 7 ∨ ej = 8 ∨ ej = 9 := by omega
  rcases this with rfl | rfl | rfl | rfl | rfl | rfl | rfl | rfl | rfl | rfl
  · exact ⟨330, by unfold hRR; omega, rfl⟩
  · exact ⟨331, by unfold hRR; omega, rfl⟩
  · exact ⟨332, by unfold hRR; omega, rfl⟩
  · exact ⟨333, by unfold hRR; omega, rfl⟩
  · exact ⟨334, by unfold hRR; omega, rfl⟩
  · exact ⟨335, by unfold hRR; omega, rfl⟩
  · exact ⟨336, by unfold hRR; omega, rfl⟩
  · exact ⟨337, by unfold hRR; omega, rfl⟩
  · exact ⟨338, by unfold hRR; omega, rfl⟩
  · exact ⟨339, by unfold hRR; omega, rfl⟩
def hl_l40 : List Nat := [43, 50, 57, 64, 71, 78, 85, 92, 99, 106, 113, 120, 127, 134, 141, 148, 155, 162, 169, 176, 183, 190, 197, 204, 211, 218, 225, 232, 239, 246, 253, 260, 267, 274, 281, 288, 295, 302, 309, 316]
theorem haa_list {l : List Nat} (hl : (l.all fun x => decide (x - 1 ∈ hl_L ∧ 1 ≤ x)) = true) {n : Nat} (hn : n < l.length) : ∃ L, hLL L ∧ l[n]? = some (L + 1) := by
  have h := List.all_eq_true.mp hl (l[n]) (List.getElem_mem hn)
  have h2 := of_decide_eq_true h
  exact ⟨l[n] - 1, h2.1, by rw [List.getElem?_eq_getElem hn]; congr 1; omega⟩
theorem haa_lives {j : Int32} {ej : Int} (hj : j.toInt = ej) (h0 : 0 ≤ ej) (h1 : ej ≤ 39) : ∃ L, hLL L ∧ hl_l40[j.toNatClampNeg]? = some (L + 1) := haa_list (by decide +kernel) (by show j.toInt.toNat < 40; omega)
theorem haa_slots {j : Int32} {ej : Int} (hj : j.toInt = ej) (h0 : 0 ≤ ej) (h1 : ej ≤ 2) : ∃ L, hLL L ∧ ([347, 354, 361] : List Nat)[j.toNatClampNeg]? = some (L + 1) := haa_list (by decide +kernel) (by show j.toInt.toNat < 3; omega)
theorem hJ.low {Q : Nat} {Bn Br Br' : Int} {A0 A : hs_A} (h : hJ Q Bn Br A0 A) (q : (A.2.1 396 70).toInt ≤ Br') : hJ Q Bn Br' A0 A := ⟨h.1, ⟨⟨h.2.1.1.1, q⟩, h.2.1.2⟩, h.2.2⟩
theorem hcp {A A' : hs_A} {c : Nat} {B : Int} {j v z : Int32} (e : A'.2.1 = hs_up A.2.1 c j.toNatClampNeg v) (hj : 0 ≤ j.toInt) (hf : ¬ j.toInt = 70 ∨ (0 ≤ v.toInt ∧ v.toInt ≤ B)) (hz : z.toInt = j.toInt + 1) (u : j.toInt ≤ 70 ∨ (A.2.1 c 70).toInt ≤ B) : z.toInt ≤ 70 ∨ (A'.2.1 c 70).toInt ≤ B := by
  have hn := hn_cn hj
  rw [e]
  by_cases q : j.toInt = 70
  · right
    have : j.toNatClampNeg = 70 := by omega
    rw [this, hup1]
    omega
  · rw [hup2 (by omega)]
    omega
theorem hcode {A A' : hs_A} {m x z : Int32} (e : A'.2.1 = hs_up A.2.1 402 m.toNatClampNeg x) (u : ∀ j : Nat, (j : Int) < m.toInt → 0 ≤ (A.2.1 402 j).toInt ∧ (A.2.1 402 j).toInt ≤ 255) (hm : 0 ≤ m.toInt) (h0 : 0 ≤ x.toInt) (h1 : x.toInt ≤ 255) (hz : z.toInt = m.toInt + 1) : ∀ j : Nat, (j : Int) < z.toInt → 0 ≤ (A'.2.1 402 j).toInt ∧ (A'.2.1 402 j).toInt ≤ 255 := by
  intro j hj
  have hn := hn_cn hm
  rw [e]
  by_cases q : j = m.toNatClampNeg
  · subst q
    rw [hup1]
    exact ⟨h0, h1⟩
  · rw [hup2 (by omega)]
    exact u j (by omega)
theorem hn_sar3 {x : Int32} (h : 0 ≤ x.toInt) : 0 ≤ (x >>> (Int32.ofNat 3 &&& 31)).toInt := by
  have e : (Int32.ofNat 3 &&& 31) = (3 : Int32) := by decide
  rw [e]
  have : (x >>> (3 : Int32)).toInt = x.toBitVec.toInt >>> 3 := by
    show (x >>> (3 : Int32)).toBitVec.toInt = _
    rw [Int32.toBitVec_shiftRight]
    rw [BitVec.toInt_sshiftRight']
    rfl
  rw [this]
  have h' : 0 ≤ x.toBitVec.toInt := h
  rw [Int.shiftRight_eq_div_pow]
  exact Int.ediv_nonneg h' (by decide)
theorem hworth {a x y s w : Int32} (h : hVs a) (hx : a = x) (hy : a = y) (hs : s = x &&& Int32.ofNat 7) (hw : w = y >>> (Int32.ofNat 3 &&& 31)) : ¬ s.toInt = 1 ∨ 0 ≤ w.toInt := by
  subst hx
  subst hy
  by_cases q : s.toInt = 1
  · right
    have e : a &&& 7 = 1 := by
      rw [hs] at q
      exact Int32.toInt_inj.mp (q.trans (by decide))
    rw [hw]
    exact hn_sar3 (h e)
  · exact Or.inl q
def hbc_us (x : Int32) (y : Int32) : Int32 := (x.toUInt32 >>> (y.toUInt32 &&& Int32.toUInt32 31)).toInt32
def hbc1 (x : Int32) : Int32 := x - (hbc_us x (Int32.ofNat 1) &&& Int32.ofNat 1431655765)
def hbc2 (x : Int32) : Int32 := (x &&& Int32.ofNat 858993459) + (hbc_us x (Int32.ofNat 2) &&& Int32.ofNat 858993459)
def hbc3 (x : Int32) : Int32 := (x + hbc_us x (Int32.ofNat 4)) &&& Int32.ofNat 252645135
def hbc4 (x : Int32) : Int32 := x + hbc_us x (Int32.ofNat 8)
def hbc5 (x : Int32) : Int32 := x + hbc_us x (Int32.ofNat 16)
def hbc (x : Int32) : Int32 := hbc5 (hbc4 (hbc3 (hbc2 (hbc1 x)))) &&& Int32.ofNat 63
theorem hbc_all : (List.range 256).all (fun n => decide (0 ≤ (hbc (Int32.ofNat n)).toInt ∧ (hbc (Int32.ofNat n)).toInt ≤ 8)) = true := by decide +kernel
theorem hbc_le {x : Int32} (h0 : 0 ≤ x.toInt) (h1 : x.toInt ≤ 255) : 0 ≤ (hbc x).toInt ∧ (hbc x).toInt ≤ 8 := by
  have e : x = Int32.ofNat x.toInt.toNat := by
    apply Int32.toInt_inj.mp
    rw [hn_c (n := x.toInt.toNat) rfl (by omega)]
    omega
  have := List.all_eq_true.mp hbc_all x.toInt.toNat (List.mem_range.mpr (by omega))
  rw [← e] at this
  exact of_decide_eq_true this
theorem hX242 {d : Nat} {A : hs_A} (a1 : Int32) : hxC (d + 1) 242 hm_m242 [.int a1] A (fun r A' => A = A' ∧ ∃ z : Int32, r = some (.int z) ∧ (a1.toInt < 0 ∨ 255 < a1.toInt ∨ (0 ≤ z.toInt ∧ z.toInt ≤ 8))) := by
  have key : ∀ z, z = hbc a1 → (a1.toInt < 0 ∨ 255 < a1.toInt ∨ (0 ≤ z.toInt ∧ z.toInt ≤ 8)) := by
    intro z hz
    rw [hz]
    by_cases h0 : a1.toInt < 0
    · exact Or.inl h0
    · by_cases h1 : 255 < a1.toInt
      · exact Or.inr (Or.inl h1)
      · exact Or.inr (Or.inr (hbc_le (by omega) (by omega)))
  refine hxC.of (by rfl) ?_
  refine hxa_iload_n (by rfl) rfl ?_
  refine hxa_iload_n (by rfl) rfl ?_
  refine hxa_iconst (by rfl) rfl ?_
  refine hxa_iushr (by rfl) ?_
  refine hxa_ldc_w (by rfl) rfl ?_
  refine hxa_iand (by rfl) ?_
  refine hxa_isub (by rfl) (hn_top (fun z1 e1 => ?_))
  refine hxa_s1 (by rfl) (Or.inl ⟨_, rfl, rfl⟩) rfl ?_
  refine hxa_iload_n (by rfl) rfl ?_
  refine hxa_ldc_w (by rfl) rfl ?_
  refine hxa_iand (by rfl) ?_
  refine hxa_iload_n (by rfl) rfl ?_
  refine hxa_iconst (by rfl) rfl ?_
  refine hxa_iushr (by rfl) ?_
  refine hxa_ldc_w (by rfl) rfl ?_
  refine hxa_iand (by rfl) ?_
  refine hxa_iadd (by rfl) (hn_top (fun z2 e2 => ?_))
  refine hxa_s1 (by rfl) (Or.inl ⟨_, rfl, rfl⟩) rfl ?_
  refine hxa_iload_n (by rfl) rfl ?_
  refine hxa_iload_n (by rfl) rfl ?_
  refine hxa_iconst (by rfl) rfl ?_
  refine hxa_iushr (by rfl) ?_
  refine hxa_iadd (by rfl) ?_
  refine hxa_ldc_w (by rfl) rfl ?_
  refine hxa_iand (by rfl) (hn_top (fun z3 e3 => ?_))
  refine hxa_s1 (by rfl) (Or.inl ⟨_, rfl, rfl⟩) rfl ?_
  refine hxa_iload_n (by rfl) rfl ?_
  refine hxa_iload_n (by rfl) rfl ?_
  refine hxa_bipush (by rfl) rfl ?_
  refine hxa_iushr (by rfl) ?_
  refine hxa_iadd (by rfl) (hn_top (fun z4 e4 => ?_))
  refine hxa_s1 (by rfl) (Or.inl ⟨_, rfl, rfl⟩) rfl ?_
  refine hxa_iload_n (by rfl) rfl ?_
  refine hxa_iload_n (by rfl) rfl ?_
  refine hxa_bipush (by rfl) rfl ?_
  refine hxa_iushr (by rfl) ?_
  refine hxa_iadd (by rfl) (hn_top (fun z5 e5 => ?_))
  refine hxa_s1 (by rfl) (Or.inl ⟨_, rfl, rfl⟩) rfl ?_
  refine hxa_iload_n (by rfl) rfl ?_
  refine hxa_bipush (by rfl) rfl ?_
  refine hxa_iand (by rfl) ?_
  refine hxa_ireturn (by rfl) rfl ⟨rfl, _, rfl, key _ ?_⟩
  have g1 : z1 = hbc1 a1 := e1
  have g2 : z2 = hbc2 z1 := e2
  have g3 : z3 = hbc3 z2 := e3
  have g4 : z4 = hbc4 z3 := e4
  have g5 : z5 = hbc5 z4 := e5
  rw [g5, g4, g3, g2, g1]
  rfl
theorem hfm_sgn {x y : Int32} (hy : y.toInt = 24) : (x ^^^ y).toInt < 0 ↔ x.toInt < 0 := by
  have e : y = 24 := Int32.toInt_inj.mp (hy.trans (by decide))
  subst e
  have m1 : ∀ w : Int32, w.toInt < 0 ↔ w.toBitVec.msb = true := fun w => by
    rw [BitVec.msb_eq_toInt]
    exact decide_eq_true_iff.symm
  rw [m1, m1, Int32.toBitVec_xor, BitVec.msb_xor]
  have : (24 : Int32).toBitVec.msb = false := by decide
  rw [this]
  simp
theorem hfm_neg {x y : Int32} (hx : x.toInt < 0) (hy : y.toInt = 24) : -23 ≤ (x - x / y * y).toInt ∧ (x - x / y * y).toInt ≤ 0 := by
  have e : y = 24 := Int32.toInt_inj.mp (hy.trans (by decide))
  have hd : (x / y).toInt = x.toInt.tdiv y.toInt := Int32.toInt_div_of_ne_right _ _ (by rw [e]; decide)
  have e2 : x.toInt.tdiv 24 = -((-x.toInt) / 24) := by
    have := Int.neg_tdiv (-x.toInt) 24
    rw [Int.neg_neg] at this
    rw [this, Int.tdiv_eq_ediv_of_nonneg (by omega)]
  rw [hy, e2] at hd
  have rx := hn_rng x
  have hm : (x / y * y).toInt = (x / y).toInt * y.toInt := hn_mul rfl (by rw [hd, hy]; omega) (by rw [hd, hy]; omega)
  rw [hd, hy] at hm
  have := hn_sub (z := x - x / y * y) rfl (by rw [hm]; omega) (by rw [hm]; omega)
  rw [hm] at this
  omega
theorem hX243 {d : Nat} {A : hs_A} (a1 a2 : Int32) (x0 : ¬ a2.toInt = 0) : hxC (d + 1) 243 hm_m243 [.int a1, .int a2] A (fun r A' => A = A' ∧ ∃ z : Int32, r = some (.int z) ∧ (¬ a2.toInt = 24 ∨ (0 ≤ z.toInt ∧ z.toInt ≤ 23))) := by
  refine hxC.of (by rfl) ?_
  refine hxa_iload_n (by rfl) rfl ?_
  refine hxa_iload_n (by rfl) rfl ?_
  refine hxa_irem (by rfl) (hn_nz x0) (hn_top (fun z1 e1 => ?_))
  refine hxa_s1 (by rfl) (Or.inl ⟨_, rfl, rfl⟩) rfl ?_
  refine hxa_iload_n (by rfl) rfl ?_
  refine hxa_iload_n (by rfl) rfl ?_
  refine hxa_ixor (by rfl) (hn_top (fun z2 e2 => ?_))
  refine hxj_zge (by rfl) rfl (fun q => ?_) (fun q => ?_)
  · refine hxa_iload_n (by rfl) rfl ?_
    refine hxa_ireturn (by rfl) rfl ⟨rfl, _, rfl, ?_⟩
    by_cases h : a2.toInt = 24
    · right
      have s := hfm_sgn (x := a1) h
      rw [← e2] at s
      have := hn_rem (x := a1) (y := a2) (by omega) (by omega)
      rw [← e1, h] at this
      omega
    · exact Or.inl h
  · refine hxa_iload_n (by rfl) rfl ?_
    have key : a2.toInt = 24 → -23 ≤ z1.toInt ∧ z1.toInt ≤ 0 := fun h => by
      have s := hfm_sgn (x := a1) h
      rw [← e2] at s
      rw [e1]
      exact hfm_neg (by omega) h
    refine hxj_zeq (by rfl) rfl (fun q2 => ?_) (fun q2 => ?_)
    · refine hxa_iload_n (by rfl) rfl ?_
      exact hxa_ireturn (by rfl) rfl ⟨rfl, _, rfl, by omega⟩
    · refine hxa_iload_n (by rfl) rfl ?_
      refine hxa_iload_n (by rfl) rfl ?_
      refine hxa_iadd (by rfl) (hn_top (fun z3 e3 => ?_))
      refine hxa_ireturn (by rfl) rfl ⟨rfl, _, rfl, ?_⟩
      by_cases h : a2.toInt = 24
      · right
        have k := key h
        have := hn_add e3 (by omega) (by omega)
        omega
      · exact Or.inl h
theorem hX246 {d : Nat} {Q : Nat} {Bn Br : Int} {A0 A : hs_A} {C m : Nat} {a2 : Int32} (hA : hJ Q Bn Br A0 A) (hC : hc_get hs_sh C = some (0, 1, [m])) (hm : m < 100000) (hx : hb_ok (hb_a C) a2) (hr : hr_a Q C = true) (hq' : hq Q C = true) : hxC (d + 1) 246 hm_m246 [.ref (C + 1), .int a2] A (fun r A' => hJ Q Bn Br A0 A' ∧ r = none) := by
  refine hxC.of (by rfl) ?_
  refine hxa_iconst (by rfl) rfl ?_
  refine hxa_s1 (by rfl) (Or.inl ⟨_, rfl, rfl⟩) rfl ?_
  refine hxa_aload_n (by rfl) rfl ?_
  refine hxa_alen (by rfl) rfl hC (hn_top (fun z ez => ?_))
  have hz : z.toInt = m := hn_c ez (by omega)
  refine hxa_s1 (by rfl) (Or.inl ⟨_, rfl, rfl⟩) rfl ?_
  have L : ∀ (n : Nat) (i : Int32) (A1 : hs_A) (h1 : hJ Q Bn Br A0 A1) (h0 : 0 ≤ i.toInt) (h2 : i.toInt ≤ m) (hn : (m : Int) - i.toInt < n), hxa d none hm_t246 5 [.ref (C + 1), .int a2, .int i, .int z] [] A1 (fun r A' => hJ Q Bn Br A0 A' ∧ r = none) := by
    intro n
    induction n with
    | zero => intro i A1 h1 h0 h2 hn; exact False.elim (by omega)
    | succ n ih =>
      intro i A1 h1 h0 h2 hn
      refine hxa_iload_n (by rfl) rfl ?_
      refine hxa_iload_n (by rfl) rfl ?_
      refine hxj_cge (by rfl) rfl hz (fun q => ?_) (fun q => ?_)
      · exact hxa_return (by rfl) rfl ⟨h1, rfl⟩
      · refine hxa_aload_n (by rfl) rfl ?_
        refine hxa_iload_n (by rfl) rfl ?_
        refine hxa_iload_n (by rfl) rfl ?_
        refine hxj_iast (by rfl) hC rfl (by omega) (by omega) h1 hx hr hq' (fun A2 h2 e2 f2 g2 => ?_)
        refine hxj_iinc (by rfl) rfl rfl hk_1 (by omega) (by omega) (fun _ => rfl) (fun i2 e => ?_)
        refine hxa_goto (by rfl) ?_
        exact ih i2 A2 h2 (by omega) (by omega) (by omega)
  have k0 := hk_0
  exact L (m + 1) _ A hA (by omega) (by omega) (by omega)
theorem hsame {A : hs_A} {i : Nat} {j j' v v' : Int32} (e : A.2.1 i j.toNatClampNeg = v) (e' : A.2.1 i j'.toNatClampNeg = v') (h : j.toInt = j'.toInt) : v = v' := by
  have : j = j' := Int32.toInt_inj.mp h
  subst this
  exact e.symm.trans e'
theorem hJ.pos {Q : Nat} {Bn Br : Int} {A0 A : hs_A} (h : hJ Q Bn Br A0 A) : 0 ≤ Bn ∧ 0 ≤ Br := by
  have a := h.2.1.1
  have b := h.2.1.2.1
  omega
theorem hfr {Q : Nat} {Bn Br : Int} {A0 A : hs_A} {i j : Nat} {v : Int32} (hA : hJ Q Bn Br A0 A) (h : hr_a Q i = false) (e : A.2.1 i j = v) : A0.2.1 i j = v := (hA.2.2.1.2.1 i h j).symm.trans e
theorem hfrf {Q : Nat} {Bn Br : Int} {A0 A : hs_A} {i k : Nat} {v : Int32} (hA : hJ Q Bn Br A0 A) (h : hr_f Q i k = false) (e : A.1 i k = v) : A0.1 i k = v := (hA.2.2.1.1 i k h).symm.trans e
theorem hWn {K I : Nat → Int32} {n c h n' c' h' : Nat} (w : hW K I n c h) (e1 : n = n') (e2 : c = c') (e3 : h = h') : hW K I n' c' h' := by
  subst e1
  subst e2
  subst e3
  exact w
theorem hWc {Bn Br : Int} {A0 A : hs_A} {b c z t : Int32} (hA : hJ 0 Bn Br A0 A) (u : hW (A0.2.1 390) (A0.2.1 391) (b.toInt - c.toInt).toNat c.toInt.toNat t.toInt.toNat) (h0 : 0 ≤ c.toInt) (h1 : c.toInt < b.toInt) (e : A.2.1 390 c.toNatClampNeg = z) : (z.toInt = 0 ∧ hW (A0.2.1 390) (A0.2.1 391) (b.toInt - (c.toInt + 1)).toNat (c.toInt + 1).toNat (t.toInt.toNat + 1)) ∨ (z.toInt = 1 ∧ (0 ≤ (A.2.1 391 c.toNatClampNeg).toInt ∧ (A.2.1 391 c.toNatClampNeg).toInt ≤ 8) ∧ hW (A0.2.1 390) (A0.2.1 391) (b.toInt - (c.toInt + 1)).toNat (c.toInt + 1).toNat (t.toInt.toNat + 1)) ∨ ((2 ≤ z.toInt ∧ z.toInt ≤ 5) ∧ 2 ≤ t.toInt.toNat ∧ hW (A0.2.1 390) (A0.2.1 391) (b.toInt - (c.toInt + 1)).toNat (c.toInt + 1).toNat (t.toInt.toNat - 1)) := by
  have e1 : (b.toInt - c.toInt).toNat = (b.toInt - (c.toInt + 1)).toNat + 1 := by omega
  have e2 : c.toNatClampNeg = c.toInt.toNat := rfl
  have e3 : (c.toInt + 1).toNat = c.toInt.toNat + 1 := by omega
  have f1 : A.2.1 391 c.toNatClampNeg = A0.2.1 391 c.toNatClampNeg := hA.2.2.1.2.1 391 rfl _
  have f0 := hfr hA rfl e
  rw [e1] at u
  rw [f1, e2, e3]
  rw [e2] at f0
  rw [← f0]
  exact u
theorem hZc {Bn Br : Int} {A0 A : hs_A} {a k b z : Int32} (hA : hJ 0 Bn Br A0 A) (h0 : 0 ≤ a.toInt) (ha : a.toInt = 4 * (A0.1 367 18).toInt + k.toInt) (hk0 : 0 ≤ k.toInt) (hk1 : k.toInt ≤ 3) (e : A.2.1 384 a.toNatClampNeg = z) (hb : (A0.2.1 383 a.toNatClampNeg).toInt ≤ b.toInt) (hz : b.toInt < z.toInt) : (0 ≤ b.toInt ∧ b.toInt < 260) ∧ (¬ (A0.2.1 385 b.toNatClampNeg).toInt = 0 → hWt (A0.1 367 18).toInt A0 (A0.2.1 386 b.toNatClampNeg) (A0.2.1 387 b.toNatClampNeg) ∧ hWt (A0.1 367 18).toInt A0 (A0.2.1 387 b.toNatClampNeg) (A0.2.1 388 b.toNatClampNeg)) ∧ hWt (A0.1 367 18).toInt A0 (A0.2.1 388 b.toNatClampNeg) (A0.2.1 389 b.toNatClampNeg) := by
  have hn := hn_cn h0
  have hlv := hA.2.2.2.1.2.2.2.2
  have f := hfr hA rfl e
  rcases hA.2.2.2.1.2.2.2.1 a.toNatClampNeg (by omega) (by omega) with q | q
  · rw [f] at q
    omega
  · have hb0 : 0 ≤ b.toInt := by omega
    have hnb := hn_cn hb0
    have q2 := q.2.2 b.toNatClampNeg (by omega) (by rw [f]; omega)
    have q1 := q.2.1
    rw [f] at q1
    exact ⟨⟨hb0, by omega⟩, q2⟩
theorem hn_lt24 {j : Int32} {ej : Int} (hj : j.toInt = ej) (h0 : 0 ≤ ej) (h1 : ej < 24) : j.toNatClampNeg < 24 := by
  show j.toInt.toNat < 24
  omega
