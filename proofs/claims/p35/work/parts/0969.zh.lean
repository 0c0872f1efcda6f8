def hlS (xs : Nat → Int32) (j : Nat) : Option Int32 := if j < 10000 then some (xs j) else none
theorem hly_sld {L : Nat} {xs : Nat → Int32} {d pc len r1 r2 : Nat} {l st : List Value} {A : hs_A} {j : Int32} {ej : Int} (hI : hc_get hm_law pc = some (.iaload, len, r1, r2)) (hL : L ≤ 3072) (hj : j.toInt = ej) (h0 : 0 ≤ ej) (h1 : ej < (L : Int)) (k : ∀ x : Int32, x = xs ej.toNat → hlx (L, hlS xs) d (pc + 1) l (.int x :: st) A) : hlx (L, hlS xs) d pc l (.int j :: .ref 0 :: st) A := by
  subst hj
  have c := hn_cn h0
  have hlt : j.toNatClampNeg < 10000 := by omega
  exact hlx_sld (LS := (L, hlS xs)) hI h0 h1 (if_pos hlt) (k _ rfl)
theorem hly_iadd {LS : Nat × (Nat → Option Int32)} {d pc len r1 r2 : Nat} {l st : List Value} {A : hs_A} {x y : Int32} {ex ey : Int} (hI : hc_get hm_law pc = some (.iadd, len, r1, r2)) (hx : x.toInt = ex) (hy : y.toInt = ey) (h1 : -2147483648 ≤ ex + ey) (h2 : ex + ey ≤ 2147483647) (k : ∀ z : Int32, z.toInt = ex + ey → hlx LS d (pc + 1) l (.int z :: st) A) : hlx LS d pc l (.int y :: .int x :: st) A := by
  subst hx
  subst hy
  exact hlx_iadd hI (k _ (hn_add rfl h1 h2))
theorem hlc_feed {L : Nat} {xs : Nat → Int32} {N : Int} {i : Int32} {A : hs_A} (hi0 : 0 ≤ i.toInt) (hi1 : i.toInt + 6 ≤ (L : Int)) (hL : L ≤ 3072) (hN0 : N ≤ 24 * i.toInt) (hA : hJ 0 N (N + 72) A A) (hI : hIC A) (ih : ∀ (A' : hs_A) (N' : Int), hJ 0 N' (N' + 72) A' A' → hIC A' → N' ≤ N + 144 → hlx (L, hlS xs) 26 1472 [.ref 0, .ref 1, .ref 368, .int i] [] A') : hlx (L, hlS xs) 26 224 [.ref 0, .ref 1, .ref 368, .int i] [] A := by
  have hN : N ≤ 800000 := by omega
  refine hlx_aload_n (by rfl) rfl ?_
  refine hlx_aload_n (by rfl) rfl ?_
  refine hlx_iload_n (by rfl) rfl ?_
  refine hlx_iconst (by rfl) rfl ?_
  refine hly_iadd (by rfl) rfl hk_1 (by omega) (by omega) (fun z1 ez1 => ?_)
  refine hly_sld (by rfl) hL ez1 (by omega) (by omega) (fun x2 ex2 => ?_)
  refine hlx_aload_n (by rfl) rfl ?_
  refine hlx_iload_n (by rfl) rfl ?_
  refine hlx_iconst (by rfl) rfl ?_
  refine hly_iadd (by rfl) rfl hk_2 (by omega) (by omega) (fun z3 ez3 => ?_)
  refine hly_sld (by rfl) hL ez3 (by omega) (by omega) (fun x4 ex4 => ?_)
  refine hlx_aload_n (by rfl) rfl ?_
  refine hlx_iload_n (by rfl) rfl ?_
  refine hlx_iconst (by rfl) rfl ?_
  refine hly_iadd (by rfl) rfl hk_3 (by omega) (by omega) (fun z5 ez5 => ?_)
  refine hly_sld (by rfl) hL ez5 (by omega) (by omega) (fun x6 ex6 => ?_)
  refine hlx_aload_n (by rfl) rfl ?_
  refine hlx_iload_n (by rfl) rfl ?_
  refine hlx_iconst (by rfl) rfl ?_
  refine hly_iadd (by rfl) rfl hk_4 (by omega) (by omega) (fun z7 ez7 => ?_)
  refine hly_sld (by rfl) hL ez7 (by omega) (by omega) (fun x8 ex8 => ?_)
  refine hlx_aload_n (by rfl) rfl ?_
  refine hlx_iload_n (by rfl) rfl ?_
  refine hlx_iconst (by rfl) rfl ?_
  refine hly_iadd (by rfl) rfl hk_5 (by omega) (by omega) (fun z9 ez9 => ?_)
  refine hly_sld (by rfl) hL ez9 (by omega) (by omega) (fun x10 ex10 => ?_)
  refine hlx_call (by rfl) (by rfl) (by rfl) (by rfl) (by rfl) (by rfl) (hpr_feed hA hN hI x2 x4 x6 x8 x10) ?_
  rintro _ A1 ⟨z1, rfl, hC⟩
  refine hlx_popI (by rfl) ?_
  refine hlx_aload_n (by rfl) rfl ?_
  refine hlx_aload_n (by rfl) rfl ?_
  refine hlx_iload_n (by rfl) rfl ?_
  refine hlx_iconst (by rfl) rfl ?_
  refine hly_iadd (by rfl) rfl hk_1 (by omega) (by omega) (fun z11 ez11 => ?_)
  refine hly_sld (by rfl) hL ez11 (by omega) (by omega) (fun x12 ex12 => ?_)
  obtain rfl : x2 = x12 := ex2.trans ex12.symm
  refine hlx_aload_n (by rfl) rfl ?_
  refine hlx_iload_n (by rfl) rfl ?_
  refine hlx_iconst (by rfl) rfl ?_
  refine hly_iadd (by rfl) rfl hk_2 (by omega) (by omega) (fun z13 ez13 => ?_)
  refine hly_sld (by rfl) hL ez13 (by omega) (by omega) (fun x14 ex14 => ?_)
  obtain rfl : x4 = x14 := ex4.trans ex14.symm
  refine hlx_aload_n (by rfl) rfl ?_
  refine hlx_iload_n (by rfl) rfl ?_
  refine hlx_iconst (by rfl) rfl ?_
  refine hly_iadd (by rfl) rfl hk_3 (by omega) (by omega) (fun z15 ez15 => ?_)
  refine hly_sld (by rfl) hL ez15 (by omega) (by omega) (fun x16 ex16 => ?_)
  obtain rfl : x6 = x16 := ex6.trans ex16.symm
  refine hlx_aload_n (by rfl) rfl ?_
  refine hlx_iload_n (by rfl) rfl ?_
  refine hlx_iconst (by rfl) rfl ?_
  refine hly_iadd (by rfl) rfl hk_4 (by omega) (by omega) (fun z17 ez17 => ?_)
  refine hly_sld (by rfl) hL ez17 (by omega) (by omega) (fun x18 ex18 => ?_)
  obtain rfl : x8 = x18 := ex8.trans ex18.symm
  refine hlx_aload_n (by rfl) rfl ?_
  refine hlx_iload_n (by rfl) rfl ?_
  refine hlx_iconst (by rfl) rfl ?_
  refine hly_iadd (by rfl) rfl hk_5 (by omega) (by omega) (fun z19 ez19 => ?_)
  refine hly_sld (by rfl) hL ez19 (by omega) (by omega) (fun x20 ex20 => ?_)
  obtain rfl : x10 = x20 := ex10.trans ex20.symm
  refine hlx_call (by rfl) (by rfl) (by rfl) (by rfl) (by rfl) (by rfl) hC ?_
  rintro _ A2 ⟨z2, rfl, ez, N', hN', hJ', hI'⟩
  refine hlx_popI (by rfl) ?_
  refine hlx_goto (by rfl) ?_
  exact ih A2 N' hJ' hI' hN'
theorem hlc_back {L : Nat} {xs : Nat → Int32} {N : Int} {i : Int32} {A : hs_A} (hi0 : 0 ≤ i.toInt) (hi1 : i.toInt + 6 ≤ (L : Int)) (hL : L ≤ 3072) (hN0 : N ≤ 24 * i.toInt) (hA : hJ 0 N (N + 72) A A) (hI : hIC A) (ih : ∀ (A' : hs_A) (N' : Int), hJ 0 N' (N' + 72) A' A' → hIC A' → N' ≤ N + 144 → hlx (L, hlS xs) 26 1472 [.ref 0, .ref 1, .ref 368, .int i] [] A') : hlx (L, hlS xs) 26 287 [.ref 0, .ref 1, .ref 368, .int i] [] A := by
  have hN : N ≤ 800000 := by omega
  refine hlx_aload_n (by rfl) rfl ?_
  refine hlx_aload_n (by rfl) rfl ?_
  refine hlx_iload_n (by rfl) rfl ?_
  refine hlx_iconst (by rfl) rfl ?_
  refine hly_iadd (by rfl) rfl hk_1 (by omega) (by omega) (fun z1 ez1 => ?_)
  refine hly_sld (by rfl) hL ez1 (by omega) (by omega) (fun x2 ex2 => ?_)
  refine hlx_call (by rfl) (by rfl) (by rfl) (by rfl) (by rfl) (by rfl) (hpr_back hA hN hI x2) ?_
  rintro _ A1 ⟨z1, rfl, hC⟩
  refine hlx_popI (by rfl) ?_
  refine hlx_aload_n (by rfl) rfl ?_
  refine hlx_aload_n (by rfl) rfl ?_
  refine hlx_iload_n (by rfl) rfl ?_
  refine hlx_iconst (by rfl) rfl ?_
  refine hly_iadd (by rfl) rfl hk_1 (by omega) (by omega) (fun z3 ez3 => ?_)
  refine hly_sld (by rfl) hL ez3 (by omega) (by omega) (fun x4 ex4 => ?_)
  obtain rfl : x2 = x4 := ex2.trans ex4.symm
  refine hlx_call (by rfl) (by rfl) (by rfl) (by rfl) (by rfl) (by rfl) hC ?_
  rintro _ A2 ⟨z2, rfl, ez, N', hN', hJ', hI'⟩
  refine hlx_popI (by rfl) ?_
  refine hlx_goto (by rfl) ?_
  exact ih A2 N' hJ' hI' hN'
theorem hlc_read {L : Nat} {xs : Nat → Int32} {N : Int} {i : Int32} {A : hs_A} (hi0 : 0 ≤ i.toInt) (hi1 : i.toInt + 6 ≤ (L : Int)) (hL : L ≤ 3072) (hN0 : N ≤ 24 * i.toInt) (hA : hJ 0 N (N + 72) A A) (hI : hIC A) (ih : ∀ (A' : hs_A) (N' : Int), hJ 0 N' (N' + 72) A' A' → hIC A' → N' ≤ N + 144 → hlx (L, hlS xs) 26 1472 [.ref 0, .ref 1, .ref 368, .int i] [] A') : hlx (L, hlS xs) 26 310 [.ref 0, .ref 1, .ref 368, .int i] [] A := by
  have hN : N ≤ 800000 := by omega
  refine hlx_aload_n (by rfl) rfl ?_
  refine hlx_call (by rfl) (by rfl) (by rfl) (by rfl) (by rfl) (by rfl) (hpr_read hA hN hI ) ?_
  rintro _ A1 ⟨z1, rfl, hC⟩
  refine hlx_popI (by rfl) ?_
  refine hlx_aload_n (by rfl) rfl ?_
  refine hlx_call (by rfl) (by rfl) (by rfl) (by rfl) (by rfl) (by rfl) hC ?_
  rintro _ A2 ⟨z2, rfl, ez, N', hN', hJ', hI'⟩
  refine hlx_popI (by rfl) ?_
  refine hlx_goto (by rfl) ?_
  exact ih A2 N' hJ' hI' hN'
theorem hlc_place {L : Nat} {xs : Nat → Int32} {N : Int} {i : Int32} {A : hs_A} (hi0 : 0 ≤ i.toInt) (hi1 : i.toInt + 6 ≤ (L : Int)) (hL : L ≤ 3072) (hN0 : N ≤ 24 * i.toInt) (hA : hJ 0 N (N + 72) A A) (hI : hIC A) (ih : ∀ (A' : hs_A) (N' : Int), hJ 0 N' (N' + 72) A' A' → hIC A' → N' ≤ N + 144 → hlx (L, hlS xs) 26 1472 [.ref 0, .ref 1, .ref 368, .int i] [] A') : hlx (L, hlS xs) 26 323 [.ref 0, .ref 1, .ref 368, .int i] [] A := by
  have hN : N ≤ 800000 := by omega
  refine hlx_aload_n (by rfl) rfl ?_
  refine hlx_call (by rfl) (by rfl) (by rfl) (by rfl) (by rfl) (by rfl) (hpr_place hA hN hI ) ?_
  rintro _ A1 ⟨z1, rfl, hC⟩
  refine hlx_popI (by rfl) ?_
  refine hlx_aload_n (by rfl) rfl ?_
  refine hlx_call (by rfl) (by rfl) (by rfl) (by rfl) (by rfl) (by rfl) hC ?_
  rintro _ A2 ⟨z2, rfl, ez, N', hN', hJ', hI'⟩
  refine hlx_popI (by rfl) ?_
  refine hlx_goto (by rfl) ?_
  exact ih A2 N' hJ' hI' hN'
theorem hlc_house {L : Nat} {xs : Nat → Int32} {N : Int} {i : Int32} {A : hs_A} (hi0 : 0 ≤ i.toInt) (hi1 : i.toInt + 6 ≤ (L : Int)) (hL : L ≤ 3072) (hN0 : N ≤ 24 * i.toInt) (hA : hJ 0 N (N + 72) A A) (hI : hIC A) (ih : ∀ (A' : hs_A) (N' : Int), hJ 0 N' (N' + 72) A' A' → hIC A' → N' ≤ N + 144 → hlx (L, hlS xs) 26 1472 [.ref 0, .ref 1, .ref 368, .int i] [] A') : hlx (L, hlS xs) 26 336 [.ref 0, .ref 1, .ref 368, .int i] [] A := by
  have hN : N ≤ 800000 := by omega
  refine hlx_aload_n (by rfl) rfl ?_
  refine hlx_aload_n (by rfl) rfl ?_
  refine hlx_iload_n (by rfl) rfl ?_
  refine hlx_iconst (by rfl) rfl ?_
  refine hly_iadd (by rfl) rfl hk_1 (by omega) (by omega) (fun z1 ez1 => ?_)
  refine hly_sld (by rfl) hL ez1 (by omega) (by omega) (fun x2 ex2 => ?_)
  refine hlx_aload_n (by rfl) rfl ?_
  refine hlx_iload_n (by rfl) rfl ?_
  refine hlx_iconst (by rfl) rfl ?_
  refine hly_iadd (by rfl) rfl hk_2 (by omega) (by omega) (fun z3 ez3 => ?_)
  refine hly_sld (by rfl) hL ez3 (by omega) (by omega) (fun x4 ex4 => ?_)
  refine hlx_call (by rfl) (by rfl) (by rfl) (by rfl) (by rfl) (by rfl) (hpr_house hA hN hI x2 x4) ?_
  rintro _ A1 ⟨z1, rfl, hC⟩
  refine hlx_popI (by rfl) ?_
  refine hlx_aload_n (by rfl) rfl ?_
  refine hlx_aload_n (by rfl) rfl ?_
  refine hlx_iload_n (by rfl) rfl ?_
  refine hlx_iconst (by rfl) rfl ?_
  refine hly_iadd (by rfl) rfl hk_1 (by omega) (by omega) (fun z5 ez5 => ?_)
  refine hly_sld (by rfl) hL ez5 (by omega) (by omega) (fun x6 ex6 => ?_)
  obtain rfl : x2 = x6 := ex2.trans ex6.symm
  refine hlx_aload_n (by rfl) rfl ?_
  refine hlx_iload_n (by rfl) rfl ?_
  refine hlx_iconst (by rfl) rfl ?_
  refine hly_iadd (by rfl) rfl hk_2 (by omega) (by omega) (fun z7 ez7 => ?_)
  refine hly_sld (by rfl) hL ez7 (by omega) (by omega) (fun x8 ex8 => ?_)
  obtain rfl : x4 = x8 := ex4.trans ex8.symm
  refine hlx_call (by rfl) (by rfl) (by rfl) (by rfl) (by rfl) (by rfl) hC ?_
  rintro _ A2 ⟨z2, rfl, ez, N', hN', hJ', hI'⟩
  refine hlx_popI (by rfl) ?_
  refine hlx_goto (by rfl) ?_
  exact ih A2 N' hJ' hI' hN'
theorem hlc_passed {L : Nat} {xs : Nat → Int32} {N : Int} {i : Int32} {A : hs_A} (hi0 : 0 ≤ i.toInt) (hi1 : i.toInt + 6 ≤ (L : Int)) (hL : L ≤ 3072) (hN0 : N ≤ 24 * i.toInt) (hA : hJ 0 N (N + 72) A A) (hI : hIC A) (ih : ∀ (A' : hs_A) (N' : Int), hJ 0 N' (N' + 72) A' A' → hIC A' → N' ≤ N + 144 → hlx (L, hlS xs) 26 1472 [.ref 0, .ref 1, .ref 368, .int i] [] A') : hlx (L, hlS xs) 26 369 [.ref 0, .ref 1, .ref 368, .int i] [] A := by
  have hN : N ≤ 800000 := by omega
  refine hlx_aload_n (by rfl) rfl ?_
  refine hlx_aload_n (by rfl) rfl ?_
  refine hlx_iload_n (by rfl) rfl ?_
  refine hlx_iconst (by rfl) rfl ?_
  refine hly_iadd (by rfl) rfl hk_1 (by omega) (by omega) (fun z1 ez1 => ?_)
  refine hly_sld (by rfl) hL ez1 (by omega) (by omega) (fun x2 ex2 => ?_)
  refine hlx_aload_n (by rfl) rfl ?_
  refine hlx_iload_n (by rfl) rfl ?_
  refine hlx_iconst (by rfl) rfl ?_
  refine hly_iadd (by rfl) rfl hk_2 (by omega) (by omega) (fun z3 ez3 => ?_)
  refine hly_sld (by rfl) hL ez3 (by omega) (by omega) (fun x4 ex4 => ?_)
  refine hlx_call (by rfl) (by rfl) (by rfl) (by rfl) (by rfl) (by rfl) (hpr_passed hA hN hI x2 x4) ?_
  rintro _ A1 ⟨z1, rfl, hC⟩
  refine hlx_popI (by rfl) ?_
  refine hlx_aload_n (by rfl) rfl ?_
  refine hlx_aload_n (by rfl) rfl ?_
  refine hlx_iload_n (by rfl) rfl ?_
  refine hlx_iconst (by rfl) rfl ?_
  refine hly_iadd (by rfl) rfl hk_1 (by omega) (by omega) (fun z5 ez5 => ?_)
  refine hly_sld (by rfl) hL ez5 (by omega) (by omega) (fun x6 ex6 => ?_)
  obtain rfl : x2 = x6 := ex2.trans ex6.symm
  refine hlx_aload_n (by rfl) rfl ?_
  refine hlx_iload_n (by rfl) rfl ?_
  refine hlx_iconst (by rfl) rfl ?_
  refine hly_iadd (by rfl) rfl hk_2 (by omega) (by omega) (fun z7 ez7 => ?_)
  refine hly_sld (by rfl) hL ez7 (by omega) (by omega) (fun x8 ex8 => ?_)
  obtain rfl : x4 = x8 := ex4.trans ex8.symm
  refine hlx_call (by rfl) (by rfl) (by rfl) (by rfl) (by rfl) (by rfl) hC ?_
  rintro _ A2 ⟨z2, rfl, ez, N', hN', hJ', hI'⟩
  refine hlx_popI (by rfl) ?_
  refine hlx_goto (by rfl) ?_
  exact ih A2 N' hJ' hI' hN'
theorem hlc_turn {L : Nat} {xs : Nat → Int32} {N : Int} {i : Int32} {A : hs_A} (hi0 : 0 ≤ i.toInt) (hi1 : i.toInt + 6 ≤ (L : Int)) (hL : L ≤ 3072) (hN0 : N ≤ 24 * i.toInt) (hA : hJ 0 N (N + 72) A A) (hI : hIC A) (ih : ∀ (A' : hs_A) (N' : Int), hJ 0 N' (N' + 72) A' A' → hIC A' → N' ≤ N + 144 → hlx (L, hlS xs) 26 1472 [.ref 0, .ref 1, .ref 368, .int i] [] A') : hlx (L, hlS xs) 26 402 [.ref 0, .ref 1, .ref 368, .int i] [] A := by
  have hN : N ≤ 800000 := by omega
  have k0 := hk_0
  have k1 := hk_1
  refine hlx_aload_n (by rfl) rfl ?_
  refine hlx_aload_n (by rfl) rfl ?_
  refine hlx_iload_n (by rfl) rfl ?_
  refine hlx_iconst (by rfl) rfl ?_
  refine hly_iadd (by rfl) rfl hk_1 (by omega) (by omega) (fun z1 ez1 => ?_)
  refine hly_sld (by rfl) hL ez1 (by omega) (by omega) (fun x2 ex2 => ?_)
  refine hlx_aload_n (by rfl) rfl ?_
  refine hlx_iload_n (by rfl) rfl ?_
  refine hlx_iconst (by rfl) rfl ?_
  refine hly_iadd (by rfl) rfl hk_2 (by omega) (by omega) (fun z3 ez3 => ?_)
  refine hly_sld (by rfl) hL ez3 (by omega) (by omega) (fun x4 ex4 => ?_)
  refine hlx_if (by rfl) (fun q0 => ?_) (fun q0 => ?_)
  ·
    refine hlx_iconst (by rfl) rfl ?_
    refine hlx_call (by rfl) (by rfl) (by rfl) (by rfl) (by rfl) (by rfl) (hpr_turn hA hN hI x2 (Int32.ofNat 0) (by omega) (by omega)) ?_
    rintro _ A1 ⟨z1, rfl, hC⟩
    refine hlx_popI (by rfl) ?_
    refine hlx_aload_n (by rfl) rfl ?_
    refine hlx_aload_n (by rfl) rfl ?_
    refine hlx_iload_n (by rfl) rfl ?_
    refine hlx_iconst (by rfl) rfl ?_
    refine hly_iadd (by rfl) rfl hk_1 (by omega) (by omega) (fun z5 ez5 => ?_)
    refine hly_sld (by rfl) hL ez5 (by omega) (by omega) (fun x6 ex6 => ?_)
    obtain rfl : x2 = x6 := ex2.trans ex6.symm
    refine hlx_aload_n (by rfl) rfl ?_
    refine hlx_iload_n (by rfl) rfl ?_
    refine hlx_iconst (by rfl) rfl ?_
    refine hly_iadd (by rfl) rfl hk_2 (by omega) (by omega) (fun z7 ez7 => ?_)
    refine hly_sld (by rfl) hL ez7 (by omega) (by omega) (fun x8 ex8 => ?_)
    obtain rfl : x4 = x8 := ex4.trans ex8.symm
    refine hlx_if (by rfl) (fun _ => ?_) (fun q1 => by rw [q0] at q1; cases q1)
    refine hlx_iconst (by rfl) rfl ?_
    refine hlx_call (by rfl) (by rfl) (by rfl) (by rfl) (by rfl) (by rfl) hC ?_
    rintro _ A2 ⟨z2, rfl, ez, N', hN', hJ', hI'⟩
    refine hlx_popI (by rfl) ?_
    refine hlx_goto (by rfl) ?_
    exact ih A2 N' hJ' hI' hN'
  ·
    refine hlx_iconst (by rfl) rfl ?_
    refine hlx_goto (by rfl) ?_
    refine hlx_call (by rfl) (by rfl) (by rfl) (by rfl) (by rfl) (by rfl) (hpr_turn hA hN hI x2 (Int32.ofNat 1) (by omega) (by omega)) ?_
    rintro _ A1 ⟨z1, rfl, hC⟩
    refine hlx_popI (by rfl) ?_
    refine hlx_aload_n (by rfl) rfl ?_
    refine hlx_aload_n (by rfl) rfl ?_
    refine hlx_iload_n (by rfl) rfl ?_
    refine hlx_iconst (by rfl) rfl ?_
    refine hly_iadd (by rfl) rfl hk_1 (by omega) (by omega) (fun z5 ez5 => ?_)
    refine hly_sld (by rfl) hL ez5 (by omega) (by omega) (fun x6 ex6 => ?_)
    obtain rfl : x2 = x6 := ex2.trans ex6.symm
    refine hlx_aload_n (by rfl) rfl ?_
    refine hlx_iload_n (by rfl) rfl ?_
    refine hlx_iconst (by rfl) rfl ?_
    refine hly_iadd (by rfl) rfl hk_2 (by omega) (by omega) (fun z7 ez7 => ?_)
    refine hly_sld (by rfl) hL ez7 (by omega) (by omega) (fun x8 ex8 => ?_)
    obtain rfl : x4 = x8 := ex4.trans ex8.symm
    refine hlx_if (by rfl) (fun q1 => by rw [q0] at q1; cases q1) (fun _ => ?_)
    refine hlx_iconst (by rfl) rfl ?_
    refine hlx_goto (by rfl) ?_
    refine hlx_call (by rfl) (by rfl) (by rfl) (by rfl) (by rfl) (by rfl) hC ?_
    rintro _ A2 ⟨z2, rfl, ez, N', hN', hJ', hI'⟩
    refine hlx_popI (by rfl) ?_
    refine hlx_goto (by rfl) ?_
    exact ih A2 N' hJ' hI' hN'
theorem hlc_send {L : Nat} {xs : Nat → Int32} {N : Int} {i : Int32} {A : hs_A} (hi0 : 0 ≤ i.toInt) (hi1 : i.toInt + 6 ≤ (L : Int)) (hL : L ≤ 3072) (hN0 : N ≤ 24 * i.toInt) (hA : hJ 0 N (N + 72) A A) (hI : hIC A) (ih : ∀ (A' : hs_A) (N' : Int), hJ 0 N' (N' + 72) A' A' → hIC A' → N' ≤ N + 144 → hlx (L, hlS xs) 26 1472 [.ref 0, .ref 1, .ref 368, .int i] [] A') : hlx (L, hlS xs) 26 451 [.ref 0, .ref 1, .ref 368, .int i] [] A := by
  have hN : N ≤ 800000 := by omega
  refine hlx_aload_n (by rfl) rfl ?_
  refine hlx_aload_n (by rfl) rfl ?_
  refine hlx_iload_n (by rfl) rfl ?_
  refine hlx_iconst (by rfl) rfl ?_
  refine hly_iadd (by rfl) rfl hk_1 (by omega) (by omega) (fun z1 ez1 => ?_)
  refine hly_sld (by rfl) hL ez1 (by omega) (by omega) (fun x2 ex2 => ?_)
  refine hlx_call (by rfl) (by rfl) (by rfl) (by rfl) (by rfl) (by rfl) (hpr_send hA hN hI x2) ?_
  rintro _ A1 ⟨z1, rfl, hC⟩
  refine hlx_popI (by rfl) ?_
  refine hlx_aload_n (by rfl) rfl ?_
  refine hlx_aload_n (by rfl) rfl ?_
  refine hlx_iload_n (by rfl) rfl ?_
  refine hlx_iconst (by rfl) rfl ?_
  refine hly_iadd (by rfl) rfl hk_1 (by omega) (by omega) (fun z3 ez3 => ?_)
  refine hly_sld (by rfl) hL ez3 (by omega) (by omega) (fun x4 ex4 => ?_)
  obtain rfl : x2 = x4 := ex2.trans ex4.symm
  refine hlx_call (by rfl) (by rfl) (by rfl) (by rfl) (by rfl) (by rfl) hC ?_
  rintro _ A2 ⟨z2, rfl, ez, N', hN', hJ', hI'⟩
  refine hlx_popI (by rfl) ?_
  refine hlx_goto (by rfl) ?_
  exact ih A2 N' hJ' hI' hN'
theorem hlc_carry {L : Nat} {xs : Nat → Int32} {N : Int} {i : Int32} {A : hs_A} (hi0 : 0 ≤ i.toInt) (hi1 : i.toInt + 6 ≤ (L : Int)) (hL : L ≤ 3072) (hN0 : N ≤ 24 * i.toInt) (hA : hJ 0 N (N + 72) A A) (hI : hIC A) (ih : ∀ (A' : hs_A) (N' : Int), hJ 0 N' (N' + 72) A' A' → hIC A' → N' ≤ N + 144 → hlx (L, hlS xs) 26 1472 [.ref 0, .ref 1, .ref 368, .int i] [] A') : hlx (L, hlS xs) 26 474 [.ref 0, .ref 1, .ref 368, .int i] [] A := by
  have hN : N ≤ 800000 := by omega
  refine hlx_aload_n (by rfl) rfl ?_
  refine hlx_aload_n (by rfl) rfl ?_
  refine hlx_iload_n (by rfl) rfl ?_
  refine hlx_iconst (by rfl) rfl ?_
  refine hly_iadd (by rfl) rfl hk_1 (by omega) (by omega) (fun z1 ez1 => ?_)
  refine hly_sld (by rfl) hL ez1 (by omega) (by omega) (fun x2 ex2 => ?_)
  refine hlx_aload_n (by rfl) rfl ?_
  refine hlx_iload_n (by rfl) rfl ?_
  refine hlx_iconst (by rfl) rfl ?_
  refine hly_iadd (by rfl) rfl hk_2 (by omega) (by omega) (fun z3 ez3 => ?_)
  refine hly_sld (by rfl) hL ez3 (by omega) (by omega) (fun x4 ex4 => ?_)
  refine hlx_call (by rfl) (by rfl) (by rfl) (by rfl) (by rfl) (by rfl) (hpr_carry hA hN hI x2 x4) ?_
  rintro _ A1 ⟨z1, rfl, hC⟩
  refine hlx_popI (by rfl) ?_
  refine hlx_aload_n (by rfl) rfl ?_
  refine hlx_aload_n (by rfl) rfl ?_
  refine hlx_iload_n (by rfl) rfl ?_
  refine hlx_iconst (by rfl) rfl ?_
  refine hly_iadd (by rfl) rfl hk_1 (by omega) (by omega) (fun z5 ez5 => ?_)
  refine hly_sld (by rfl) hL ez5 (by omega) (by omega) (fun x6 ex6 => ?_)
  obtain rfl : x2 = x6 := ex2.trans ex6.symm
  refine hlx_aload_n (by rfl) rfl ?_
  refine hlx_iload_n (by rfl) rfl ?_
  refine hlx_iconst (by rfl) rfl ?_
  refine hly_iadd (by rfl) rfl hk_2 (by omega) (by omega) (fun z7 ez7 => ?_)
  refine hly_sld (by rfl) hL ez7 (by omega) (by omega) (fun x8 ex8 => ?_)
  obtain rfl : x4 = x8 := ex4.trans ex8.symm
  refine hlx_call (by rfl) (by rfl) (by rfl) (by rfl) (by rfl) (by rfl) hC ?_
  rintro _ A2 ⟨z2, rfl, ez, N', hN', hJ', hI'⟩
  refine hlx_popI (by rfl) ?_
  refine hlx_goto (by rfl) ?_
  exact ih A2 N' hJ' hI' hN'
theorem hlc_change {L : Nat} {xs : Nat → Int32} {N : Int} {i : Int32} {A : hs_A} (hi0 : 0 ≤ i.toInt) (hi1 : i.toInt + 6 ≤ (L : Int)) (hL : L ≤ 3072) (hN0 : N ≤ 24 * i.toInt) (hA : hJ 0 N (N + 72) A A) (hI : hIC A) (ih : ∀ (A' : hs_A) (N' : Int), hJ 0 N' (N' + 72) A' A' → hIC A' → N' ≤ N + 144 → hlx (L, hlS xs) 26 1472 [.ref 0, .ref 1, .ref 368, .int i] [] A') : hlx (L, hlS xs) 26 507 [.ref 0, .ref 1, .ref 368, .int i] [] A := by
  have hN : N ≤ 800000 := by omega
  refine hlx_aload_n (by rfl) rfl ?_
  refine hlx_aload_n (by rfl) rfl ?_
  refine hlx_iload_n (by rfl) rfl ?_
  refine hlx_iconst (by rfl) rfl ?_
  refine hly_iadd (by rfl) rfl hk_1 (by omega) (by omega) (fun z1 ez1 => ?_)
  refine hly_sld (by rfl) hL ez1 (by omega) (by omega) (fun x2 ex2 => ?_)
  refine hlx_aload_n (by rfl) rfl ?_
  refine hlx_iload_n (by rfl) rfl ?_
  refine hlx_iconst (by rfl) rfl ?_
  refine hly_iadd (by rfl) rfl hk_2 (by omega) (by omega) (fun z3 ez3 => ?_)
  refine hly_sld (by rfl) hL ez3 (by omega) (by omega) (fun x4 ex4 => ?_)
  refine hlx_call (by rfl) (by rfl) (by rfl) (by rfl) (by rfl) (by rfl) (hpr_change hA hN hI x2 x4) ?_
  rintro _ A1 ⟨z1, rfl, hC⟩
  refine hlx_popI (by rfl) ?_
  refine hlx_aload_n (by rfl) rfl ?_
  refine hlx_aload_n (by rfl) rfl ?_
  refine hlx_iload_n (by rfl) rfl ?_
  refine hlx_iconst (by rfl) rfl ?_
  refine hly_iadd (by rfl) rfl hk_1 (by omega) (by omega) (fun z5 ez5 => ?_)
  refine hly_sld (by rfl) hL ez5 (by omega) (by omega) (fun x6 ex6 => ?_)
  obtain rfl : x2 = x6 := ex2.trans ex6.symm
  refine hlx_aload_n (by rfl) rfl ?_
  refine hlx_iload_n (by rfl) rfl ?_
  refine hlx_iconst (by rfl) rfl ?_
  refine hly_iadd (by rfl) rfl hk_2 (by omega) (by omega) (fun z7 ez7 => ?_)
  refine hly_sld (by rfl) hL ez7 (by omega) (by omega) (fun x8 ex8 => ?_)
  obtain rfl : x4 = x8 := ex4.trans ex8.symm
  refine hlx_call (by rfl) (by rfl) (by rfl) (by rfl) (by rfl) (by rfl) hC ?_
  rintro _ A2 ⟨z2, rfl, ez, N', hN', hJ', hI'⟩
  refine hlx_popI (by rfl) ?_
  refine hlx_goto (by rfl) ?_
  exact ih A2 N' hJ' hI' hN'
theorem hlc_hours {L : Nat} {xs : Nat → Int32} {N : Int} {i : Int32} {A : hs_A} (hi0 : 0 ≤ i.toInt) (hi1 : i.toInt + 6 ≤ (L : Int)) (hL : L ≤ 3072) (hN0 : N ≤ 24 * i.toInt) (hA : hJ 0 N (N + 72) A A) (hI : hIC A) (ih : ∀ (A' : hs_A) (N' : Int), hJ 0 N' (N' + 72) A' A' → hIC A' → N' ≤ N + 144 → hlx (L, hlS xs) 26 1472 [.ref 0, .ref 1, .ref 368, .int i] [] A') : hlx (L, hlS xs) 26 540 [.ref 0, .ref 1, .ref 368, .int i] [] A := by
  have hN : N ≤ 800000 := by omega
  refine hlx_aload_n (by rfl) rfl ?_
  refine hlx_aload_n (by rfl) rfl ?_
  refine hlx_iload_n (by rfl) rfl ?_
  refine hlx_iconst (by rfl) rfl ?_
  refine hly_iadd (by rfl) rfl hk_1 (by omega) (by omega) (fun z1 ez1 => ?_)
  refine hly_sld (by rfl) hL ez1 (by omega) (by omega) (fun x2 ex2 => ?_)
  refine hlx_call (by rfl) (by rfl) (by rfl) (by rfl) (by rfl) (by rfl) (hpr_hours hA hN hI x2) ?_
  rintro _ A1 ⟨z1, rfl, hC⟩
  refine hlx_popI (by rfl) ?_
  refine hlx_aload_n (by rfl) rfl ?_
  refine hlx_aload_n (by rfl) rfl ?_
  refine hlx_iload_n (by rfl) rfl ?_
  refine hlx_iconst (by rfl) rfl ?_
  refine hly_iadd (by rfl) rfl hk_1 (by omega) (by omega) (fun z3 ez3 => ?_)
  refine hly_sld (by rfl) hL ez3 (by omega) (by omega) (fun x4 ex4 => ?_)
  obtain rfl : x2 = x4 := ex2.trans ex4.symm
  refine hlx_call (by rfl) (by rfl) (by rfl) (by rfl) (by rfl) (by rfl) hC ?_
  rintro _ A2 ⟨z2, rfl, ez, N', hN', hJ', hI'⟩
  refine hlx_popI (by rfl) ?_
  refine hlx_goto (by rfl) ?_
  exact ih A2 N' hJ' hI' hN'
theorem hlc_undo {L : Nat} {xs : Nat → Int32} {N : Int} {i : Int32} {A : hs_A} (hi0 : 0 ≤ i.toInt) (hi1 : i.toInt + 6 ≤ (L : Int)) (hL : L ≤ 3072) (hN0 : N ≤ 24 * i.toInt) (hA : hJ 0 N (N + 72) A A) (hI : hIC A) (ih : ∀ (A' : hs_A) (N' : Int), hJ 0 N' (N' + 72) A' A' → hIC A' → N' ≤ N + 144 → hlx (L, hlS xs) 26 1472 [.ref 0, .ref 1, .ref 368, .int i] [] A') : hlx (L, hlS xs) 26 563 [.ref 0, .ref 1, .ref 368, .int i] [] A := by
  have hN : N ≤ 800000 := by omega
  refine hlx_aload_n (by rfl) rfl ?_
  refine hlx_call (by rfl) (by rfl) (by rfl) (by rfl) (by rfl) (by rfl) (hpr_undo hA hN hI ) ?_
  rintro _ A1 ⟨z1, rfl, hC⟩
  refine hlx_popI (by rfl) ?_
  refine hlx_aload_n (by rfl) rfl ?_
  refine hlx_call (by rfl) (by rfl) (by rfl) (by rfl) (by rfl) (by rfl) hC ?_
  rintro _ A2 ⟨z2, rfl, ez, N', hN', hJ', hI'⟩
  refine hlx_popI (by rfl) ?_
  refine hlx_goto (by rfl) ?_
  exact ih A2 N' hJ' hI' hN'
theorem hlc_comes {L : Nat} {xs : Nat → Int32} {N : Int} {i : Int32} {A : hs_A} (hi0 : 0 ≤ i.toInt) (hi1 : i.toInt + 6 ≤ (L : Int)) (hL : L ≤ 3072) (hN0 : N ≤ 24 * i.toInt) (hA : hJ 0 N (N + 72) A A) (hI : hIC A) (ih : ∀ (A' : hs_A) (N' : Int), hJ 0 N' (N' + 72) A' A' → hIC A' → N' ≤ N + 144 → hlx (L, hlS xs) 26 1472 [.ref 0, .ref 1, .ref 368, .int i] [] A') : hlx (L, hlS xs) 26 576 [.ref 0, .ref 1, .ref 368, .int i] [] A := by
  have hN : N ≤ 800000 := by omega
  refine hlx_aload_n (by rfl) rfl ?_
  refine hlx_aload_n (by rfl) rfl ?_
  refine hlx_iload_n (by rfl) rfl ?_
  refine hlx_iconst (by rfl) rfl ?_
  refine hly_iadd (by rfl) rfl hk_1 (by omega) (by omega) (fun z1 ez1 => ?_)
  refine hly_sld (by rfl) hL ez1 (by omega) (by omega) (fun x2 ex2 => ?_)
  refine hlx_aload_n (by rfl) rfl ?_
  refine hlx_iload_n (by rfl) rfl ?_
  refine hlx_iconst (by rfl) rfl ?_
  refine hly_iadd (by rfl) rfl hk_2 (by omega) (by omega) (fun z3 ez3 => ?_)
  refine hly_sld (by rfl) hL ez3 (by omega) (by omega) (fun x4 ex4 => ?_)
  refine hlx_call (by rfl) (by rfl) (by rfl) (by rfl) (by rfl) (by rfl) (hpr_comes hA hN hI x2 x4) ?_
  rintro _ A1 ⟨z1, rfl, hC⟩
  refine hlx_popI (by rfl) ?_
  refine hlx_aload_n (by rfl) rfl ?_
  refine hlx_aload_n (by rfl) rfl ?_
  refine hlx_iload_n (by rfl) rfl ?_
  refine hlx_iconst (by rfl) rfl ?_
  refine hly_iadd (by rfl) rfl hk_1 (by omega) (by omega) (fun z5 ez5 => ?_)
  refine hly_sld (by rfl) hL ez5 (by omega) (by omega) (fun x6 ex6 => ?_)
  obtain rfl : x2 = x6 := ex2.trans ex6.symm
  refine hlx_aload_n (by rfl) rfl ?_
  refine hlx_iload_n (by rfl) rfl ?_
  refine hlx_iconst (by rfl) rfl ?_
  refine hly_iadd (by rfl) rfl hk_2 (by omega) (by omega) (fun z7 ez7 => ?_)
  refine hly_sld (by rfl) hL ez7 (by omega) (by omega) (fun x8 ex8 => ?_)
  obtain rfl : x4 = x8 := ex4.trans ex8.symm
  refine hlx_call (by rfl) (by rfl) (by rfl) (by rfl) (by rfl) (by rfl) hC ?_
  rintro _ A2 ⟨z2, rfl, N', hN', hJ', hI'⟩
  refine hlx_popI (by rfl) ?_
  refine hlx_goto (by rfl) ?_
  exact ih A2 N' hJ' hI' hN'
theorem hlc_last {L : Nat} {xs : Nat → Int32} {N : Int} {i : Int32} {A : hs_A} (hi0 : 0 ≤ i.toInt) (hi1 : i.toInt + 6 ≤ (L : Int)) (hL : L ≤ 3072) (hN0 : N ≤ 24 * i.toInt) (hA : hJ 0 N (N + 72) A A) (hI : hIC A) (ih : ∀ (A' : hs_A) (N' : Int), hJ 0 N' (N' + 72) A' A' → hIC A' → N' ≤ N + 144 → hlx (L, hlS xs) 26 1472 [.ref 0, .ref 1, .ref 368, .int i] [] A') : hlx (L, hlS xs) 26 609 [.ref 0, .ref 1, .ref 368, .int i] [] A := by
  have hN : N ≤ 800000 := by omega
  refine hlx_aload_n (by rfl) rfl ?_
  refine hlx_aload_n (by rfl) rfl ?_
  refine hlx_iload_n (by rfl) rfl ?_
  refine hlx_iconst (by rfl) rfl ?_
  refine hly_iadd (by rfl) rfl hk_1 (by omega) (by omega) (fun z1 ez1 => ?_)
  refine hly_sld (by rfl) hL ez1 (by omega) (by omega) (fun x2 ex2 => ?_)
  refine hlx_call (by rfl) (by rfl) (by rfl) (by rfl) (by rfl) (by rfl) (hpr_last hA hN hI x2) ?_
  rintro _ A1 ⟨z1, rfl, hC⟩
  refine hlx_popI (by rfl) ?_
  refine hlx_aload_n (by rfl) rfl ?_
  refine hlx_aload_n (by rfl) rfl ?_
  refine hlx_iload_n (by rfl) rfl ?_
  refine hlx_iconst (by rfl) rfl ?_
  refine hly_iadd (by rfl) rfl hk_1 (by omega) (by omega) (fun z3 ez3 => ?_)
  refine hly_sld (by rfl) hL ez3 (by omega) (by omega) (fun x4 ex4 => ?_)
  obtain rfl : x2 = x4 := ex2.trans ex4.symm
  refine hlx_call (by rfl) (by rfl) (by rfl) (by rfl) (by rfl) (by rfl) hC ?_
  rintro _ A2 ⟨z2, rfl, N', hN', hJ', hI'⟩
  refine hlx_popI (by rfl) ?_
  refine hlx_goto (by rfl) ?_
  exact ih A2 N' hJ' hI' hN'
theorem hlc_sendFor {L : Nat} {xs : Nat → Int32} {N : Int} {i : Int32} {A : hs_A} (hi0 : 0 ≤ i.toInt) (hi1 : i.toInt + 6 ≤ (L : Int)) (hL : L ≤ 3072) (hN0 : N ≤ 24 * i.toInt) (hA : hJ 0 N (N + 72) A A) (hI : hIC A) (ih : ∀ (A' : hs_A) (N' : Int), hJ 0 N' (N' + 72) A' A' → hIC A' → N' ≤ N + 144 → hlx (L, hlS xs) 26 1472 [.ref 0, .ref 1, .ref 368, .int i] [] A') : hlx (L, hlS xs) 26 632 [.ref 0, .ref 1, .ref 368, .int i] [] A := by
  have hN : N ≤ 800000 := by omega
  refine hlx_aload_n (by rfl) rfl ?_
  refine hlx_aload_n (by rfl) rfl ?_
  refine hlx_iload_n (by rfl) rfl ?_
  refine hlx_iconst (by rfl) rfl ?_
  refine hly_iadd (by rfl) rfl hk_1 (by omega) (by omega) (fun z1 ez1 => ?_)
  refine hly_sld (by rfl) hL ez1 (by omega) (by omega) (fun x2 ex2 => ?_)
  refine hlx_call (by rfl) (by rfl) (by rfl) (by rfl) (by rfl) (by rfl) (hpr_sendFor hA hN hI x2) ?_
  rintro _ A1 ⟨z1, rfl, hC⟩
  refine hlx_popI (by rfl) ?_
  refine hlx_aload_n (by rfl) rfl ?_
  refine hlx_aload_n (by rfl) rfl ?_
  refine hlx_iload_n (by rfl) rfl ?_
  refine hlx_iconst (by rfl) rfl ?_
  refine hly_iadd (by rfl) rfl hk_1 (by omega) (by omega) (fun z3 ez3 => ?_)
  refine hly_sld (by rfl) hL ez3 (by omega) (by omega) (fun x4 ex4 => ?_)
  obtain rfl : x2 = x4 := ex2.trans ex4.symm
  refine hlx_call (by rfl) (by rfl) (by rfl) (by rfl) (by rfl) (by rfl) hC ?_
  rintro _ A2 ⟨z2, rfl, N', hN', hJ', hI'⟩
  refine hlx_popI (by rfl) ?_
  refine hlx_goto (by rfl) ?_
  exact ih A2 N' hJ' hI' hN'
theorem hlc_apart {L : Nat} {xs : Nat → Int32} {N : Int} {i : Int32} {A : hs_A} (hi0 : 0 ≤ i.toInt) (hi1 : i.toInt + 6 ≤ (L : Int)) (hL : L ≤ 3072) (hN0 : N ≤ 24 * i.toInt) (hA : hJ 0 N (N + 72) A A) (hI : hIC A) (ih : ∀ (A' : hs_A) (N' : Int), hJ 0 N' (N' + 72) A' A' → hIC A' → N' ≤ N + 144 → hlx (L, hlS xs) 26 1472 [.ref 0, .ref 1, .ref 368, .int i] [] A') : hlx (L, hlS xs) 26 655 [.ref 0, .ref 1, .ref 368, .int i] [] A := by
  have hN : N ≤ 800000 := by omega
  refine hlx_aload_n (by rfl) rfl ?_
  refine hlx_aload_n (by rfl) rfl ?_
  refine hlx_iload_n (by rfl) rfl ?_
  refine hlx_iconst (by rfl) rfl ?_
  refine hly_iadd (by rfl) rfl hk_1 (by omega) (by omega) (fun z1 ez1 => ?_)
  refine hly_sld (by rfl) hL ez1 (by omega) (by omega) (fun x2 ex2 => ?_)
  refine hlx_call (by rfl) (by rfl) (by rfl) (by rfl) (by rfl) (by rfl) (hpr_apart hA hN hI x2) ?_
  rintro _ A1 ⟨z1, rfl, hC⟩
  refine hlx_popI (by rfl) ?_
  refine hlx_aload_n (by rfl) rfl ?_
  refine hlx_aload_n (by rfl) rfl ?_
  refine hlx_iload_n (by rfl) rfl ?_
  refine hlx_iconst (by rfl) rfl ?_
  refine hly_iadd (by rfl) rfl hk_1 (by omega) (by omega) (fun z3 ez3 => ?_)
  refine hly_sld (by rfl) hL ez3 (by omega) (by omega) (fun x4 ex4 => ?_)
  obtain rfl : x2 = x4 := ex2.trans ex4.symm
  refine hlx_call (by rfl) (by rfl) (by rfl) (by rfl) (by rfl) (by rfl) hC ?_
  rintro _ A2 ⟨z2, rfl, N', hN', hJ', hI'⟩
  refine hlx_popI (by rfl) ?_
  refine hlx_goto (by rfl) ?_
  exact ih A2 N' hJ' hI' hN'
theorem hlc_code {L : Nat} {xs : Nat → Int32} {N : Int} {i : Int32} {A : hs_A} (hi0 : 0 ≤ i.toInt) (hi1 : i.toInt + 6 ≤ (L : Int)) (hL : L ≤ 3072) (hN0 : N ≤ 24 * i.toInt) (hA : hJ 0 N (N + 72) A A) (hI : hIC A) (ih : ∀ (A' : hs_A) (N' : Int), hJ 0 N' (N' + 72) A' A' → hIC A' → N' ≤ N + 144 → hlx (L, hlS xs) 26 1472 [.ref 0, .ref 1, .ref 368, .int i] [] A') : hlx (L, hlS xs) 26 678 [.ref 0, .ref 1, .ref 368, .int i] [] A := by
  have hN : N ≤ 800000 := by omega
  refine hlx_aload_n (by rfl) rfl ?_
  refine hlx_aload_n (by rfl) rfl ?_
  refine hlx_iload_n (by rfl) rfl ?_
  refine hlx_iconst (by rfl) rfl ?_
  refine hly_iadd (by rfl) rfl hk_1 (by omega) (by omega) (fun z1 ez1 => ?_)
  refine hly_sld (by rfl) hL ez1 (by omega) (by omega) (fun x2 ex2 => ?_)
  refine hlx_aload_n (by rfl) rfl ?_
  refine hlx_iload_n (by rfl) rfl ?_
  refine hlx_iconst (by rfl) rfl ?_
  refine hly_iadd (by rfl) rfl hk_2 (by omega) (by omega) (fun z3 ez3 => ?_)
  refine hly_sld (by rfl) hL ez3 (by omega) (by omega) (fun x4 ex4 => ?_)
  refine hlx_aload_n (by rfl) rfl ?_
  refine hlx_iload_n (by rfl) rfl ?_
  refine hlx_iconst (by rfl) rfl ?_
  refine hly_iadd (by rfl) rfl hk_3 (by omega) (by omega) (fun z5 ez5 => ?_)
  refine hly_sld (by rfl) hL ez5 (by omega) (by omega) (fun x6 ex6 => ?_)
  refine hlx_call (by rfl) (by rfl) (by rfl) (by rfl) (by rfl) (by rfl) (hpr_code hA hN hI x2 x4 x6) ?_
  rintro _ A1 ⟨z1, rfl, hC⟩
  refine hlx_popI (by rfl) ?_
  refine hlx_aload_n (by rfl) rfl ?_
  refine hlx_aload_n (by rfl) rfl ?_
  refine hlx_iload_n (by rfl) rfl ?_
  refine hlx_iconst (by rfl) rfl ?_
  refine hly_iadd (by rfl) rfl hk_1 (by omega) (by omega) (fun z7 ez7 => ?_)
  refine hly_sld (by rfl) hL ez7 (by omega) (by omega) (fun x8 ex8 => ?_)
  obtain rfl : x2 = x8 := ex2.trans ex8.symm
  refine hlx_aload_n (by rfl) rfl ?_
  refine hlx_iload_n (by rfl) rfl ?_
  refine hlx_iconst (by rfl) rfl ?_
  refine hly_iadd (by rfl) rfl hk_2 (by omega) (by omega) (fun z9 ez9 => ?_)
  refine hly_sld (by rfl) hL ez9 (by omega) (by omega) (fun x10 ex10 => ?_)
  obtain rfl : x4 = x10 := ex4.trans ex10.symm
  refine hlx_aload_n (by rfl) rfl ?_
  refine hlx_iload_n (by rfl) rfl ?_
  refine hlx_iconst (by rfl) rfl ?_
  refine hly_iadd (by rfl) rfl hk_3 (by omega) (by omega) (fun z11 ez11 => ?_)
  refine hly_sld (by rfl) hL ez11 (by omega) (by omega) (fun x12 ex12 => ?_)
  obtain rfl : x6 = x12 := ex6.trans ex12.symm
  refine hlx_call (by rfl) (by rfl) (by rfl) (by rfl) (by rfl) (by rfl) hC ?_
  rintro _ A2 ⟨z2, rfl, N', hN', hJ', hI'⟩
  refine hlx_popI (by rfl) ?_
  refine hlx_goto (by rfl) ?_
  exact ih A2 N' hJ' hI' hN'
theorem hlc_lost {L : Nat} {xs : Nat → Int32} {N : Int} {i : Int32} {A : hs_A} (hi0 : 0 ≤ i.toInt) (hi1 : i.toInt + 6 ≤ (L : Int)) (hL : L ≤ 3072) (hN0 : N ≤ 24 * i.toInt) (hA : hJ 0 N (N + 72) A A) (hI : hIC A) (ih : ∀ (A' : hs_A) (N' : Int), hJ 0 N' (N' + 72) A' A' → hIC A' → N' ≤ N + 144 → hlx (L, hlS xs) 26 1472 [.ref 0, .ref 1, .ref 368, .int i] [] A') : hlx (L, hlS xs) 26 721 [.ref 0, .ref 1, .ref 368, .int i] [] A := by
  have hN : N ≤ 800000 := by omega
  refine hlx_aload_n (by rfl) rfl ?_
  refine hlx_aload_n (by rfl) rfl ?_
  refine hlx_iload_n (by rfl) rfl ?_
  refine hlx_iconst (by rfl) rfl ?_
  refine hly_iadd (by rfl) rfl hk_1 (by omega) (by omega) (fun z1 ez1 => ?_)
  refine hly_sld (by rfl) hL ez1 (by omega) (by omega) (fun x2 ex2 => ?_)
  refine hlx_call (by rfl) (by rfl) (by rfl) (by rfl) (by rfl) (by rfl) (hpr_lost hA hN hI x2) ?_
  rintro _ A1 ⟨z1, rfl, hC⟩
  refine hlx_popI (by rfl) ?_
  refine hlx_aload_n (by rfl) rfl ?_
  refine hlx_aload_n (by rfl) rfl ?_
  refine hlx_iload_n (by rfl) rfl ?_
  refine hlx_iconst (by rfl) rfl ?_
  refine hly_iadd (by rfl) rfl hk_1 (by omega) (by omega) (fun z3 ez3 => ?_)
  refine hly_sld (by rfl) hL ez3 (by omega) (by omega) (fun x4 ex4 => ?_)
  obtain rfl : x2 = x4 := ex2.trans ex4.symm
  refine hlx_call (by rfl) (by rfl) (by rfl) (by rfl) (by rfl) (by rfl) hC ?_
  rintro _ A2 ⟨z2, rfl, N', hN', hJ', hI'⟩
  refine hlx_popI (by rfl) ?_
  refine hlx_goto (by rfl) ?_
  exact ih A2 N' hJ' hI' hN'
theorem hlc_between {L : Nat} {xs : Nat → Int32} {N : Int} {i : Int32} {A : hs_A} (hi0 : 0 ≤ i.toInt) (hi1 : i.toInt + 6 ≤ (L : Int)) (hL : L ≤ 3072) (hN0 : N ≤ 24 * i.toInt) (hA : hJ 0 N (N + 72) A A) (hI : hIC A) (ih : ∀ (A' : hs_A) (N' : Int), hJ 0 N' (N' + 72) A' A' → hIC A' → N' ≤ N + 144 → hlx (L, hlS xs) 26 1472 [.ref 0, .ref 1, .ref 368, .int i] [] A') : hlx (L, hlS xs) 26 744 [.ref 0, .ref 1, .ref 368, .int i] [] A := by
  have hN : N ≤ 800000 := by omega
  refine hlx_aload_n (by rfl) rfl ?_
  refine hlx_aload_n (by rfl) rfl ?_
  refine hlx_iload_n (by rfl) rfl ?_
  refine hlx_iconst (by rfl) rfl ?_
  refine hly_iadd (by rfl) rfl hk_1 (by omega) (by omega) (fun z1 ez1 => ?_)
  refine hly_sld (by rfl) hL ez1 (by omega) (by omega) (fun x2 ex2 => ?_)
  refine hlx_aload_n (by rfl) rfl ?_
  refine hlx_iload_n (by rfl) rfl ?_
  refine hlx_iconst (by rfl) rfl ?_
  refine hly_iadd (by rfl) rfl hk_2 (by omega) (by omega) (fun z3 ez3 => ?_)
  refine hly_sld (by rfl) hL ez3 (by omega) (by omega) (fun x4 ex4 => ?_)
  refine hlx_aload_n (by rfl) rfl ?_
  refine hlx_iload_n (by rfl) rfl ?_
  refine hlx_iconst (by rfl) rfl ?_
  refine hly_iadd (by rfl) rfl hk_3 (by omega) (by omega) (fun z5 ez5 => ?_)
  refine hly_sld (by rfl) hL ez5 (by omega) (by omega) (fun x6 ex6 => ?_)
  refine hlx_call (by rfl) (by rfl) (by rfl) (by rfl) (by rfl) (by rfl) (hpr_between hA hN hI x2 x4 x6) ?_
  rintro _ A1 ⟨z1, rfl, hC⟩
  refine hlx_popI (by rfl) ?_
  refine hlx_aload_n (by rfl) rfl ?_
  refine hlx_aload_n (by rfl) rfl ?_
  refine hlx_iload_n (by rfl) rfl ?_
  refine hlx_iconst (by rfl) rfl ?_
  refine hly_iadd (by rfl) rfl hk_1 (by omega) (by omega) (fun z7 ez7 => ?_)
  refine hly_sld (by rfl) hL ez7 (by omega) (by omega) (fun x8 ex8 => ?_)
  obtain rfl : x2 = x8 := ex2.trans ex8.symm
  refine hlx_aload_n (by rfl) rfl ?_
  refine hlx_iload_n (by rfl) rfl ?_
  refine hlx_iconst (by rfl) rfl ?_
  refine hly_iadd (by rfl) rfl hk_2 (by omega) (by omega) (fun z9 ez9 => ?_)
  refine hly_sld (by rfl) hL ez9 (by omega) (by omega) (fun x10 ex10 => ?_)
  obtain rfl : x4 = x10 := ex4.trans ex10.symm
  refine hlx_aload_n (by rfl) rfl ?_
  refine hlx_iload_n (by rfl) rfl ?_
  refine hlx_iconst (by rfl) rfl ?_
  refine hly_iadd (by rfl) rfl hk_3 (by omega) (by omega) (fun z11 ez11 => ?_)
  refine hly_sld (by rfl) hL ez11 (by omega) (by omega) (fun x12 ex12 => ?_)
  obtain rfl : x6 = x12 := ex6.trans ex12.symm
  refine hlx_call (by rfl) (by rfl) (by rfl) (by rfl) (by rfl) (by rfl) hC ?_
  rintro _ A2 ⟨z2, rfl, N', hN', hJ', hI'⟩
  refine hlx_popI (by rfl) ?_
  refine hlx_goto (by rfl) ?_
  exact ih A2 N' hJ' hI' hN'
theorem hlc_widest {L : Nat} {xs : Nat → Int32} {N : Int} {i : Int32} {A : hs_A} (hi0 : 0 ≤ i.toInt) (hi1 : i.toInt + 6 ≤ (L : Int)) (hL : L ≤ 3072) (hN0 : N ≤ 24 * i.toInt) (hA : hJ 0 N (N + 72) A A) (hI : hIC A) (ih : ∀ (A' : hs_A) (N' : Int), hJ 0 N' (N' + 72) A' A' → hIC A' → N' ≤ N + 144 → hlx (L, hlS xs) 26 1472 [.ref 0, .ref 1, .ref 368, .int i] [] A') : hlx (L, hlS xs) 26 787 [.ref 0, .ref 1, .ref 368, .int i] [] A := by
  have hN : N ≤ 800000 := by omega
  refine hlx_aload_n (by rfl) rfl ?_
  refine hlx_aload_n (by rfl) rfl ?_
  refine hlx_iload_n (by rfl) rfl ?_
  refine hlx_iconst (by rfl) rfl ?_
  refine hly_iadd (by rfl) rfl hk_1 (by omega) (by omega) (fun z1 ez1 => ?_)
  refine hly_sld (by rfl) hL ez1 (by omega) (by omega) (fun x2 ex2 => ?_)
  refine hlx_aload_n (by rfl) rfl ?_
  refine hlx_iload_n (by rfl) rfl ?_
  refine hlx_iconst (by rfl) rfl ?_
  refine hly_iadd (by rfl) rfl hk_2 (by omega) (by omega) (fun z3 ez3 => ?_)
  refine hly_sld (by rfl) hL ez3 (by omega) (by omega) (fun x4 ex4 => ?_)
  refine hlx_call (by rfl) (by rfl) (by rfl) (by rfl) (by rfl) (by rfl) (hpr_widest hA hN hI x2 x4) ?_
  rintro _ A1 ⟨z1, rfl, hC⟩
  refine hlx_popI (by rfl) ?_
  refine hlx_aload_n (by rfl) rfl ?_
  refine hlx_aload_n (by rfl) rfl ?_
  refine hlx_iload_n (by rfl) rfl ?_
  refine hlx_iconst (by rfl) rfl ?_
  refine hly_iadd (by rfl) rfl hk_1 (by omega) (by omega) (fun z5 ez5 => ?_)
  refine hly_sld (by rfl) hL ez5 (by omega) (by omega) (fun x6 ex6 => ?_)
  obtain rfl : x2 = x6 := ex2.trans ex6.symm
  refine hlx_aload_n (by rfl) rfl ?_
  refine hlx_iload_n (by rfl) rfl ?_
  refine hlx_iconst (by rfl) rfl ?_
  refine hly_iadd (by rfl) rfl hk_2 (by omega) (by omega) (fun z7 ez7 => ?_)
  refine hly_sld (by rfl) hL ez7 (by omega) (by omega) (fun x8 ex8 => ?_)
  obtain rfl : x4 = x8 := ex4.trans ex8.symm
  refine hlx_call (by rfl) (by rfl) (by rfl) (by rfl) (by rfl) (by rfl) hC ?_
  rintro _ A2 ⟨z2, rfl, N', hN', hJ', hI'⟩
  refine hlx_popI (by rfl) ?_
  refine hlx_goto (by rfl) ?_
  exact ih A2 N' hJ' hI' hN'
theorem hlc_same {L : Nat} {xs : Nat → Int32} {N : Int} {i : Int32} {A : hs_A} (hi0 : 0 ≤ i.toInt) (hi1 : i.toInt + 6 ≤ (L : Int)) (hL : L ≤ 3072) (hN0 : N ≤ 24 * i.toInt) (hA : hJ 0 N (N + 72) A A) (hI : hIC A) (ih : ∀ (A' : hs_A) (N' : Int), hJ 0 N' (N' + 72) A' A' → hIC A' → N' ≤ N + 144 → hlx (L, hlS xs) 26 1472 [.ref 0, .ref 1, .ref 368, .int i] [] A') : hlx (L, hlS xs) 26 820 [.ref 0, .ref 1, .ref 368, .int i] [] A := by
  have hN : N ≤ 800000 := by omega
  refine hlx_aload_n (by rfl) rfl ?_
  refine hlx_aload_n (by rfl) rfl ?_
  refine hlx_iload_n (by rfl) rfl ?_
  refine hlx_iconst (by rfl) rfl ?_
  refine hly_iadd (by rfl) rfl hk_1 (by omega) (by omega) (fun z1 ez1 => ?_)
  refine hly_sld (by rfl) hL ez1 (by omega) (by omega) (fun x2 ex2 => ?_)
  refine hlx_aload_n (by rfl) rfl ?_
  refine hlx_iload_n (by rfl) rfl ?_
  refine hlx_iconst (by rfl) rfl ?_
  refine hly_iadd (by rfl) rfl hk_2 (by omega) (by omega) (fun z3 ez3 => ?_)
  refine hly_sld (by rfl) hL ez3 (by omega) (by omega) (fun x4 ex4 => ?_)
  refine hlx_call (by rfl) (by rfl) (by rfl) (by rfl) (by rfl) (by rfl) (hpr_same hA hN hI x2 x4) ?_
  rintro _ A1 ⟨z1, rfl, hC⟩
  refine hlx_popI (by rfl) ?_
  refine hlx_aload_n (by rfl) rfl ?_
  refine hlx_aload_n (by rfl) rfl ?_
  refine hlx_iload_n (by rfl) rfl ?_
  refine hlx_iconst (by rfl) rfl ?_
  refine hly_iadd (by rfl) rfl hk_1 (by omega) (by omega) (fun z5 ez5 => ?_)
  refine hly_sld (by rfl) hL ez5 (by omega) (by omega) (fun x6 ex6 => ?_)
  obtain rfl : x2 = x6 := ex2.trans ex6.symm
  refine hlx_aload_n (by rfl) rfl ?_
  refine hlx_iload_n (by rfl) rfl ?_
  refine hlx_iconst (by rfl) rfl ?_
  refine hly_iadd (by rfl) rfl hk_2 (by omega) (by omega) (fun z7 ez7 => ?_)
  refine hly_sld (by rfl) hL ez7 (by omega) (by omega) (fun x8 ex8 => ?_)
  obtain rfl : x4 = x8 := ex4.trans ex8.symm
  refine hlx_call (by rfl) (by rfl) (by rfl) (by rfl) (by rfl) (by rfl) hC ?_
  rintro _ A2 ⟨z2, rfl, N', hN', hJ', hI'⟩
  refine hlx_popI (by rfl) ?_
  refine hlx_goto (by rfl) ?_
  exact ih A2 N' hJ' hI' hN'
theorem hlc_itself {L : Nat} {xs : Nat → Int32} {N : Int} {i : Int32} {A : hs_A} (hi0 : 0 ≤ i.toInt) (hi1 : i.toInt + 6 ≤ (L : Int)) (hL : L ≤ 3072) (hN0 : N ≤ 24 * i.toInt) (hA : hJ 0 N (N + 72) A A) (hI : hIC A) (ih : ∀ (A' : hs_A) (N' : Int), hJ 0 N' (N' + 72) A' A' → hIC A' → N' ≤ N + 144 → hlx (L, hlS xs) 26 1472 [.ref 0, .ref 1, .ref 368, .int i] [] A') : hlx (L, hlS xs) 26 853 [.ref 0, .ref 1, .ref 368, .int i] [] A := by
  have hN : N ≤ 800000 := by omega
  refine hlx_aload_n (by rfl) rfl ?_
  refine hlx_aload_n (by rfl) rfl ?_
  refine hlx_iload_n (by rfl) rfl ?_
  refine hlx_iconst (by rfl) rfl ?_
  refine hly_iadd (by rfl) rfl hk_1 (by omega) (by omega) (fun z1 ez1 => ?_)
  refine hly_sld (by rfl) hL ez1 (by omega) (by omega) (fun x2 ex2 => ?_)
  refine hlx_call (by rfl) (by rfl) (by rfl) (by rfl) (by rfl) (by rfl) (hpr_itself hA hN hI x2) ?_
  rintro _ A1 ⟨z1, rfl, hC⟩
  refine hlx_popI (by rfl) ?_
  refine hlx_aload_n (by rfl) rfl ?_
  refine hlx_aload_n (by rfl) rfl ?_
  refine hlx_iload_n (by rfl) rfl ?_
  refine hlx_iconst (by rfl) rfl ?_
  refine hly_iadd (by rfl) rfl hk_1 (by omega) (by omega) (fun z3 ez3 => ?_)
  refine hly_sld (by rfl) hL ez3 (by omega) (by omega) (fun x4 ex4 => ?_)
  obtain rfl : x2 = x4 := ex2.trans ex4.symm
  refine hlx_call (by rfl) (by rfl) (by rfl) (by rfl) (by rfl) (by rfl) hC ?_
  rintro _ A2 ⟨z2, rfl, N', hN', hJ', hI'⟩
  refine hlx_popI (by rfl) ?_
  refine hlx_goto (by rfl) ?_
  exact ih A2 N' hJ' hI' hN'
theorem hlc_times {L : Nat} {xs : Nat → Int32} {N : Int} {i : Int32} {A : hs_A} (hi0 : 0 ≤ i.toInt) (hi1 : i.toInt + 6 ≤ (L : Int)) (hL : L ≤ 3072) (hN0 : N ≤ 24 * i.toInt) (hA : hJ 0 N (N + 72) A A) (hI : hIC A) (ih : ∀ (A' : hs_A) (N' : Int), hJ 0 N' (N' + 72) A' A' → hIC A' → N' ≤ N + 144 → hlx (L, hlS xs) 26 1472 [.ref 0, .ref 1, .ref 368, .int i] [] A') : hlx (L, hlS xs) 26 876 [.ref 0, .ref 1, .ref 368, .int i] [] A := by
  have hN : N ≤ 800000 := by omega
  refine hlx_aload_n (by rfl) rfl ?_
  refine hlx_aload_n (by rfl) rfl ?_
  refine hlx_iload_n (by rfl) rfl ?_
  refine hlx_iconst (by rfl) rfl ?_
  refine hly_iadd (by rfl) rfl hk_1 (by omega) (by omega) (fun z1 ez1 => ?_)
  refine hly_sld (by rfl) hL ez1 (by omega) (by omega) (fun x2 ex2 => ?_)
  refine hlx_aload_n (by rfl) rfl ?_
  refine hlx_iload_n (by rfl) rfl ?_
  refine hlx_iconst (by rfl) rfl ?_
  refine hly_iadd (by rfl) rfl hk_2 (by omega) (by omega) (fun z3 ez3 => ?_)
  refine hly_sld (by rfl) hL ez3 (by omega) (by omega) (fun x4 ex4 => ?_)
  refine hlx_call (by rfl) (by rfl) (by rfl) (by rfl) (by rfl) (by rfl) (hpr_times hA hN hI x2 x4) ?_
  rintro _ A1 ⟨z1, rfl, hC⟩
  refine hlx_popI (by rfl) ?_
  refine hlx_aload_n (by rfl) rfl ?_
  refine hlx_aload_n (by rfl) rfl ?_
  refine hlx_iload_n (by rfl) rfl ?_
  refine hlx_iconst (by rfl) rfl ?_
  refine hly_iadd (by rfl) rfl hk_1 (by omega) (by omega) (fun z5 ez5 => ?_)
  refine hly_sld (by rfl) hL ez5 (by omega) (by omega) (fun x6 ex6 => ?_)
  obtain rfl : x2 = x6 := ex2.trans ex6.symm
  refine hlx_aload_n (by rfl) rfl ?_
  refine hlx_iload_n (by rfl) rfl ?_
  refine hlx_iconst (by rfl) rfl ?_
  refine hly_iadd (by rfl) rfl hk_2 (by omega) (by omega) (fun z7 ez7 => ?_)
  refine hly_sld (by rfl) hL ez7 (by omega) (by omega) (fun x8 ex8 => ?_)
  obtain rfl : x4 = x8 := ex4.trans ex8.symm
  refine hlx_call (by rfl) (by rfl) (by rfl) (by rfl) (by rfl) (by rfl) hC ?_
  rintro _ A2 ⟨z2, rfl, N', hN', hJ', hI'⟩
  refine hlx_popI (by rfl) ?_
  refine hlx_goto (by rfl) ?_
  exact ih A2 N' hJ' hI' hN'
theorem hlc_bestHour {L : Nat} {xs : Nat → Int32} {N : Int} {i : Int32} {A : hs_A} (hi0 : 0 ≤ i.toInt) (hi1 : i.toInt + 6 ≤ (L : Int)) (hL : L ≤ 3072) (hN0 : N ≤ 24 * i.toInt) (hA : hJ 0 N (N + 72) A A) (hI : hIC A) (ih : ∀ (A' : hs_A) (N' : Int), hJ 0 N' (N' + 72) A' A' → hIC A' → N' ≤ N + 144 → hlx (L, hlS xs) 26 1472 [.ref 0, .ref 1, .ref 368, .int i] [] A') : hlx (L, hlS xs) 26 909 [.ref 0, .ref 1, .ref 368, .int i] [] A := by
  have hN : N ≤ 800000 := by omega
  refine hlx_aload_n (by rfl) rfl ?_
  refine hlx_aload_n (by rfl) rfl ?_
  refine hlx_iload_n (by rfl) rfl ?_
  refine hlx_iconst (by rfl) rfl ?_
  refine hly_iadd (by rfl) rfl hk_1 (by omega) (by omega) (fun z1 ez1 => ?_)
  refine hly_sld (by rfl) hL ez1 (by omega) (by omega) (fun x2 ex2 => ?_)
  refine hlx_aload_n (by rfl) rfl ?_
  refine hlx_iload_n (by rfl) rfl ?_
  refine hlx_iconst (by rfl) rfl ?_
  refine hly_iadd (by rfl) rfl hk_2 (by omega) (by omega) (fun z3 ez3 => ?_)
  refine hly_sld (by rfl) hL ez3 (by omega) (by omega) (fun x4 ex4 => ?_)
  refine hlx_call (by rfl) (by rfl) (by rfl) (by rfl) (by rfl) (by rfl) (hpr_bestHour hA hN hI x2 x4) ?_
  rintro _ A1 ⟨z1, rfl, hC⟩
  refine hlx_popI (by rfl) ?_
  refine hlx_aload_n (by rfl) rfl ?_
  refine hlx_aload_n (by rfl) rfl ?_
  refine hlx_iload_n (by rfl) rfl ?_
  refine hlx_iconst (by rfl) rfl ?_
  refine hly_iadd (by rfl) rfl hk_1 (by omega) (by omega) (fun z5 ez5 => ?_)
  refine hly_sld (by rfl) hL ez5 (by omega) (by omega) (fun x6 ex6 => ?_)
  obtain rfl : x2 = x6 := ex2.trans ex6.symm
  refine hlx_aload_n (by rfl) rfl ?_
  refine hlx_iload_n (by rfl) rfl ?_
  refine hlx_iconst (by rfl) rfl ?_
  refine hly_iadd (by rfl) rfl hk_2 (by omega) (by omega) (fun z7 ez7 => ?_)
  refine hly_sld (by rfl) hL ez7 (by omega) (by omega) (fun x8 ex8 => ?_)
  obtain rfl : x4 = x8 := ex4.trans ex8.symm
  refine hlx_call (by rfl) (by rfl) (by rfl) (by rfl) (by rfl) (by rfl) hC ?_
  rintro _ A2 ⟨z2, rfl, N', hN', hJ', hI'⟩
  refine hlx_popI (by rfl) ?_
  refine hlx_goto (by rfl) ?_
  exact ih A2 N' hJ' hI' hN'
theorem hlc_breakAt {L : Nat} {xs : Nat → Int32} {N : Int} {i : Int32} {A : hs_A} (hi0 : 0 ≤ i.toInt) (hi1 : i.toInt + 6 ≤ (L : Int)) (hL : L ≤ 3072) (hN0 : N ≤ 24 * i.toInt) (hA : hJ 0 N (N + 72) A A) (hI : hIC A) (ih : ∀ (A' : hs_A) (N' : Int), hJ 0 N' (N' + 72) A' A' → hIC A' → N' ≤ N + 144 → hlx (L, hlS xs) 26 1472 [.ref 0, .ref 1, .ref 368, .int i] [] A') : hlx (L, hlS xs) 26 942 [.ref 0, .ref 1, .ref 368, .int i] [] A := by
  have hN : N ≤ 800000 := by omega
  refine hlx_aload_n (by rfl) rfl ?_
  refine hlx_aload_n (by rfl) rfl ?_
  refine hlx_iload_n (by rfl) rfl ?_
  refine hlx_iconst (by rfl) rfl ?_
  refine hly_iadd (by rfl) rfl hk_1 (by omega) (by omega) (fun z1 ez1 => ?_)
  refine hly_sld (by rfl) hL ez1 (by omega) (by omega) (fun x2 ex2 => ?_)
  refine hlx_call (by rfl) (by rfl) (by rfl) (by rfl) (by rfl) (by rfl) (hpr_breakAt hA hN hI x2) ?_
  rintro _ A1 ⟨z1, rfl, hC⟩
  refine hlx_popI (by rfl) ?_
  refine hlx_aload_n (by rfl) rfl ?_
  refine hlx_aload_n (by rfl) rfl ?_
  refine hlx_iload_n (by rfl) rfl ?_
  refine hlx_iconst (by rfl) rfl ?_
  refine hly_iadd (by rfl) rfl hk_1 (by omega) (by omega) (fun z3 ez3 => ?_)
  refine hly_sld (by rfl) hL ez3 (by omega) (by omega) (fun x4 ex4 => ?_)
  obtain rfl : x2 = x4 := ex2.trans ex4.symm
  refine hlx_call (by rfl) (by rfl) (by rfl) (by rfl) (by rfl) (by rfl) hC ?_
  rintro _ A2 ⟨z2, rfl, ez, N', hN', hJ', hI'⟩
  refine hlx_popI (by rfl) ?_
  refine hlx_goto (by rfl) ?_
  exact ih A2 N' hJ' hI' hN'
theorem hlc_loudest {L : Nat} {xs : Nat → Int32} {N : Int} {i : Int32} {A : hs_A} (hi0 : 0 ≤ i.toInt) (hi1 : i.toInt + 6 ≤ (L : Int)) (hL : L ≤ 3072) (hN0 : N ≤ 24 * i.toInt) (hA : hJ 0 N (N + 72) A A) (hI : hIC A) (ih : ∀ (A' : hs_A) (N' : Int), hJ 0 N' (N' + 72) A' A' → hIC A' → N' ≤ N + 144 → hlx (L, hlS xs) 26 1472 [.ref 0, .ref 1, .ref 368, .int i] [] A') : hlx (L, hlS xs) 26 965 [.ref 0, .ref 1, .ref 368, .int i] [] A := by
  have hN : N ≤ 800000 := by omega
  refine hlx_aload_n (by rfl) rfl ?_
  refine hlx_aload_n (by rfl) rfl ?_
  refine hlx_iload_n (by rfl) rfl ?_
  refine hlx_iconst (by rfl) rfl ?_
  refine hly_iadd (by rfl) rfl hk_1 (by omega) (by omega) (fun z1 ez1 => ?_)
  refine hly_sld (by rfl) hL ez1 (by omega) (by omega) (fun x2 ex2 => ?_)
  refine hlx_aload_n (by rfl) rfl ?_
  refine hlx_iload_n (by rfl) rfl ?_
  refine hlx_iconst (by rfl) rfl ?_
  refine hly_iadd (by rfl) rfl hk_2 (by omega) (by omega) (fun z3 ez3 => ?_)
  refine hly_sld (by rfl) hL ez3 (by omega) (by omega) (fun x4 ex4 => ?_)
  refine hlx_call (by rfl) (by rfl) (by rfl) (by rfl) (by rfl) (by rfl) (hpr_loudest hA hN hI x2 x4) ?_
  rintro _ A1 ⟨z1, rfl, hC⟩
  refine hlx_popI (by rfl) ?_
  refine hlx_aload_n (by rfl) rfl ?_
  refine hlx_aload_n (by rfl) rfl ?_
  refine hlx_iload_n (by rfl) rfl ?_
  refine hlx_iconst (by rfl) rfl ?_
  refine hly_iadd (by rfl) rfl hk_1 (by omega) (by omega) (fun z5 ez5 => ?_)
  refine hly_sld (by rfl) hL ez5 (by omega) (by omega) (fun x6 ex6 => ?_)
  obtain rfl : x2 = x6 := ex2.trans ex6.symm
  refine hlx_aload_n (by rfl) rfl ?_
  refine hlx_iload_n (by rfl) rfl ?_
  refine hlx_iconst (by rfl) rfl ?_
  refine hly_iadd (by rfl) rfl hk_2 (by omega) (by omega) (fun z7 ez7 => ?_)
  refine hly_sld (by rfl) hL ez7 (by omega) (by omega) (fun x8 ex8 => ?_)
  obtain rfl : x4 = x8 := ex4.trans ex8.symm
  refine hlx_call (by rfl) (by rfl) (by rfl) (by rfl) (by rfl) (by rfl) hC ?_
  rintro _ A2 ⟨z2, rfl, N', hN', hJ', hI'⟩
  refine hlx_popI (by rfl) ?_
  refine hlx_goto (by rfl) ?_
  exact ih A2 N' hJ' hI' hN'
theorem hlc_warm {L : Nat} {xs : Nat → Int32} {N : Int} {i : Int32} {A : hs_A} (hi0 : 0 ≤ i.toInt) (hi1 : i.toInt + 6 ≤ (L : Int)) (hL : L ≤ 3072) (hN0 : N ≤ 24 * i.toInt) (hA : hJ 0 N (N + 72) A A) (hI : hIC A) (ih : ∀ (A' : hs_A) (N' : Int), hJ 0 N' (N' + 72) A' A' → hIC A' → N' ≤ N + 144 → hlx (L, hlS xs) 26 1472 [.ref 0, .ref 1, .ref 368, .int i] [] A') : hlx (L, hlS xs) 26 998 [.ref 0, .ref 1, .ref 368, .int i] [] A := by
  have hN : N ≤ 800000 := by omega
  refine hlx_aload_n (by rfl) rfl ?_
  refine hlx_aload_n (by rfl) rfl ?_
  refine hlx_iload_n (by rfl) rfl ?_
  refine hlx_iconst (by rfl) rfl ?_
  refine hly_iadd (by rfl) rfl hk_1 (by omega) (by omega) (fun z1 ez1 => ?_)
  refine hly_sld (by rfl) hL ez1 (by omega) (by omega) (fun x2 ex2 => ?_)
  refine hlx_call (by rfl) (by rfl) (by rfl) (by rfl) (by rfl) (by rfl) (hpr_warm hA hN hI x2) ?_
  rintro _ A1 ⟨z1, rfl, hC⟩
  refine hlx_popI (by rfl) ?_
  refine hlx_aload_n (by rfl) rfl ?_
  refine hlx_aload_n (by rfl) rfl ?_
  refine hlx_iload_n (by rfl) rfl ?_
  refine hlx_iconst (by rfl) rfl ?_
  refine hly_iadd (by rfl) rfl hk_1 (by omega) (by omega) (fun z3 ez3 => ?_)
  refine hly_sld (by rfl) hL ez3 (by omega) (by omega) (fun x4 ex4 => ?_)
  obtain rfl : x2 = x4 := ex2.trans ex4.symm
  refine hlx_call (by rfl) (by rfl) (by rfl) (by rfl) (by rfl) (by rfl) hC ?_
  rintro _ A2 ⟨z2, rfl, N', hN', hJ', hI'⟩
  refine hlx_popI (by rfl) ?_
  refine hlx_goto (by rfl) ?_
  exact ih A2 N' hJ' hI' hN'
theorem hlc_lives {L : Nat} {xs : Nat → Int32} {N : Int} {i : Int32} {A : hs_A} (hi0 : 0 ≤ i.toInt) (hi1 : i.toInt + 6 ≤ (L : Int)) (hL : L ≤ 3072) (hN0 : N ≤ 24 * i.toInt) (hA : hJ 0 N (N + 72) A A) (hI : hIC A) (ih : ∀ (A' : hs_A) (N' : Int), hJ 0 N' (N' + 72) A' A' → hIC A' → N' ≤ N + 144 → hlx (L, hlS xs) 26 1472 [.ref 0, .ref 1, .ref 368, .int i] [] A') : hlx (L, hlS xs) 26 1021 [.ref 0, .ref 1, .ref 368, .int i] [] A := by
  have hN : N ≤ 800000 := by omega
  refine hlx_aload_n (by rfl) rfl ?_
  refine hlx_aload_n (by rfl) rfl ?_
  refine hlx_iload_n (by rfl) rfl ?_
  refine hlx_iconst (by rfl) rfl ?_
  refine hly_iadd (by rfl) rfl hk_1 (by omega) (by omega) (fun z1 ez1 => ?_)
  refine hly_sld (by rfl) hL ez1 (by omega) (by omega) (fun x2 ex2 => ?_)
  refine hlx_call (by rfl) (by rfl) (by rfl) (by rfl) (by rfl) (by rfl) (hpr_lives hA hN hI x2) ?_
  rintro _ A1 ⟨z1, rfl, hC⟩
  refine hlx_popI (by rfl) ?_
  refine hlx_aload_n (by rfl) rfl ?_
  refine hlx_aload_n (by rfl) rfl ?_
  refine hlx_iload_n (by rfl) rfl ?_
  refine hlx_iconst (by rfl) rfl ?_
  refine hly_iadd (by rfl) rfl hk_1 (by omega) (by omega) (fun z3 ez3 => ?_)
  refine hly_sld (by rfl) hL ez3 (by omega) (by omega) (fun x4 ex4 => ?_)
  obtain rfl : x2 = x4 := ex2.trans ex4.symm
  refine hlx_call (by rfl) (by rfl) (by rfl) (by rfl) (by rfl) (by rfl) hC ?_
  rintro _ A2 ⟨z2, rfl, ez, N', hN', hJ', hI'⟩
  refine hlx_popI (by rfl) ?_
  refine hlx_goto (by rfl) ?_
  exact ih A2 N' hJ' hI' hN'
theorem hlc_warmth {L : Nat} {xs : Nat → Int32} {N : Int} {i : Int32} {A : hs_A} (hi0 : 0 ≤ i.toInt) (hi1 : i.toInt + 6 ≤ (L : Int)) (hL : L ≤ 3072) (hN0 : N ≤ 24 * i.toInt) (hA : hJ 0 N (N + 72) A A) (hI : hIC A) (ih : ∀ (A' : hs_A) (N' : Int), hJ 0 N' (N' + 72) A' A' → hIC A' → N' ≤ N + 144 → hlx (L, hlS xs) 26 1472 [.ref 0, .ref 1, .ref 368, .int i] [] A') : hlx (L, hlS xs) 26 1044 [.ref 0, .ref 1, .ref 368, .int i] [] A := by
  have hN : N ≤ 800000 := by omega
  refine hlx_aload_n (by rfl) rfl ?_
  refine hlx_aload_n (by rfl) rfl ?_
  refine hlx_iload_n (by rfl) rfl ?_
  refine hlx_iconst (by rfl) rfl ?_
  refine hly_iadd (by rfl) rfl hk_1 (by omega) (by omega) (fun z1 ez1 => ?_)
  refine hly_sld (by rfl) hL ez1 (by omega) (by omega) (fun x2 ex2 => ?_)
  refine hlx_call (by rfl) (by rfl) (by rfl) (by rfl) (by rfl) (by rfl) (hpr_warmth hA hN hI x2) ?_
  rintro _ A1 ⟨z1, rfl, hC⟩
  refine hlx_popI (by rfl) ?_
  refine hlx_aload_n (by rfl) rfl ?_
  refine hlx_aload_n (by rfl) rfl ?_
  refine hlx_iload_n (by rfl) rfl ?_
  refine hlx_iconst (by rfl) rfl ?_
  refine hly_iadd (by rfl) rfl hk_1 (by omega) (by omega) (fun z3 ez3 => ?_)
  refine hly_sld (by rfl) hL ez3 (by omega) (by omega) (fun x4 ex4 => ?_)
  obtain rfl : x2 = x4 := ex2.trans ex4.symm
  refine hlx_call (by rfl) (by rfl) (by rfl) (by rfl) (by rfl) (by rfl) hC ?_
  rintro _ A2 ⟨z2, rfl, N', hN', hJ', hI'⟩
  refine hlx_popI (by rfl) ?_
  refine hlx_goto (by rfl) ?_
  exact ih A2 N' hJ' hI' hN'
theorem hlc_then {L : Nat} {xs : Nat → Int32} {N : Int} {i : Int32} {A : hs_A} (hi0 : 0 ≤ i.toInt) (hi1 : i.toInt + 6 ≤ (L : Int)) (hL : L ≤ 3072) (hN0 : N ≤ 24 * i.toInt) (hA : hJ 0 N (N + 72) A A) (hI : hIC A) (ih : ∀ (A' : hs_A) (N' : Int), hJ 0 N' (N' + 72) A' A' → hIC A' → N' ≤ N + 144 → hlx (L, hlS xs) 26 1472 [.ref 0, .ref 1, .ref 368, .int i] [] A') : hlx (L, hlS xs) 26 1067 [.ref 0, .ref 1, .ref 368, .int i] [] A := by
  have hN : N ≤ 800000 := by omega
  refine hlx_aload_n (by rfl) rfl ?_
  refine hlx_aload_n (by rfl) rfl ?_
  refine hlx_iload_n (by rfl) rfl ?_
  refine hlx_iconst (by rfl) rfl ?_
  refine hly_iadd (by rfl) rfl hk_1 (by omega) (by omega) (fun z1 ez1 => ?_)
  refine hly_sld (by rfl) hL ez1 (by omega) (by omega) (fun x2 ex2 => ?_)
  refine hlx_aload_n (by rfl) rfl ?_
  refine hlx_iload_n (by rfl) rfl ?_
  refine hlx_iconst (by rfl) rfl ?_
  refine hly_iadd (by rfl) rfl hk_2 (by omega) (by omega) (fun z3 ez3 => ?_)
  refine hly_sld (by rfl) hL ez3 (by omega) (by omega) (fun x4 ex4 => ?_)
  refine hlx_aload_n (by rfl) rfl ?_
  refine hlx_iload_n (by rfl) rfl ?_
  refine hlx_iconst (by rfl) rfl ?_
  refine hly_iadd (by rfl) rfl hk_3 (by omega) (by omega) (fun z5 ez5 => ?_)
  refine hly_sld (by rfl) hL ez5 (by omega) (by omega) (fun x6 ex6 => ?_)
  refine hlx_call (by rfl) (by rfl) (by rfl) (by rfl) (by rfl) (by rfl) (hpr_then hA hN hI x2 x4 x6) ?_
  rintro _ A1 ⟨z1, rfl, hC⟩
  refine hlx_popI (by rfl) ?_
  refine hlx_aload_n (by rfl) rfl ?_
  refine hlx_aload_n (by rfl) rfl ?_
  refine hlx_iload_n (by rfl) rfl ?_
  refine hlx_iconst (by rfl) rfl ?_
  refine hly_iadd (by rfl) rfl hk_1 (by omega) (by omega) (fun z7 ez7 => ?_)
  refine hly_sld (by rfl) hL ez7 (by omega) (by omega) (fun x8 ex8 => ?_)
  obtain rfl : x2 = x8 := ex2.trans ex8.symm
  refine hlx_aload_n (by rfl) rfl ?_
  refine hlx_iload_n (by rfl) rfl ?_
  refine hlx_iconst (by rfl) rfl ?_
  refine hly_iadd (by rfl) rfl hk_2 (by omega) (by omega) (fun z9 ez9 => ?_)
  refine hly_sld (by rfl) hL ez9 (by omega) (by omega) (fun x10 ex10 => ?_)
  obtain rfl : x4 = x10 := ex4.trans ex10.symm
  refine hlx_aload_n (by rfl) rfl ?_
  refine hlx_iload_n (by rfl) rfl ?_
  refine hlx_iconst (by rfl) rfl ?_
  refine hly_iadd (by rfl) rfl hk_3 (by omega) (by omega) (fun z11 ez11 => ?_)
  refine hly_sld (by rfl) hL ez11 (by omega) (by omega) (fun x12 ex12 => ?_)
  obtain rfl : x6 = x12 := ex6.trans ex12.symm
  refine hlx_call (by rfl) (by rfl) (by rfl) (by rfl) (by rfl) (by rfl) hC ?_
  rintro _ A2 ⟨z2, rfl, N', hN', hJ', hI'⟩
  refine hlx_popI (by rfl) ?_
  refine hlx_goto (by rfl) ?_
  exact ih A2 N' hJ' hI' hN'
theorem hlc_quiet {L : Nat} {xs : Nat → Int32} {N : Int} {i : Int32} {A : hs_A} (hi0 : 0 ≤ i.toInt) (hi1 : i.toInt + 6 ≤ (L : Int)) (hL : L ≤ 3072) (hN0 : N ≤ 24 * i.toInt) (hA : hJ 0 N (N + 72) A A) (hI : hIC A) (ih : ∀ (A' : hs_A) (N' : Int), hJ 0 N' (N' + 72) A' A' → hIC A' → N' ≤ N + 144 → hlx (L, hlS xs) 26 1472 [.ref 0, .ref 1, .ref 368, .int i] [] A') : hlx (L, hlS xs) 26 1110 [.ref 0, .ref 1, .ref 368, .int i] [] A := by
  have hN : N ≤ 800000 := by omega
  refine hlx_aload_n (by rfl) rfl ?_
  refine hlx_aload_n (by rfl) rfl ?_
  refine hlx_iload_n (by rfl) rfl ?_
  refine hlx_iconst (by rfl) rfl ?_
  refine hly_iadd (by rfl) rfl hk_1 (by omega) (by omega) (fun z1 ez1 => ?_)
  refine hly_sld (by rfl) hL ez1 (by omega) (by omega) (fun x2 ex2 => ?_)
  refine hlx_aload_n (by rfl) rfl ?_
  refine hlx_iload_n (by rfl) rfl ?_
  refine hlx_iconst (by rfl) rfl ?_
  refine hly_iadd (by rfl) rfl hk_2 (by omega) (by omega) (fun z3 ez3 => ?_)
  refine hly_sld (by rfl) hL ez3 (by omega) (by omega) (fun x4 ex4 => ?_)
  refine hlx_call (by rfl) (by rfl) (by rfl) (by rfl) (by rfl) (by rfl) (hpr_quiet hA hN hI x2 x4) ?_
  rintro _ A1 ⟨z1, rfl, hC⟩
  refine hlx_popI (by rfl) ?_
  refine hlx_aload_n (by rfl) rfl ?_
  refine hlx_aload_n (by rfl) rfl ?_
  refine hlx_iload_n (by rfl) rfl ?_
  refine hlx_iconst (by rfl) rfl ?_
  refine hly_iadd (by rfl) rfl hk_1 (by omega) (by omega) (fun z5 ez5 => ?_)
  refine hly_sld (by rfl) hL ez5 (by omega) (by omega) (fun x6 ex6 => ?_)
  obtain rfl : x2 = x6 := ex2.trans ex6.symm
  refine hlx_aload_n (by rfl) rfl ?_
  refine hlx_iload_n (by rfl) rfl ?_
  refine hlx_iconst (by rfl) rfl ?_
  refine hly_iadd (by rfl) rfl hk_2 (by omega) (by omega) (fun z7 ez7 => ?_)
  refine hly_sld (by rfl) hL ez7 (by omega) (by omega) (fun x8 ex8 => ?_)
  obtain rfl : x4 = x8 := ex4.trans ex8.symm
  refine hlx_call (by rfl) (by rfl) (by rfl) (by rfl) (by rfl) (by rfl) hC ?_
  rintro _ A2 ⟨z2, rfl, N', hN', hJ', hI'⟩
  refine hlx_popI (by rfl) ?_
  refine hlx_goto (by rfl) ?_
  exact ih A2 N' hJ' hI' hN'
theorem hlc_mourn {L : Nat} {xs : Nat → Int32} {N : Int} {i : Int32} {A : hs_A} (hi0 : 0 ≤ i.toInt) (hi1 : i.toInt + 6 ≤ (L : Int)) (hL : L ≤ 3072) (hN0 : N ≤ 24 * i.toInt) (hA : hJ 0 N (N + 72) A A) (hI : hIC A) (ih : ∀ (A' : hs_A) (N' : Int), hJ 0 N' (N' + 72) A' A' → hIC A' → N' ≤ N + 144 → hlx (L, hlS xs) 26 1472 [.ref 0, .ref 1, .ref 368, .int i] [] A') : hlx (L, hlS xs) 26 1143 [.ref 0, .ref 1, .ref 368, .int i] [] A := by
  have hN : N ≤ 800000 := by omega
  refine hlx_aload_n (by rfl) rfl ?_
  refine hlx_aload_n (by rfl) rfl ?_
  refine hlx_iload_n (by rfl) rfl ?_
  refine hlx_iconst (by rfl) rfl ?_
  refine hly_iadd (by rfl) rfl hk_1 (by omega) (by omega) (fun z1 ez1 => ?_)
  refine hly_sld (by rfl) hL ez1 (by omega) (by omega) (fun x2 ex2 => ?_)
  refine hlx_call (by rfl) (by rfl) (by rfl) (by rfl) (by rfl) (by rfl) (hpr_mourn hA hN hI x2) ?_
  rintro _ A1 ⟨z1, rfl, hC⟩
  refine hlx_popI (by rfl) ?_
  refine hlx_aload_n (by rfl) rfl ?_
  refine hlx_aload_n (by rfl) rfl ?_
  refine hlx_iload_n (by rfl) rfl ?_
  refine hlx_iconst (by rfl) rfl ?_
  refine hly_iadd (by rfl) rfl hk_1 (by omega) (by omega) (fun z3 ez3 => ?_)
  refine hly_sld (by rfl) hL ez3 (by omega) (by omega) (fun x4 ex4 => ?_)
  obtain rfl : x2 = x4 := ex2.trans ex4.symm
  refine hlx_call (by rfl) (by rfl) (by rfl) (by rfl) (by rfl) (by rfl) hC ?_
  rintro _ A2 ⟨z2, rfl, N', hN', hJ', hI'⟩
  refine hlx_popI (by rfl) ?_
  refine hlx_goto (by rfl) ?_
  exact ih A2 N' hJ' hI' hN'
theorem hlc_carryBest {L : Nat} {xs : Nat → Int32} {N : Int} {i : Int32} {A : hs_A} (hi0 : 0 ≤ i.toInt) (hi1 : i.toInt + 6 ≤ (L : Int)) (hL : L ≤ 3072) (hN0 : N ≤ 24 * i.toInt) (hA : hJ 0 N (N + 72) A A) (hI : hIC A) (ih : ∀ (A' : hs_A) (N' : Int), hJ 0 N' (N' + 72) A' A' → hIC A' → N' ≤ N + 144 → hlx (L, hlS xs) 26 1472 [.ref 0, .ref 1, .ref 368, .int i] [] A') : hlx (L, hlS xs) 26 1166 [.ref 0, .ref 1, .ref 368, .int i] [] A := by
  have hN : N ≤ 800000 := by omega
  refine hlx_aload_n (by rfl) rfl ?_
  refine hlx_aload_n (by rfl) rfl ?_
  refine hlx_iload_n (by rfl) rfl ?_
  refine hlx_iconst (by rfl) rfl ?_
  refine hly_iadd (by rfl) rfl hk_1 (by omega) (by omega) (fun z1 ez1 => ?_)
  refine hly_sld (by rfl) hL ez1 (by omega) (by omega) (fun x2 ex2 => ?_)
  refine hlx_call (by rfl) (by rfl) (by rfl) (by rfl) (by rfl) (by rfl) (hpr_carryBest hA hN hI x2) ?_
  rintro _ A1 ⟨z1, rfl, hC⟩
  refine hlx_popI (by rfl) ?_
  refine hlx_aload_n (by rfl) rfl ?_
  refine hlx_aload_n (by rfl) rfl ?_
  refine hlx_iload_n (by rfl) rfl ?_
  refine hlx_iconst (by rfl) rfl ?_
  refine hly_iadd (by rfl) rfl hk_1 (by omega) (by omega) (fun z3 ez3 => ?_)
  refine hly_sld (by rfl) hL ez3 (by omega) (by omega) (fun x4 ex4 => ?_)
  obtain rfl : x2 = x4 := ex2.trans ex4.symm
  refine hlx_call (by rfl) (by rfl) (by rfl) (by rfl) (by rfl) (by rfl) hC ?_
  rintro _ A2 ⟨z2, rfl, ez, N', hN', hJ', hI'⟩
  refine hlx_popI (by rfl) ?_
  refine hlx_goto (by rfl) ?_
  exact ih A2 N' hJ' hI' hN'
theorem hlc_needs {L : Nat} {xs : Nat → Int32} {N : Int} {i : Int32} {A : hs_A} (hi0 : 0 ≤ i.toInt) (hi1 : i.toInt + 6 ≤ (L : Int)) (hL : L ≤ 3072) (hN0 : N ≤ 24 * i.toInt) (hA : hJ 0 N (N + 72) A A) (hI : hIC A) (ih : ∀ (A' : hs_A) (N' : Int), hJ 0 N' (N' + 72) A' A' → hIC A' → N' ≤ N + 144 → hlx (L, hlS xs) 26 1472 [.ref 0, .ref 1, .ref 368, .int i] [] A') : hlx (L, hlS xs) 26 1189 [.ref 0, .ref 1, .ref 368, .int i] [] A := by
  have hN : N ≤ 800000 := by omega
  refine hlx_aload_n (by rfl) rfl ?_
  refine hlx_aload_n (by rfl) rfl ?_
  refine hlx_iload_n (by rfl) rfl ?_
  refine hlx_iconst (by rfl) rfl ?_
  refine hly_iadd (by rfl) rfl hk_1 (by omega) (by omega) (fun z1 ez1 => ?_)
  refine hly_sld (by rfl) hL ez1 (by omega) (by omega) (fun x2 ex2 => ?_)
  refine hlx_call (by rfl) (by rfl) (by rfl) (by rfl) (by rfl) (by rfl) (hpr_needs hA hN hI x2) ?_
  rintro _ A1 ⟨z1, rfl, hC⟩
  refine hlx_aload_n (by rfl) rfl ?_
  refine hlx_aload_n (by rfl) rfl ?_
  refine hlx_iload_n (by rfl) rfl ?_
  refine hlx_iconst (by rfl) rfl ?_
  refine hly_iadd (by rfl) rfl hk_1 (by omega) (by omega) (fun z3 ez3 => ?_)
  refine hly_sld (by rfl) hL ez3 (by omega) (by omega) (fun x4 ex4 => ?_)
  obtain rfl : x2 = x4 := ex2.trans ex4.symm
  refine hlx_call (by rfl) (by rfl) (by rfl) (by rfl) (by rfl) (by rfl) hC ?_
  rintro _ A2 ⟨z2, rfl, ez, N', hN', hJ', hI'⟩
  refine hlx_icmp (by rfl) (fun q => ?_) (fun q => False.elim (hn_f hn_eq q (congrArg Int32.toInt ez)))
  exact ih A2 N' hJ' hI' hN'
theorem hlc_changeBest {L : Nat} {xs : Nat → Int32} {N : Int} {i : Int32} {A : hs_A} (hi0 : 0 ≤ i.toInt) (hi1 : i.toInt + 6 ≤ (L : Int)) (hL : L ≤ 3072) (hN0 : N ≤ 24 * i.toInt) (hA : hJ 0 N (N + 72) A A) (hI : hIC A) (ih : ∀ (A' : hs_A) (N' : Int), hJ 0 N' (N' + 72) A' A' → hIC A' → N' ≤ N + 144 → hlx (L, hlS xs) 26 1472 [.ref 0, .ref 1, .ref 368, .int i] [] A') : hlx (L, hlS xs) 26 1212 [.ref 0, .ref 1, .ref 368, .int i] [] A := by
  have hN : N ≤ 800000 := by omega
  refine hlx_aload_n (by rfl) rfl ?_
  refine hlx_aload_n (by rfl) rfl ?_
  refine hlx_iload_n (by rfl) rfl ?_
  refine hlx_iconst (by rfl) rfl ?_
  refine hly_iadd (by rfl) rfl hk_1 (by omega) (by omega) (fun z1 ez1 => ?_)
  refine hly_sld (by rfl) hL ez1 (by omega) (by omega) (fun x2 ex2 => ?_)
  refine hlx_call (by rfl) (by rfl) (by rfl) (by rfl) (by rfl) (by rfl) (hpr_changeBest hA hN hI x2) ?_
  rintro _ A1 ⟨z1, rfl, hC⟩
  refine hlx_popI (by rfl) ?_
  refine hlx_aload_n (by rfl) rfl ?_
  refine hlx_aload_n (by rfl) rfl ?_
  refine hlx_iload_n (by rfl) rfl ?_
  refine hlx_iconst (by rfl) rfl ?_
  refine hly_iadd (by rfl) rfl hk_1 (by omega) (by omega) (fun z3 ez3 => ?_)
  refine hly_sld (by rfl) hL ez3 (by omega) (by omega) (fun x4 ex4 => ?_)
  obtain rfl : x2 = x4 := ex2.trans ex4.symm
  refine hlx_call (by rfl) (by rfl) (by rfl) (by rfl) (by rfl) (by rfl) hC ?_
  rintro _ A2 ⟨z2, rfl, N', hN', hJ', hI'⟩
  refine hlx_popI (by rfl) ?_
  refine hlx_goto (by rfl) ?_
  exact ih A2 N' hJ' hI' hN'
theorem hlc_off {L : Nat} {xs : Nat → Int32} {N : Int} {i : Int32} {A : hs_A} (hi0 : 0 ≤ i.toInt) (hi1 : i.toInt + 6 ≤ (L : Int)) (hL : L ≤ 3072) (hN0 : N ≤ 24 * i.toInt) (hA : hJ 0 N (N + 72) A A) (hI : hIC A) (ih : ∀ (A' : hs_A) (N' : Int), hJ 0 N' (N' + 72) A' A' → hIC A' → N' ≤ N + 144 → hlx (L, hlS xs) 26 1472 [.ref 0, .ref 1, .ref 368, .int i] [] A') : hlx (L, hlS xs) 26 1235 [.ref 0, .ref 1, .ref 368, .int i] [] A := by
  have hN : N ≤ 800000 := by omega
  refine hlx_aload_n (by rfl) rfl ?_
  refine hlx_aload_n (by rfl) rfl ?_
  refine hlx_iload_n (by rfl) rfl ?_
  refine hlx_iconst (by rfl) rfl ?_
  refine hly_iadd (by rfl) rfl hk_1 (by omega) (by omega) (fun z1 ez1 => ?_)
  refine hly_sld (by rfl) hL ez1 (by omega) (by omega) (fun x2 ex2 => ?_)
  refine hlx_call (by rfl) (by rfl) (by rfl) (by rfl) (by rfl) (by rfl) (hpr_off hA hN hI x2) ?_
  rintro _ A1 ⟨z1, rfl, hC⟩
  refine hlx_popI (by rfl) ?_
  refine hlx_aload_n (by rfl) rfl ?_
  refine hlx_aload_n (by rfl) rfl ?_
  refine hlx_iload_n (by rfl) rfl ?_
  refine hlx_iconst (by rfl) rfl ?_
  refine hly_iadd (by rfl) rfl hk_1 (by omega) (by omega) (fun z3 ez3 => ?_)
  refine hly_sld (by rfl) hL ez3 (by omega) (by omega) (fun x4 ex4 => ?_)
  obtain rfl : x2 = x4 := ex2.trans ex4.symm
  refine hlx_call (by rfl) (by rfl) (by rfl) (by rfl) (by rfl) (by rfl) hC ?_
  rintro _ A2 ⟨z2, rfl, ez, N', hN', hJ', hI'⟩
  refine hlx_popI (by rfl) ?_
  refine hlx_goto (by rfl) ?_
  exact ih A2 N' hJ' hI' hN'
theorem hlc_year {L : Nat} {xs : Nat → Int32} {N : Int} {i : Int32} {A : hs_A} (hi0 : 0 ≤ i.toInt) (hi1 : i.toInt + 6 ≤ (L : Int)) (hL : L ≤ 3072) (hN0 : N ≤ 24 * i.toInt) (hA : hJ 0 N (N + 72) A A) (hI : hIC A) (ih : ∀ (A' : hs_A) (N' : Int), hJ 0 N' (N' + 72) A' A' → hIC A' → N' ≤ N + 144 → hlx (L, hlS xs) 26 1472 [.ref 0, .ref 1, .ref 368, .int i] [] A') : hlx (L, hlS xs) 26 1258 [.ref 0, .ref 1, .ref 368, .int i] [] A := by
  have hN : N ≤ 800000 := by omega
  refine hlx_aload_n (by rfl) rfl ?_
  refine hlx_aload_n (by rfl) rfl ?_
  refine hlx_iload_n (by rfl) rfl ?_
  refine hlx_iconst (by rfl) rfl ?_
  refine hly_iadd (by rfl) rfl hk_1 (by omega) (by omega) (fun z1 ez1 => ?_)
  refine hly_sld (by rfl) hL ez1 (by omega) (by omega) (fun x2 ex2 => ?_)
  refine hlx_aload_n (by rfl) rfl ?_
  refine hlx_iload_n (by rfl) rfl ?_
  refine hlx_iconst (by rfl) rfl ?_
  refine hly_iadd (by rfl) rfl hk_2 (by omega) (by omega) (fun z3 ez3 => ?_)
  refine hly_sld (by rfl) hL ez3 (by omega) (by omega) (fun x4 ex4 => ?_)
  refine hlx_aload_n (by rfl) rfl ?_
  refine hlx_iload_n (by rfl) rfl ?_
  refine hlx_iconst (by rfl) rfl ?_
  refine hly_iadd (by rfl) rfl hk_3 (by omega) (by omega) (fun z5 ez5 => ?_)
  refine hly_sld (by rfl) hL ez5 (by omega) (by omega) (fun x6 ex6 => ?_)
  refine hlx_call (by rfl) (by rfl) (by rfl) (by rfl) (by rfl) (by rfl) (hpr_year hA hN hI x2 x4 x6) ?_
  rintro _ A1 ⟨z1, rfl, hC⟩
  refine hlx_popI (by rfl) ?_
  refine hlx_aload_n (by rfl) rfl ?_
  refine hlx_aload_n (by rfl) rfl ?_
  refine hlx_iload_n (by rfl) rfl ?_
  refine hlx_iconst (by rfl) rfl ?_
  refine hly_iadd (by rfl) rfl hk_1 (by omega) (by omega) (fun z7 ez7 => ?_)
  refine hly_sld (by rfl) hL ez7 (by omega) (by omega) (fun x8 ex8 => ?_)
  obtain rfl : x2 = x8 := ex2.trans ex8.symm
  refine hlx_aload_n (by rfl) rfl ?_
  refine hlx_iload_n (by rfl) rfl ?_
  refine hlx_iconst (by rfl) rfl ?_
  refine hly_iadd (by rfl) rfl hk_2 (by omega) (by omega) (fun z9 ez9 => ?_)
  refine hly_sld (by rfl) hL ez9 (by omega) (by omega) (fun x10 ex10 => ?_)
  obtain rfl : x4 = x10 := ex4.trans ex10.symm
  refine hlx_aload_n (by rfl) rfl ?_
  refine hlx_iload_n (by rfl) rfl ?_
  refine hlx_iconst (by rfl) rfl ?_
  refine hly_iadd (by rfl) rfl hk_3 (by omega) (by omega) (fun z11 ez11 => ?_)
  refine hly_sld (by rfl) hL ez11 (by omega) (by omega) (fun x12 ex12 => ?_)
  obtain rfl : x6 = x12 := ex6.trans ex12.symm
  refine hlx_call (by rfl) (by rfl) (by rfl) (by rfl) (by rfl) (by rfl) hC ?_
  rintro _ A2 ⟨z2, rfl, N', hN', hJ', hI'⟩
  refine hlx_popI (by rfl) ?_
  refine hlx_goto (by rfl) ?_
  exact ih A2 N' hJ' hI' hN'
theorem hlc_tell {L : Nat} {xs : Nat → Int32} {N : Int} {i : Int32} {A : hs_A} (hi0 : 0 ≤ i.toInt) (hi1 : i.toInt + 6 ≤ (L : Int)) (hL : L ≤ 3072) (hN0 : N ≤ 24 * i.toInt) (hA : hJ 0 N (N + 72) A A) (hI : hIC A) (ih : ∀ (A' : hs_A) (N' : Int), hJ 0 N' (N' + 72) A' A' → hIC A' → N' ≤ N + 144 → hlx (L, hlS xs) 26 1472 [.ref 0, .ref 1, .ref 368, .int i] [] A') : hlx (L, hlS xs) 26 1301 [.ref 0, .ref 1, .ref 368, .int i] [] A := by
  have hN : N ≤ 800000 := by omega
  refine hlx_aload_n (by rfl) rfl ?_
  refine hlx_aload_n (by rfl) rfl ?_
  refine hlx_iload_n (by rfl) rfl ?_
  refine hlx_iconst (by rfl) rfl ?_
  refine hly_iadd (by rfl) rfl hk_1 (by omega) (by omega) (fun z1 ez1 => ?_)
  refine hly_sld (by rfl) hL ez1 (by omega) (by omega) (fun x2 ex2 => ?_)
  refine hlx_aload_n (by rfl) rfl ?_
  refine hlx_iload_n (by rfl) rfl ?_
  refine hlx_iconst (by rfl) rfl ?_
  refine hly_iadd (by rfl) rfl hk_2 (by omega) (by omega) (fun z3 ez3 => ?_)
  refine hly_sld (by rfl) hL ez3 (by omega) (by omega) (fun x4 ex4 => ?_)
  refine hlx_call (by rfl) (by rfl) (by rfl) (by rfl) (by rfl) (by rfl) (hpr_tell hA hN hI x2 x4) ?_
  rintro _ A1 ⟨z1, rfl, hC⟩
  refine hlx_popI (by rfl) ?_
  refine hlx_aload_n (by rfl) rfl ?_
  refine hlx_aload_n (by rfl) rfl ?_
  refine hlx_iload_n (by rfl) rfl ?_
  refine hlx_iconst (by rfl) rfl ?_
  refine hly_iadd (by rfl) rfl hk_1 (by omega) (by omega) (fun z5 ez5 => ?_)
  refine hly_sld (by rfl) hL ez5 (by omega) (by omega) (fun x6 ex6 => ?_)
  obtain rfl : x2 = x6 := ex2.trans ex6.symm
  refine hlx_aload_n (by rfl) rfl ?_
  refine hlx_iload_n (by rfl) rfl ?_
  refine hlx_iconst (by rfl) rfl ?_
  refine hly_iadd (by rfl) rfl hk_2 (by omega) (by omega) (fun z7 ez7 => ?_)
  refine hly_sld (by rfl) hL ez7 (by omega) (by omega) (fun x8 ex8 => ?_)
  obtain rfl : x4 = x8 := ex4.trans ex8.symm
  refine hlx_call (by rfl) (by rfl) (by rfl) (by rfl) (by rfl) (by rfl) hC ?_
  rintro _ A2 ⟨z2, rfl, ez, N', hN', hJ', hI'⟩
  refine hlx_popI (by rfl) ?_
  refine hlx_goto (by rfl) ?_
  exact ih A2 N' hJ' hI' hN'
theorem hlc_forget {L : Nat} {xs : Nat → Int32} {N : Int} {i : Int32} {A : hs_A} (hi0 : 0 ≤ i.toInt) (hi1 : i.toInt + 6 ≤ (L : Int)) (hL : L ≤ 3072) (hN0 : N ≤ 24 * i.toInt) (hA : hJ 0 N (N + 72) A A) (hI : hIC A) (ih : ∀ (A' : hs_A) (N' : Int), hJ 0 N' (N' + 72) A' A' → hIC A' → N' ≤ N + 144 → hlx (L, hlS xs) 26 1472 [.ref 0, .ref 1, .ref 368, .int i] [] A') : hlx (L, hlS xs) 26 1334 [.ref 0, .ref 1, .ref 368, .int i] [] A := by
  have hN : N ≤ 800000 := by omega
  refine hlx_aload_n (by rfl) rfl ?_
  refine hlx_call (by rfl) (by rfl) (by rfl) (by rfl) (by rfl) (by rfl) (hpr_forget hA hN hI ) ?_
  rintro _ A1 ⟨z1, rfl, hC⟩
  refine hlx_popI (by rfl) ?_
  refine hlx_aload_n (by rfl) rfl ?_
  refine hlx_call (by rfl) (by rfl) (by rfl) (by rfl) (by rfl) (by rfl) hC ?_
  rintro _ A2 ⟨z2, rfl, ez, N', hN', hJ', hI'⟩
  refine hlx_popI (by rfl) ?_
  refine hlx_goto (by rfl) ?_
  exact ih A2 N' hJ' hI' hN'
theorem hlc_sent {L : Nat} {xs : Nat → Int32} {N : Int} {i : Int32} {A : hs_A} (hi0 : 0 ≤ i.toInt) (hi1 : i.toInt + 6 ≤ (L : Int)) (hL : L ≤ 3072) (hN0 : N ≤ 24 * i.toInt) (hA : hJ 0 N (N + 72) A A) (hI : hIC A) (ih : ∀ (A' : hs_A) (N' : Int), hJ 0 N' (N' + 72) A' A' → hIC A' → N' ≤ N + 144 → hlx (L, hlS xs) 26 1472 [.ref 0, .ref 1, .ref 368, .int i] [] A') : hlx (L, hlS xs) 26 1347 [.ref 0, .ref 1, .ref 368, .int i] [] A := by
  have hN : N ≤ 800000 := by omega
  refine hlx_aload_n (by rfl) rfl ?_
  refine hlx_aload_n (by rfl) rfl ?_
  refine hlx_iload_n (by rfl) rfl ?_
  refine hlx_iconst (by rfl) rfl ?_
  refine hly_iadd (by rfl) rfl hk_1 (by omega) (by omega) (fun z1 ez1 => ?_)
  refine hly_sld (by rfl) hL ez1 (by omega) (by omega) (fun x2 ex2 => ?_)
  refine hlx_aload_n (by rfl) rfl ?_
  refine hlx_iload_n (by rfl) rfl ?_
  refine hlx_iconst (by rfl) rfl ?_
  refine hly_iadd (by rfl) rfl hk_2 (by omega) (by omega) (fun z3 ez3 => ?_)
  refine hly_sld (by rfl) hL ez3 (by omega) (by omega) (fun x4 ex4 => ?_)
  refine hlx_call (by rfl) (by rfl) (by rfl) (by rfl) (by rfl) (by rfl) (hpr_sent hA hN hI x2 x4) ?_
  rintro _ A1 ⟨z1, rfl, hC⟩
  refine hlx_popI (by rfl) ?_
  refine hlx_aload_n (by rfl) rfl ?_
  refine hlx_aload_n (by rfl) rfl ?_
  refine hlx_iload_n (by rfl) rfl ?_
  refine hlx_iconst (by rfl) rfl ?_
  refine hly_iadd (by rfl) rfl hk_1 (by omega) (by omega) (fun z5 ez5 => ?_)
  refine hly_sld (by rfl) hL ez5 (by omega) (by omega) (fun x6 ex6 => ?_)
  obtain rfl : x2 = x6 := ex2.trans ex6.symm
  refine hlx_aload_n (by rfl) rfl ?_
  refine hlx_iload_n (by rfl) rfl ?_
  refine hlx_iconst (by rfl) rfl ?_
  refine hly_iadd (by rfl) rfl hk_2 (by omega) (by omega) (fun z7 ez7 => ?_)
  refine hly_sld (by rfl) hL ez7 (by omega) (by omega) (fun x8 ex8 => ?_)
  obtain rfl : x4 = x8 := ex4.trans ex8.symm
  refine hlx_call (by rfl) (by rfl) (by rfl) (by rfl) (by rfl) (by rfl) hC ?_
  rintro _ A2 ⟨z2, rfl, N', hN', hJ', hI'⟩
  refine hlx_popI (by rfl) ?_
  refine hlx_goto (by rfl) ?_
  exact ih A2 N' hJ' hI' hN'
theorem hlc_listen {L : Nat} {xs : Nat → Int32} {N : Int} {i : Int32} {A : hs_A} (hi0 : 0 ≤ i.toInt) (hi1 : i.toInt + 6 ≤ (L : Int)) (hL : L ≤ 3072) (hN0 : N ≤ 24 * i.toInt) (hA : hJ 0 N (N + 72) A A) (hI : hIC A) (ih : ∀ (A' : hs_A) (N' : Int), hJ 0 N' (N' + 72) A' A' → hIC A' → N' ≤ N + 144 → hlx (L, hlS xs) 26 1472 [.ref 0, .ref 1, .ref 368, .int i] [] A') : hlx (L, hlS xs) 26 1380 [.ref 0, .ref 1, .ref 368, .int i] [] A := by
  have hN : N ≤ 800000 := by omega
  refine hlx_aload_n (by rfl) rfl ?_
  refine hlx_aload_n (by rfl) rfl ?_
  refine hlx_iload_n (by rfl) rfl ?_
  refine hlx_iconst (by rfl) rfl ?_
  refine hly_iadd (by rfl) rfl hk_1 (by omega) (by omega) (fun z1 ez1 => ?_)
  refine hly_sld (by rfl) hL ez1 (by omega) (by omega) (fun x2 ex2 => ?_)
  refine hlx_call (by rfl) (by rfl) (by rfl) (by rfl) (by rfl) (by rfl) (hpr_listen hA hN hI x2) ?_
  rintro _ A1 ⟨z1, rfl, hC⟩
  refine hlx_popI (by rfl) ?_
  refine hlx_aload_n (by rfl) rfl ?_
  refine hlx_aload_n (by rfl) rfl ?_
  refine hlx_iload_n (by rfl) rfl ?_
  refine hlx_iconst (by rfl) rfl ?_
  refine hly_iadd (by rfl) rfl hk_1 (by omega) (by omega) (fun z3 ez3 => ?_)
  refine hly_sld (by rfl) hL ez3 (by omega) (by omega) (fun x4 ex4 => ?_)
  obtain rfl : x2 = x4 := ex2.trans ex4.symm
  refine hlx_call (by rfl) (by rfl) (by rfl) (by rfl) (by rfl) (by rfl) hC ?_
  rintro _ A2 ⟨z2, rfl, N', hN', hJ', hI'⟩
  refine hlx_popI (by rfl) ?_
  refine hlx_goto (by rfl) ?_
  exact ih A2 N' hJ' hI' hN'
theorem hlc_hold {L : Nat} {xs : Nat → Int32} {N : Int} {i : Int32} {A : hs_A} (hi0 : 0 ≤ i.toInt) (hi1 : i.toInt + 6 ≤ (L : Int)) (hL : L ≤ 3072) (hN0 : N ≤ 24 * i.toInt) (hA : hJ 0 N (N + 72) A A) (hI : hIC A) (ih : ∀ (A' : hs_A) (N' : Int), hJ 0 N' (N' + 72) A' A' → hIC A' → N' ≤ N + 144 → hlx (L, hlS xs) 26 1472 [.ref 0, .ref 1, .ref 368, .int i] [] A') : hlx (L, hlS xs) 26 1403 [.ref 0, .ref 1, .ref 368, .int i] [] A := by
  have hN : N ≤ 800000 := by omega
  refine hlx_aload_n (by rfl) rfl ?_
  refine hlx_aload_n (by rfl) rfl ?_
  refine hlx_iload_n (by rfl) rfl ?_
  refine hlx_iconst (by rfl) rfl ?_
  refine hly_iadd (by rfl) rfl hk_1 (by omega) (by omega) (fun z1 ez1 => ?_)
  refine hly_sld (by rfl) hL ez1 (by omega) (by omega) (fun x2 ex2 => ?_)
  refine hlx_call (by rfl) (by rfl) (by rfl) (by rfl) (by rfl) (by rfl) (hpr_hold hA hN hI x2) ?_
  rintro _ A1 ⟨z1, rfl, hC⟩
  refine hlx_popI (by rfl) ?_
  refine hlx_aload_n (by rfl) rfl ?_
  refine hlx_aload_n (by rfl) rfl ?_
  refine hlx_iload_n (by rfl) rfl ?_
  refine hlx_iconst (by rfl) rfl ?_
  refine hly_iadd (by rfl) rfl hk_1 (by omega) (by omega) (fun z3 ez3 => ?_)
  refine hly_sld (by rfl) hL ez3 (by omega) (by omega) (fun x4 ex4 => ?_)
  obtain rfl : x2 = x4 := ex2.trans ex4.symm
  refine hlx_call (by rfl) (by rfl) (by rfl) (by rfl) (by rfl) (by rfl) hC ?_
  rintro _ A2 ⟨z2, rfl, ez, N', hN', hJ', hI'⟩
  refine hlx_popI (by rfl) ?_
  refine hlx_goto (by rfl) ?_
  exact ih A2 N' hJ' hI' hN'
theorem hlc_restore {L : Nat} {xs : Nat → Int32} {N : Int} {i : Int32} {A : hs_A} (hi0 : 0 ≤ i.toInt) (hi1 : i.toInt + 6 ≤ (L : Int)) (hL : L ≤ 3072) (hN0 : N ≤ 24 * i.toInt) (hA : hJ 0 N (N + 72) A A) (hI : hIC A) (ih : ∀ (A' : hs_A) (N' : Int), hJ 0 N' (N' + 72) A' A' → hIC A' → N' ≤ N + 144 → hlx (L, hlS xs) 26 1472 [.ref 0, .ref 1, .ref 368, .int i] [] A') : hlx (L, hlS xs) 26 1426 [.ref 0, .ref 1, .ref 368, .int i] [] A := by
  have hN : N ≤ 800000 := by omega
  refine hlx_aload_n (by rfl) rfl ?_
  refine hlx_aload_n (by rfl) rfl ?_
  refine hlx_iload_n (by rfl) rfl ?_
  refine hlx_iconst (by rfl) rfl ?_
  refine hly_iadd (by rfl) rfl hk_1 (by omega) (by omega) (fun z1 ez1 => ?_)
  refine hly_sld (by rfl) hL ez1 (by omega) (by omega) (fun x2 ex2 => ?_)
  refine hlx_call (by rfl) (by rfl) (by rfl) (by rfl) (by rfl) (by rfl) (hpr_restore hA hN hI x2) ?_
  rintro _ A1 ⟨z1, rfl, hC⟩
  refine hlx_popI (by rfl) ?_
  refine hlx_aload_n (by rfl) rfl ?_
  refine hlx_aload_n (by rfl) rfl ?_
  refine hlx_iload_n (by rfl) rfl ?_
  refine hlx_iconst (by rfl) rfl ?_
  refine hly_iadd (by rfl) rfl hk_1 (by omega) (by omega) (fun z3 ez3 => ?_)
  refine hly_sld (by rfl) hL ez3 (by omega) (by omega) (fun x4 ex4 => ?_)
  obtain rfl : x2 = x4 := ex2.trans ex4.symm
  refine hlx_call (by rfl) (by rfl) (by rfl) (by rfl) (by rfl) (by rfl) hC ?_
  rintro _ A2 ⟨z2, rfl, ez, N', hN', hJ', hI'⟩
  refine hlx_popI (by rfl) ?_
  refine hlx_goto (by rfl) ?_
  exact ih A2 N' hJ' hI' hN'
theorem hlc_count {L : Nat} {xs : Nat → Int32} {N : Int} {i : Int32} {A : hs_A} (hi0 : 0 ≤ i.toInt) (hi1 : i.toInt + 6 ≤ (L : Int)) (hL : L ≤ 3072) (hN0 : N ≤ 24 * i.toInt) (hA : hJ 0 N (N + 72) A A) (hI : hIC A) (ih : ∀ (A' : hs_A) (N' : Int), hJ 0 N' (N' + 72) A' A' → hIC A' → N' ≤ N + 144 → hlx (L, hlS xs) 26 1472 [.ref 0, .ref 1, .ref 368, .int i] [] A') : hlx (L, hlS xs) 26 1449 [.ref 0, .ref 1, .ref 368, .int i] [] A := by
  have hN : N ≤ 800000 := by omega
  refine hlx_aload_n (by rfl) rfl ?_
  refine hlx_aload_n (by rfl) rfl ?_
  refine hlx_iload_n (by rfl) rfl ?_
  refine hlx_iconst (by rfl) rfl ?_
  refine hly_iadd (by rfl) rfl hk_1 (by omega) (by omega) (fun z1 ez1 => ?_)
  refine hly_sld (by rfl) hL ez1 (by omega) (by omega) (fun x2 ex2 => ?_)
  refine hlx_call (by rfl) (by rfl) (by rfl) (by rfl) (by rfl) (by rfl) (hpr_count hA hN hI x2) ?_
  rintro _ A1 ⟨z1, rfl, hC⟩
  refine hlx_popI (by rfl) ?_
  refine hlx_aload_n (by rfl) rfl ?_
  refine hlx_aload_n (by rfl) rfl ?_
  refine hlx_iload_n (by rfl) rfl ?_
  refine hlx_iconst (by rfl) rfl ?_
  refine hly_iadd (by rfl) rfl hk_1 (by omega) (by omega) (fun z3 ez3 => ?_)
  refine hly_sld (by rfl) hL ez3 (by omega) (by omega) (fun x4 ex4 => ?_)
  obtain rfl : x2 = x4 := ex2.trans ex4.symm
  refine hlx_call (by rfl) (by rfl) (by rfl) (by rfl) (by rfl) (by rfl) hC ?_
  rintro _ A2 ⟨z2, rfl, N', hN', hJ', hI'⟩
  refine hlx_popI (by rfl) ?_
  refine hlx_goto (by rfl) ?_
  exact ih A2 N' hJ' hI' hN'
theorem hlaw_loop {L : Nat} {xs : Nat → Int32} (hL0 : ¬ L = 0) (hL : L ≤ 3072) : ∀ (m : Nat) (N : Int) (i : Int32) (A : hs_A), 0 ≤ i.toInt → i.toInt ≤ L + 6 → N ≤ 24 * i.toInt → hJ 0 N (N + 72) A A → hIC A → (L : Int) + 6 - i.toInt < m → hlx (L, hlS xs) 26 18 [.ref 0, .ref 1, .ref 368, .int i] [] A := by
  intro m
  induction m with
  | zero => intro N i A h0 h1 hN hA ht hm; exact False.elim (by omega)
  | succ m ihm =>
    intro N i A h0 h1 hN hA ht hm
    have k0 := hk_0
    refine hlx_iload_n (by rfl) rfl ?_
    refine hlx_aload_n (by rfl) rfl ?_
    refine hlx_slen (by rfl) hL0 ?_
    refine hlx_bipush (by rfl) rfl ?_
    have eL : (Int32.ofNat L).toInt = L := hn_c rfl (by omega)
    have hsub : (Int32.ofNat L - Int32.ofNat 6).toInt = (L : Int) - 6 := by
      have := hn_sub (x := Int32.ofNat L) (y := Int32.ofNat 6) (z := Int32.ofNat L - Int32.ofNat 6) rfl (by rw [eL, hk_6]; omega) (by rw [eL, hk_6]; omega)
      rw [eL, hk_6] at this
      exact this
    refine hlx_isub (by rfl) ?_
    refine hlx_icmp (by rfl) (fun q => ?_) (fun q => ?_)
    · refine hlx_iconst (by rfl) rfl ?_
      exact hlx_end
    · have q' := hn_f hn_gt q
      rw [hsub] at q'
      have ih : ∀ (A' : hs_A) (N' : Int), hJ 0 N' (N' + 72) A' A' → hIC A' → N' ≤ N + 144 → hlx (L, hlS xs) 26 1472 [.ref 0, .ref 1, .ref 368, .int i] [] A' := by
        intro A' N' hA' ht' hN'
        have e6 : (i + Int32.ofNat 6).toInt = i.toInt + 6 := by
          have := hn_add (x := i) (y := Int32.ofNat 6) (z := i + Int32.ofNat 6) rfl (by rw [hk_6]; omega) (by rw [hk_6]; omega)
          rw [hk_6] at this
          exact this
        refine hlx_iinc (by rfl) rfl rfl ?_
        refine hlx_goto (by rfl) ?_
        exact ihm N' (i + Int32.ofNat 6) A' (by omega) (by omega) (by omega) hA' ht' (by omega)
      refine hlx_aload_n (by rfl) rfl ?_
      refine hlx_iload_n (by rfl) rfl ?_
      refine hly_sld (by rfl) hL rfl (by omega) (by omega) (fun x ex => ?_)
      refine hlx_bipush (by rfl) rfl ?_
      refine hlx_iand (by rfl) ?_
      have hb := hn_and (x := x) (y := Int32.ofNat 63) (by rw [hk_63]; decide)
      rw [hk_63] at hb
      generalize hc : x &&& Int32.ofNat 63 = c at hb
      by_cases q0 : c.toInt = 0
      · refine hlx_tabIn (by rfl) (by omega) (by omega) (by rw [q0]; rfl) (tgt := 224) (by rfl) ?_
        exact hlc_feed h0 (by omega) hL hN hA ht ih
      by_cases q1 : c.toInt = 1
      · refine hlx_tabIn (by rfl) (by omega) (by omega) (by rw [q1]; rfl) (tgt := 287) (by rfl) ?_
        exact hlc_back h0 (by omega) hL hN hA ht ih
      by_cases q2 : c.toInt = 2
      · refine hlx_tabIn (by rfl) (by omega) (by omega) (by rw [q2]; rfl) (tgt := 310) (by rfl) ?_
        exact hlc_read h0 (by omega) hL hN hA ht ih
      by_cases q3 : c.toInt = 3
      · refine hlx_tabIn (by rfl) (by omega) (by omega) (by rw [q3]; rfl) (tgt := 323) (by rfl) ?_
        exact hlc_place h0 (by omega) hL hN hA ht ih
      by_cases q4 : c.toInt = 4
      · refine hlx_tabIn (by rfl) (by omega) (by omega) (by rw [q4]; rfl) (tgt := 336) (by rfl) ?_
        exact hlc_house h0 (by omega) hL hN hA ht ih
      by_cases q5 : c.toInt = 5
      · refine hlx_tabIn (by rfl) (by omega) (by omega) (by rw [q5]; rfl) (tgt := 369) (by rfl) ?_
        exact hlc_passed h0 (by omega) hL hN hA ht ih
      by_cases q6 : c.toInt = 6
      · refine hlx_tabIn (by rfl) (by omega) (by omega) (by rw [q6]; rfl) (tgt := 402) (by rfl) ?_
        exact hlc_turn h0 (by omega) hL hN hA ht ih
      by_cases q7 : c.toInt = 7
      · refine hlx_tabIn (by rfl) (by omega) (by omega) (by rw [q7]; rfl) (tgt := 451) (by rfl) ?_
        exact hlc_send h0 (by omega) hL hN hA ht ih
      by_cases q8 : c.toInt = 8
      · refine hlx_tabIn (by rfl) (by omega) (by omega) (by rw [q8]; rfl) (tgt := 474) (by rfl) ?_
        exact hlc_carry h0 (by omega) hL hN hA ht ih
      by_cases q9 : c.toInt = 9
      · refine hlx_tabIn (by rfl) (by omega) (by omega) (by rw [q9]; rfl) (tgt := 507) (by rfl) ?_
        exact hlc_change h0 (by omega) hL hN hA ht ih
      by_cases q10 : c.toInt = 10
      · refine hlx_tabIn (by rfl) (by omega) (by omega) (by rw [q10]; rfl) (tgt := 540) (by rfl) ?_
        exact hlc_hours h0 (by omega) hL hN hA ht ih
      by_cases q11 : c.toInt = 11
      · refine hlx_tabIn (by rfl) (by omega) (by omega) (by rw [q11]; rfl) (tgt := 563) (by rfl) ?_
        exact hlc_undo h0 (by omega) hL hN hA ht ih
      by_cases q12 : c.toInt = 12
      · refine hlx_tabIn (by rfl) (by omega) (by omega) (by rw [q12]; rfl) (tgt := 576) (by rfl) ?_
        exact hlc_comes h0 (by omega) hL hN hA ht ih
      by_cases q13 : c.toInt = 13
      · refine hlx_tabIn (by rfl) (by omega) (by omega) (by rw [q13]; rfl) (tgt := 609) (by rfl) ?_
        exact hlc_last h0 (by omega) hL hN hA ht ih
      by_cases q14 : c.toInt = 14
      · refine hlx_tabIn (by rfl) (by omega) (by omega) (by rw [q14]; rfl) (tgt := 632) (by rfl) ?_
        exact hlc_sendFor h0 (by omega) hL hN hA ht ih
      by_cases q15 : c.toInt = 15
      · refine hlx_tabIn (by rfl) (by omega) (by omega) (by rw [q15]; rfl) (tgt := 655) (by rfl) ?_
        exact hlc_apart h0 (by omega) hL hN hA ht ih
      by_cases q16 : c.toInt = 16
      · refine hlx_tabIn (by rfl) (by omega) (by omega) (by rw [q16]; rfl) (tgt := 678) (by rfl) ?_
        exact hlc_code h0 (by omega) hL hN hA ht ih
      by_cases q17 : c.toInt = 17
      · refine hlx_tabIn (by rfl) (by omega) (by omega) (by rw [q17]; rfl) (tgt := 721) (by rfl) ?_
        exact hlc_lost h0 (by omega) hL hN hA ht ih
      by_cases q18 : c.toInt = 18
      · refine hlx_tabIn (by rfl) (by omega) (by omega) (by rw [q18]; rfl) (tgt := 744) (by rfl) ?_
        exact hlc_between h0 (by omega) hL hN hA ht ih
      by_cases q19 : c.toInt = 19
      · refine hlx_tabIn (by rfl) (by omega) (by omega) (by rw [q19]; rfl) (tgt := 787) (by rfl) ?_
        exact hlc_widest h0 (by omega) hL hN hA ht ih
      by_cases q20 : c.toInt = 20
      · refine hlx_tabIn (by rfl) (by omega) (by omega) (by rw [q20]; rfl) (tgt := 820) (by rfl) ?_
        exact hlc_same h0 (by omega) hL hN hA ht ih
      by_cases q21 : c.toInt = 21
      · refine hlx_tabIn (by rfl) (by omega) (by omega) (by rw [q21]; rfl) (tgt := 853) (by rfl) ?_
        exact hlc_itself h0 (by omega) hL hN hA ht ih
      by_cases q22 : c.toInt = 22
      · refine hlx_tabIn (by rfl) (by omega) (by omega) (by rw [q22]; rfl) (tgt := 876) (by rfl) ?_
        exact hlc_times h0 (by omega) hL hN hA ht ih
      by_cases q23 : c.toInt = 23
      · refine hlx_tabIn (by rfl) (by omega) (by omega) (by rw [q23]; rfl) (tgt := 909) (by rfl) ?_
        exact hlc_bestHour h0 (by omega) hL hN hA ht ih
      by_cases q24 : c.toInt = 24
      · refine hlx_tabIn (by rfl) (by omega) (by omega) (by rw [q24]; rfl) (tgt := 942) (by rfl) ?_
        exact hlc_breakAt h0 (by omega) hL hN hA ht ih
      by_cases q25 : c.toInt = 25
      · refine hlx_tabIn (by rfl) (by omega) (by omega) (by rw [q25]; rfl) (tgt := 965) (by rfl) ?_
        exact hlc_loudest h0 (by omega) hL hN hA ht ih
      by_cases q26 : c.toInt = 26
      · refine hlx_tabIn (by rfl) (by omega) (by omega) (by rw [q26]; rfl) (tgt := 998) (by rfl) ?_
        exact hlc_warm h0 (by omega) hL hN hA ht ih
      by_cases q27 : c.toInt = 27
      · refine hlx_tabIn (by rfl) (by omega) (by omega) (by rw [q27]; rfl) (tgt := 1021) (by rfl) ?_
        exact hlc_lives h0 (by omega) hL hN hA ht ih
      by_cases q28 : c.toInt = 28
      · refine hlx_tabIn (by rfl) (by omega) (by omega) (by rw [q28]; rfl) (tgt := 1044) (by rfl) ?_
        exact hlc_warmth h0 (by omega) hL hN hA ht ih
      by_cases q29 : c.toInt = 29
      · refine hlx_tabIn (by rfl) (by omega) (by omega) (by rw [q29]; rfl) (tgt := 1067) (by rfl) ?_
        exact hlc_then h0 (by omega) hL hN hA ht ih
      by_cases q30 : c.toInt = 30
      · refine hlx_tabIn (by rfl) (by omega) (by omega) (by rw [q30]; rfl) (tgt := 1110) (by rfl) ?_
        exact hlc_quiet h0 (by omega) hL hN hA ht ih
      by_cases q31 : c.toInt = 31
      · refine hlx_tabIn (by rfl) (by omega) (by omega) (by rw [q31]; rfl) (tgt := 1143) (by rfl) ?_
        exact hlc_mourn h0 (by omega) hL hN hA ht ih
      by_cases q32 : c.toInt = 32
      · refine hlx_tabIn (by rfl) (by omega) (by omega) (by rw [q32]; rfl) (tgt := 1166) (by rfl) ?_
        exact hlc_carryBest h0 (by omega) hL hN hA ht ih
      by_cases q33 : c.toInt = 33
      · refine hlx_tabIn (by rfl) (by omega) (by omega) (by rw [q33]; rfl) (tgt := 1189) (by rfl) ?_
        exact hlc_needs h0 (by omega) hL hN hA ht ih
      by_cases q34 : c.toInt = 34
      · refine hlx_tabIn (by rfl) (by omega) (by omega) (by rw [q34]; rfl) (tgt := 1212) (by rfl) ?_
        exact hlc_changeBest h0 (by omega) hL hN hA ht ih
      by_cases q35 : c.toInt = 35
      · refine hlx_tabIn (by rfl) (by omega) (by omega) (by rw [q35]; rfl) (tgt := 1235) (by rfl) ?_
        exact hlc_off h0 (by omega) hL hN hA ht ih
      by_cases q36 : c.toInt = 36
      · refine hlx_tabIn (by rfl) (by omega) (by omega) (by rw [q36]; rfl) (tgt := 1258) (by rfl) ?_
        exact hlc_year h0 (by omega) hL hN hA ht ih
      by_cases q37 : c.toInt = 37
      · refine hlx_tabIn (by rfl) (by omega) (by omega) (by rw [q37]; rfl) (tgt := 1301) (by rfl) ?_
        exact hlc_tell h0 (by omega) hL hN hA ht ih
      by_cases q38 : c.toInt = 38
      · refine hlx_tabIn (by rfl) (by omega) (by omega) (by rw [q38]; rfl) (tgt := 1334) (by rfl) ?_
        exact hlc_forget h0 (by omega) hL hN hA ht ih
      by_cases q39 : c.toInt = 39
      · refine hlx_tabIn (by rfl) (by omega) (by omega) (by rw [q39]; rfl) (tgt := 1347) (by rfl) ?_
        exact hlc_sent h0 (by omega) hL hN hA ht ih
      by_cases q40 : c.toInt = 40
      · refine hlx_tabIn (by rfl) (by omega) (by omega) (by rw [q40]; rfl) (tgt := 1380) (by rfl) ?_
        exact hlc_listen h0 (by omega) hL hN hA ht ih
      by_cases q41 : c.toInt = 41
      · refine hlx_tabIn (by rfl) (by omega) (by omega) (by rw [q41]; rfl) (tgt := 1403) (by rfl) ?_
        exact hlc_hold h0 (by omega) hL hN hA ht ih
      by_cases q42 : c.toInt = 42
      · refine hlx_tabIn (by rfl) (by omega) (by omega) (by rw [q42]; rfl) (tgt := 1426) (by rfl) ?_
        exact hlc_restore h0 (by omega) hL hN hA ht ih
      by_cases q43 : c.toInt = 43
      · refine hlx_tabIn (by rfl) (by omega) (by omega) (by rw [q43]; rfl) (tgt := 1449) (by rfl) ?_
        exact hlc_count h0 (by omega) hL hN hA ht ih
      refine hlx_tabOut (by rfl) (by omega) (tgt := 1472) (by rfl) ?_
      exact ih A N hA ht (by omega)
theorem hlaw_all {L : Nat} {xs : Nat → Int32} (hL0 : ¬ L = 0) (hL : L ≤ 3072) : hlx (L, hlS xs) 26 18 [.ref 0, .ref 1, .ref 368, .int (Int32.ofNat 0)] [] hy_A := by
  have k0 := hk_0
  exact hlaw_loop hL0 hL (L + 7) 0 (Int32.ofNat 0) hy_A (by omega) (by omega) (by omega) hy_J hy_IC (by omega)
