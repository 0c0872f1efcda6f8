theorem hY151 {d : Nat} {Bn Br : Int} {A0 A : hs_A} (hA : hJ 0 Bn Br A0 A)   {P : Option Value → hs_A → Prop} (hP : ∀ (r : Option Value) (A' : hs_A), (A = A' ∧ ∃ z : Int32, r = some (.int z)) → P r A') : hxa (d + 0) (some (.int)) hm_t151 0 [.ref 368] [] A P := by
  refine hxa_aload_n (by rfl) rfl ?_
  refine hxj_getI (by rfl) (by rfl) (by rfl) (fun z1 ez1 => ?_)
  exact hxa_ireturn (by rfl) rfl (hP _ _ ⟨rfl, _, rfl⟩)
theorem hX151 {d : Nat} {Bn Br : Int} {A0 A : hs_A} (hA : hJ 0 Bn Br A0 A)   : hxC (d + 1) 151 hm_m151 [.ref 368] A (fun r A' => A = A' ∧ ∃ z : Int32, r = some (.int z)) := hxC.of (by rfl) (hY151 hA  (fun r A' h => h))
def hlS (xs : Nat → Int32) (j : Nat) : Option Int32 := if j < 10000 then some (xs j) else none
theorem hly_sld {L : Nat} {xs : Nat → Int32} {d pc len r1 r2 : Nat} {l st : List Value} {A : hs_A} {j : Int32} {ej : Int} (hI : hc_get hm_law pc = some (.iaload, len, r1, r2)) (hL : L ≤ 3072) (hj : j.toInt = ej) (h0 : 0 ≤ ej) (h1 : ej < (L : Int)) (k : ∀ x : Int32, x = xs ej.toNat → hlx (L, hlS xs) d (pc + 1) l (.int x :: st) A) : hlx (L, hlS xs) d pc l (.int j :: .ref 0 :: st) A := by
  subst hj
  have c := hn_cn h0
  have hlt : j.toNatClampNeg < 10000 := by omega
  exact hlx_sld (LS := (L, hlS xs)) hI h0 h1 (if_pos hlt) (k _ rfl)
theorem hly_iadd {LS : Nat × (Nat → Option Int32)} {d pc len r1 r2 : Nat} {l st : List Value} {A : hs_A} {x y : Int32} {ex ey : Int} (hI : hc_get hm_law pc = some (.iadd, len, r1, r2)) (hx : x.toInt = ex) (hy : y.toInt = ey) (h1 : -2147483648 ≤ ex + ey) (h2 : ex + ey ≤ 2147483647) (k : ∀ z : Int32, z.toInt = ex + ey → hlx LS d (pc + 1) l (.int z :: st) A) : hlx LS d pc l (.int y :: .int x :: st) A := by
  subst hx
  subst hy
  exact hlx_iadd hI (k _ (hn_add rfl h1 h2))
theorem hlc_feed {L : Nat} {xs : Nat → Int32} {N : Int} {i : Int32} {A : hs_A} (hi0 : 0 ≤ i.toInt) (hi1 : i.toInt + 6 ≤ (L : Int)) (hL : L ≤ 3072) (hN0 : N ≤ 24 * i.toInt) (hA : hJ 0 N (N + 72) A A) (ht : (A.1 0 1).toInt = (A.1 367 2).toInt) (ih : ∀ (A' : hs_A) (N' : Int), hJ 0 N' (N' + 72) A' A' → (A'.1 0 1).toInt = (A'.1 367 2).toInt → N' ≤ N + 144 → hlx (L, hlS xs) 26 1472 [.ref 0, .ref 1, .ref 368, .int i] [] A') : hlx (L, hlS xs) 26 224 [.ref 0, .ref 1, .ref 368, .int i] [] A := by
  have hN : N ≤ 900000 := by omega
  refine hlx_aload_n (by rfl) rfl ?_
  refine hlx_aload_n (by rfl) rfl ?_
  refine hlx_iload_n (by rfl) rfl ?_
  refine hlx_iconst (by rfl) rfl ?_
  refine hly_iadd (by rfl) rfl hk_1 (by omega) (by omega) (fun z1 ez1 => ?_)
  refine hly_sld (by rfl) hL ez1 (by omega) (by omega) (fun x2 ex2 => ?_)
  refine hlx_aload_n (by rfl) rfl ?_
  refine hlx_iload_n (by rfl) rfl ?_
  refine hlx_iconst (by rfl) rfl ?_
  refine hly_iadd (by rfl) rfl hk_2 (by omega) (by omega) (fun z3 ez3 => ?_)
  refine hly_sld (by rfl) hL ez3 (by omega) (by omega) (fun x4 ex4 => ?_)
  refine hlx_aload_n (by rfl) rfl ?_
  refine hlx_iload_n (by rfl) rfl ?_
  refine hlx_iconst (by rfl) rfl ?_
  refine hly_iadd (by rfl) rfl hk_3 (by omega) (by omega) (fun z5 ez5 => ?_)
  refine hly_sld (by rfl) hL ez5 (by omega) (by omega) (fun x6 ex6 => ?_)
  refine hlx_aload_n (by rfl) rfl ?_
  refine hlx_iload_n (by rfl) rfl ?_
  refine hlx_iconst (by rfl) rfl ?_
  refine hly_iadd (by rfl) rfl hk_4 (by omega) (by omega) (fun z7 ez7 => ?_)
  refine hly_sld (by rfl) hL ez7 (by omega) (by omega) (fun x8 ex8 => ?_)
  refine hlx_aload_n (by rfl) rfl ?_
  refine hlx_iload_n (by rfl) rfl ?_
  refine hlx_iconst (by rfl) rfl ?_
  refine hly_iadd (by rfl) rfl hk_5 (by omega) (by omega) (fun z9 ez9 => ?_)
  refine hly_sld (by rfl) hL ez9 (by omega) (by omega) (fun x10 ex10 => ?_)
  have h10 := hJ.to10 hA
  refine hlx_call (by rfl) (by rfl) (by rfl) (by rfl) (by rfl) (by rfl) (hX70q10 (d := 24) h10 x2 x4 x6 x8 x10) ?_
  rintro _ A11 ⟨hA11, rA11, y12, rfl, fy12⟩
  refine hlx_popI (by rfl) ?_
  refine hlx_aload_n (by rfl) rfl ?_
  refine hlx_aload_n (by rfl) rfl ?_
  refine hlx_iload_n (by rfl) rfl ?_
  refine hlx_iconst (by rfl) rfl ?_
  refine hly_iadd (by rfl) rfl hk_1 (by omega) (by omega) (fun z13 ez13 => ?_)
  refine hly_sld (by rfl) hL ez13 (by omega) (by omega) (fun x14 ex14 => ?_)
  refine hlx_aload_n (by rfl) rfl ?_
  refine hlx_iload_n (by rfl) rfl ?_
  refine hlx_iconst (by rfl) rfl ?_
  refine hly_iadd (by rfl) rfl hk_2 (by omega) (by omega) (fun z15 ez15 => ?_)
  refine hly_sld (by rfl) hL ez15 (by omega) (by omega) (fun x16 ex16 => ?_)
  refine hlx_aload_n (by rfl) rfl ?_
  refine hlx_iload_n (by rfl) rfl ?_
  refine hlx_iconst (by rfl) rfl ?_
  refine hly_iadd (by rfl) rfl hk_3 (by omega) (by omega) (fun z17 ez17 => ?_)
  refine hly_sld (by rfl) hL ez17 (by omega) (by omega) (fun x18 ex18 => ?_)
  refine hlx_aload_n (by rfl) rfl ?_
  refine hlx_iload_n (by rfl) rfl ?_
  refine hlx_iconst (by rfl) rfl ?_
  refine hly_iadd (by rfl) rfl hk_4 (by omega) (by omega) (fun z19 ez19 => ?_)
  refine hly_sld (by rfl) hL ez19 (by omega) (by omega) (fun x20 ex20 => ?_)
  refine hlx_aload_n (by rfl) rfl ?_
  refine hlx_iload_n (by rfl) rfl ?_
  refine hlx_iconst (by rfl) rfl ?_
  refine hly_iadd (by rfl) rfl hk_5 (by omega) (by omega) (fun z21 ez21 => ?_)
  refine hly_sld (by rfl) hL ez21 (by omega) (by omega) (fun x22 ex22 => ?_)
  refine hlx_call (by rfl) (by rfl) (by rfl) (by rfl) (by rfl) (by rfl) (hX133q10 (d := 24) hA11 x14 x16 x18 x20 x22) ?_
  rintro _ A23 ⟨hA23, rA23, y24, rfl, fy24⟩
  refine hlx_popI (by rfl) ?_
  refine hlx_goto (by rfl) ?_
  have t1 := congrArg Int32.toInt rA11
  have t2 := congrArg Int32.toInt rA23
  exact ih A23 N (hJ.end10 hA23).1 (by omega) (by omega)
theorem hlc_place {L : Nat} {xs : Nat → Int32} {N : Int} {i : Int32} {A : hs_A} (hi0 : 0 ≤ i.toInt) (hi1 : i.toInt + 6 ≤ (L : Int)) (hL : L ≤ 3072) (hN0 : N ≤ 24 * i.toInt) (hA : hJ 0 N (N + 72) A A) (ht : (A.1 0 1).toInt = (A.1 367 2).toInt) (ih : ∀ (A' : hs_A) (N' : Int), hJ 0 N' (N' + 72) A' A' → (A'.1 0 1).toInt = (A'.1 367 2).toInt → N' ≤ N + 144 → hlx (L, hlS xs) 26 1472 [.ref 0, .ref 1, .ref 368, .int i] [] A') : hlx (L, hlS xs) 26 323 [.ref 0, .ref 1, .ref 368, .int i] [] A := by
  have hN : N ≤ 900000 := by omega
  refine hlx_aload_n (by rfl) rfl ?_
  refine hlx_call (by rfl) (by rfl) (by rfl) (by rfl) (by rfl) (by rfl) (hX75 (d := 25) hA ) ?_
  rintro _ _ ⟨rfl, y2, rfl⟩
  refine hlx_popI (by rfl) ?_
  refine hlx_aload_n (by rfl) rfl ?_
  refine hlx_call (by rfl) (by rfl) (by rfl) (by rfl) (by rfl) (by rfl) (hX151 (d := 25) hA ) ?_
  rintro _ _ ⟨rfl, y4, rfl⟩
  refine hlx_popI (by rfl) ?_
  refine hlx_goto (by rfl) ?_
  exact ih A (N + 72) (hJ.mono (hJ.self hA) (by omega) (by omega)) (by rw [hA.2.2.1.1 0 1 (by rfl), hA.2.2.1.1 367 2 (by rfl)]; exact ht) (by omega)
theorem hlc_house {L : Nat} {xs : Nat → Int32} {N : Int} {i : Int32} {A : hs_A} (hi0 : 0 ≤ i.toInt) (hi1 : i.toInt + 6 ≤ (L : Int)) (hL : L ≤ 3072) (hN0 : N ≤ 24 * i.toInt) (hA : hJ 0 N (N + 72) A A) (ht : (A.1 0 1).toInt = (A.1 367 2).toInt) (ih : ∀ (A' : hs_A) (N' : Int), hJ 0 N' (N' + 72) A' A' → (A'.1 0 1).toInt = (A'.1 367 2).toInt → N' ≤ N + 144 → hlx (L, hlS xs) 26 1472 [.ref 0, .ref 1, .ref 368, .int i] [] A') : hlx (L, hlS xs) 26 336 [.ref 0, .ref 1, .ref 368, .int i] [] A := by
  have hN : N ≤ 900000 := by omega
  refine hlx_aload_n (by rfl) rfl ?_
  refine hlx_aload_n (by rfl) rfl ?_
  refine hlx_iload_n (by rfl) rfl ?_
  refine hlx_iconst (by rfl) rfl ?_
  refine hly_iadd (by rfl) rfl hk_1 (by omega) (by omega) (fun z1 ez1 => ?_)
  refine hly_sld (by rfl) hL ez1 (by omega) (by omega) (fun x2 ex2 => ?_)
  refine hlx_aload_n (by rfl) rfl ?_
  refine hlx_iload_n (by rfl) rfl ?_
  refine hlx_iconst (by rfl) rfl ?_
  refine hly_iadd (by rfl) rfl hk_2 (by omega) (by omega) (fun z3 ez3 => ?_)
  refine hly_sld (by rfl) hL ez3 (by omega) (by omega) (fun x4 ex4 => ?_)
  refine hlx_call (by rfl) (by rfl) (by rfl) (by rfl) (by rfl) (by rfl) (hX79 (d := 22) hA x2 x4) ?_
  rintro _ A5 ⟨hA5, y6, rfl⟩
  refine hlx_popI (by rfl) ?_
  refine hlx_aload_n (by rfl) rfl ?_
  refine hlx_aload_n (by rfl) rfl ?_
  refine hlx_iload_n (by rfl) rfl ?_
  refine hlx_iconst (by rfl) rfl ?_
  refine hly_iadd (by rfl) rfl hk_1 (by omega) (by omega) (fun z7 ez7 => ?_)
  refine hly_sld (by rfl) hL ez7 (by omega) (by omega) (fun x8 ex8 => ?_)
  refine hlx_aload_n (by rfl) rfl ?_
  refine hlx_iload_n (by rfl) rfl ?_
  refine hlx_iconst (by rfl) rfl ?_
  refine hly_iadd (by rfl) rfl hk_2 (by omega) (by omega) (fun z9 ez9 => ?_)
  refine hly_sld (by rfl) hL ez9 (by omega) (by omega) (fun x10 ex10 => ?_)
  refine hlx_call (by rfl) (by rfl) (by rfl) (by rfl) (by rfl) (by rfl) (hX188 (d := 22) hA5 hN x8 x10) ?_
  rintro _ A11 ⟨hA11, y12, rfl⟩
  refine hlx_popI (by rfl) ?_
  refine hlx_goto (by rfl) ?_
  exact ih A11 (N + 72) (hJ.mono (hJ.self hA11) (by omega) (by omega)) (by rw [hA11.2.2.1.1 0 1 (by rfl), hA11.2.2.1.1 367 2 (by rfl)]; exact ht) (by omega)
theorem hlc_passed {L : Nat} {xs : Nat → Int32} {N : Int} {i : Int32} {A : hs_A} (hi0 : 0 ≤ i.toInt) (hi1 : i.toInt + 6 ≤ (L : Int)) (hL : L ≤ 3072) (hN0 : N ≤ 24 * i.toInt) (hA : hJ 0 N (N + 72) A A) (ht : (A.1 0 1).toInt = (A.1 367 2).toInt) (ih : ∀ (A' : hs_A) (N' : Int), hJ 0 N' (N' + 72) A' A' → (A'.1 0 1).toInt = (A'.1 367 2).toInt → N' ≤ N + 144 → hlx (L, hlS xs) 26 1472 [.ref 0, .ref 1, .ref 368, .int i] [] A') : hlx (L, hlS xs) 26 369 [.ref 0, .ref 1, .ref 368, .int i] [] A := by
  have hN : N ≤ 900000 := by omega
  refine hlx_aload_n (by rfl) rfl ?_
  refine hlx_aload_n (by rfl) rfl ?_
  refine hlx_iload_n (by rfl) rfl ?_
  refine hlx_iconst (by rfl) rfl ?_
  refine hly_iadd (by rfl) rfl hk_1 (by omega) (by omega) (fun z1 ez1 => ?_)
  refine hly_sld (by rfl) hL ez1 (by omega) (by omega) (fun x2 ex2 => ?_)
  refine hlx_aload_n (by rfl) rfl ?_
  refine hlx_iload_n (by rfl) rfl ?_
  refine hlx_iconst (by rfl) rfl ?_
  refine hly_iadd (by rfl) rfl hk_2 (by omega) (by omega) (fun z3 ez3 => ?_)
  refine hly_sld (by rfl) hL ez3 (by omega) (by omega) (fun x4 ex4 => ?_)
  refine hlx_call (by rfl) (by rfl) (by rfl) (by rfl) (by rfl) (by rfl) (hX81 (d := 22) hA x2 x4) ?_
  rintro _ A5 ⟨hA5, y6, rfl⟩
  refine hlx_popI (by rfl) ?_
  refine hlx_aload_n (by rfl) rfl ?_
  refine hlx_aload_n (by rfl) rfl ?_
  refine hlx_iload_n (by rfl) rfl ?_
  refine hlx_iconst (by rfl) rfl ?_
  refine hly_iadd (by rfl) rfl hk_1 (by omega) (by omega) (fun z7 ez7 => ?_)
  refine hly_sld (by rfl) hL ez7 (by omega) (by omega) (fun x8 ex8 => ?_)
  refine hlx_aload_n (by rfl) rfl ?_
  refine hlx_iload_n (by rfl) rfl ?_
  refine hlx_iconst (by rfl) rfl ?_
  refine hly_iadd (by rfl) rfl hk_2 (by omega) (by omega) (fun z9 ez9 => ?_)
  refine hly_sld (by rfl) hL ez9 (by omega) (by omega) (fun x10 ex10 => ?_)
  refine hlx_call (by rfl) (by rfl) (by rfl) (by rfl) (by rfl) (by rfl) (hX189 (d := 21) hA5 hN x8 x10) ?_
  rintro _ A11 ⟨hA11, y12, rfl⟩
  refine hlx_popI (by rfl) ?_
  refine hlx_goto (by rfl) ?_
  exact ih A11 (N + 72) (hJ.mono (hJ.self hA11) (by omega) (by omega)) (by rw [hA11.2.2.1.1 0 1 (by rfl), hA11.2.2.1.1 367 2 (by rfl)]; exact ht) (by omega)
theorem hlc_send {L : Nat} {xs : Nat → Int32} {N : Int} {i : Int32} {A : hs_A} (hi0 : 0 ≤ i.toInt) (hi1 : i.toInt + 6 ≤ (L : Int)) (hL : L ≤ 3072) (hN0 : N ≤ 24 * i.toInt) (hA : hJ 0 N (N + 72) A A) (ht : (A.1 0 1).toInt = (A.1 367 2).toInt) (ih : ∀ (A' : hs_A) (N' : Int), hJ 0 N' (N' + 72) A' A' → (A'.1 0 1).toInt = (A'.1 367 2).toInt → N' ≤ N + 144 → hlx (L, hlS xs) 26 1472 [.ref 0, .ref 1, .ref 368, .int i] [] A') : hlx (L, hlS xs) 26 451 [.ref 0, .ref 1, .ref 368, .int i] [] A := by
  have hN : N ≤ 900000 := by omega
  refine hlx_aload_n (by rfl) rfl ?_
  refine hlx_aload_n (by rfl) rfl ?_
  refine hlx_iload_n (by rfl) rfl ?_
  refine hlx_iconst (by rfl) rfl ?_
  refine hly_iadd (by rfl) rfl hk_1 (by omega) (by omega) (fun z1 ez1 => ?_)
  refine hly_sld (by rfl) hL ez1 (by omega) (by omega) (fun x2 ex2 => ?_)
  refine hlx_call (by rfl) (by rfl) (by rfl) (by rfl) (by rfl) (by rfl) (hX84 (d := 22) hA x2) ?_
  rintro _ A3 ⟨hA3, y4, rfl, _⟩
  refine hlx_popI (by rfl) ?_
  refine hlx_aload_n (by rfl) rfl ?_
  refine hlx_aload_n (by rfl) rfl ?_
  refine hlx_iload_n (by rfl) rfl ?_
  refine hlx_iconst (by rfl) rfl ?_
  refine hly_iadd (by rfl) rfl hk_1 (by omega) (by omega) (fun z5 ez5 => ?_)
  refine hly_sld (by rfl) hL ez5 (by omega) (by omega) (fun x6 ex6 => ?_)
  refine hlx_call (by rfl) (by rfl) (by rfl) (by rfl) (by rfl) (by rfl) (hX192 (d := 23) hA3 hN x6) ?_
  rintro _ A7 ⟨hA7, y8, rfl, _⟩
  refine hlx_popI (by rfl) ?_
  refine hlx_goto (by rfl) ?_
  exact ih A7 (N + 72) (hJ.mono (hJ.self hA7) (by omega) (by omega)) (by rw [hA7.2.2.1.1 0 1 (by rfl), hA7.2.2.1.1 367 2 (by rfl)]; exact ht) (by omega)
theorem hlc_carry {L : Nat} {xs : Nat → Int32} {N : Int} {i : Int32} {A : hs_A} (hi0 : 0 ≤ i.toInt) (hi1 : i.toInt + 6 ≤ (L : Int)) (hL : L ≤ 3072) (hN0 : N ≤ 24 * i.toInt) (hA : hJ 0 N (N + 72) A A) (ht : (A.1 0 1).toInt = (A.1 367 2).toInt) (ih : ∀ (A' : hs_A) (N' : Int), hJ 0 N' (N' + 72) A' A' → (A'.1 0 1).toInt = (A'.1 367 2).toInt → N' ≤ N + 144 → hlx (L, hlS xs) 26 1472 [.ref 0, .ref 1, .ref 368, .int i] [] A') : hlx (L, hlS xs) 26 474 [.ref 0, .ref 1, .ref 368, .int i] [] A := by
  have hN : N ≤ 900000 := by omega
  refine hlx_aload_n (by rfl) rfl ?_
  refine hlx_aload_n (by rfl) rfl ?_
  refine hlx_iload_n (by rfl) rfl ?_
  refine hlx_iconst (by rfl) rfl ?_
  refine hly_iadd (by rfl) rfl hk_1 (by omega) (by omega) (fun z1 ez1 => ?_)
  refine hly_sld (by rfl) hL ez1 (by omega) (by omega) (fun x2 ex2 => ?_)
  refine hlx_aload_n (by rfl) rfl ?_
  refine hlx_iload_n (by rfl) rfl ?_
  refine hlx_iconst (by rfl) rfl ?_
  refine hly_iadd (by rfl) rfl hk_2 (by omega) (by omega) (fun z3 ez3 => ?_)
  refine hly_sld (by rfl) hL ez3 (by omega) (by omega) (fun x4 ex4 => ?_)
  refine hlx_call (by rfl) (by rfl) (by rfl) (by rfl) (by rfl) (by rfl) (hX85 (d := 22) hA x2 x4) ?_
  rintro _ A5 ⟨hA5, y6, rfl⟩
  refine hlx_popI (by rfl) ?_
  refine hlx_aload_n (by rfl) rfl ?_
  refine hlx_aload_n (by rfl) rfl ?_
  refine hlx_iload_n (by rfl) rfl ?_
  refine hlx_iconst (by rfl) rfl ?_
  refine hly_iadd (by rfl) rfl hk_1 (by omega) (by omega) (fun z7 ez7 => ?_)
  refine hly_sld (by rfl) hL ez7 (by omega) (by omega) (fun x8 ex8 => ?_)
  refine hlx_aload_n (by rfl) rfl ?_
  refine hlx_iload_n (by rfl) rfl ?_
  refine hlx_iconst (by rfl) rfl ?_
  refine hly_iadd (by rfl) rfl hk_2 (by omega) (by omega) (fun z9 ez9 => ?_)
  refine hly_sld (by rfl) hL ez9 (by omega) (by omega) (fun x10 ex10 => ?_)
  refine hlx_call (by rfl) (by rfl) (by rfl) (by rfl) (by rfl) (by rfl) (hX193 (d := 23) hA5 hN x8 x10) ?_
  rintro _ A11 ⟨hA11, y12, rfl⟩
  refine hlx_popI (by rfl) ?_
  refine hlx_goto (by rfl) ?_
  exact ih A11 (N + 72) (hJ.mono (hJ.self hA11) (by omega) (by omega)) (by rw [hA11.2.2.1.1 0 1 (by rfl), hA11.2.2.1.1 367 2 (by rfl)]; exact ht) (by omega)
theorem hlc_change {L : Nat} {xs : Nat → Int32} {N : Int} {i : Int32} {A : hs_A} (hi0 : 0 ≤ i.toInt) (hi1 : i.toInt + 6 ≤ (L : Int)) (hL : L ≤ 3072) (hN0 : N ≤ 24 * i.toInt) (hA : hJ 0 N (N + 72) A A) (ht : (A.1 0 1).toInt = (A.1 367 2).toInt) (ih : ∀ (A' : hs_A) (N' : Int), hJ 0 N' (N' + 72) A' A' → (A'.1 0 1).toInt = (A'.1 367 2).toInt → N' ≤ N + 144 → hlx (L, hlS xs) 26 1472 [.ref 0, .ref 1, .ref 368, .int i] [] A') : hlx (L, hlS xs) 26 507 [.ref 0, .ref 1, .ref 368, .int i] [] A := by
  have hN : N ≤ 900000 := by omega
  refine hlx_aload_n (by rfl) rfl ?_
  refine hlx_aload_n (by rfl) rfl ?_
  refine hlx_iload_n (by rfl) rfl ?_
  refine hlx_iconst (by rfl) rfl ?_
  refine hly_iadd (by rfl) rfl hk_1 (by omega) (by omega) (fun z1 ez1 => ?_)
  refine hly_sld (by rfl) hL ez1 (by omega) (by omega) (fun x2 ex2 => ?_)
  refine hlx_aload_n (by rfl) rfl ?_
  refine hlx_iload_n (by rfl) rfl ?_
  refine hlx_iconst (by rfl) rfl ?_
  refine hly_iadd (by rfl) rfl hk_2 (by omega) (by omega) (fun z3 ez3 => ?_)
  refine hly_sld (by rfl) hL ez3 (by omega) (by omega) (fun x4 ex4 => ?_)
  refine hlx_call (by rfl) (by rfl) (by rfl) (by rfl) (by rfl) (by rfl) (hX86 (d := 22) hA x2 x4) ?_
  rintro _ A5 ⟨hA5, y6, rfl, _⟩
  refine hlx_popI (by rfl) ?_
  refine hlx_aload_n (by rfl) rfl ?_
  refine hlx_aload_n (by rfl) rfl ?_
  refine hlx_iload_n (by rfl) rfl ?_
  refine hlx_iconst (by rfl) rfl ?_
  refine hly_iadd (by rfl) rfl hk_1 (by omega) (by omega) (fun z7 ez7 => ?_)
  refine hly_sld (by rfl) hL ez7 (by omega) (by omega) (fun x8 ex8 => ?_)
  refine hlx_aload_n (by rfl) rfl ?_
  refine hlx_iload_n (by rfl) rfl ?_
  refine hlx_iconst (by rfl) rfl ?_
  refine hly_iadd (by rfl) rfl hk_2 (by omega) (by omega) (fun z9 ez9 => ?_)
  refine hly_sld (by rfl) hL ez9 (by omega) (by omega) (fun x10 ex10 => ?_)
  refine hlx_call (by rfl) (by rfl) (by rfl) (by rfl) (by rfl) (by rfl) (hX195 (d := 23) hA5 hN x8 x10) ?_
  rintro _ A11 ⟨hA11, y12, rfl, _⟩
  refine hlx_popI (by rfl) ?_
  refine hlx_goto (by rfl) ?_
  exact ih A11 (N + 72) (hJ.mono (hJ.self hA11) (by omega) (by omega)) (by rw [hA11.2.2.1.1 0 1 (by rfl), hA11.2.2.1.1 367 2 (by rfl)]; exact ht) (by omega)
theorem hlc_hours {L : Nat} {xs : Nat → Int32} {N : Int} {i : Int32} {A : hs_A} (hi0 : 0 ≤ i.toInt) (hi1 : i.toInt + 6 ≤ (L : Int)) (hL : L ≤ 3072) (hN0 : N ≤ 24 * i.toInt) (hA : hJ 0 N (N + 72) A A) (ht : (A.1 0 1).toInt = (A.1 367 2).toInt) (ih : ∀ (A' : hs_A) (N' : Int), hJ 0 N' (N' + 72) A' A' → (A'.1 0 1).toInt = (A'.1 367 2).toInt → N' ≤ N + 144 → hlx (L, hlS xs) 26 1472 [.ref 0, .ref 1, .ref 368, .int i] [] A') : hlx (L, hlS xs) 26 540 [.ref 0, .ref 1, .ref 368, .int i] [] A := by
  have hN : N ≤ 900000 := by omega
  refine hlx_aload_n (by rfl) rfl ?_
  refine hlx_aload_n (by rfl) rfl ?_
  refine hlx_iload_n (by rfl) rfl ?_
  refine hlx_iconst (by rfl) rfl ?_
  refine hly_iadd (by rfl) rfl hk_1 (by omega) (by omega) (fun z1 ez1 => ?_)
  refine hly_sld (by rfl) hL ez1 (by omega) (by omega) (fun x2 ex2 => ?_)
  refine hlx_call (by rfl) (by rfl) (by rfl) (by rfl) (by rfl) (by rfl) (hX87 (d := 21) hA x2) ?_
  rintro _ A3 ⟨hA3, y4, rfl⟩
  refine hlx_popI (by rfl) ?_
  refine hlx_aload_n (by rfl) rfl ?_
  refine hlx_aload_n (by rfl) rfl ?_
  refine hlx_iload_n (by rfl) rfl ?_
  refine hlx_iconst (by rfl) rfl ?_
  refine hly_iadd (by rfl) rfl hk_1 (by omega) (by omega) (fun z5 ez5 => ?_)
  refine hly_sld (by rfl) hL ez5 (by omega) (by omega) (fun x6 ex6 => ?_)
  refine hlx_call (by rfl) (by rfl) (by rfl) (by rfl) (by rfl) (by rfl) (hX198 (d := 19) hA3 hN x6) ?_
  rintro _ A7 ⟨hA7, y8, rfl⟩
  refine hlx_popI (by rfl) ?_
  refine hlx_goto (by rfl) ?_
  exact ih A7 (N + 72) (hJ.mono (hJ.self hA7) (by omega) (by omega)) (by rw [hA7.2.2.1.1 0 1 (by rfl), hA7.2.2.1.1 367 2 (by rfl)]; exact ht) (by omega)
theorem hlc_undo {L : Nat} {xs : Nat → Int32} {N : Int} {i : Int32} {A : hs_A} (hi0 : 0 ≤ i.toInt) (hi1 : i.toInt + 6 ≤ (L : Int)) (hL : L ≤ 3072) (hN0 : N ≤ 24 * i.toInt) (hA : hJ 0 N (N + 72) A A) (ht : (A.1 0 1).toInt = (A.1 367 2).toInt) (ih : ∀ (A' : hs_A) (N' : Int), hJ 0 N' (N' + 72) A' A' → (A'.1 0 1).toInt = (A'.1 367 2).toInt → N' ≤ N + 144 → hlx (L, hlS xs) 26 1472 [.ref 0, .ref 1, .ref 368, .int i] [] A') : hlx (L, hlS xs) 26 563 [.ref 0, .ref 1, .ref 368, .int i] [] A := by
  have hN : N ≤ 900000 := by omega
  refine hlx_aload_n (by rfl) rfl ?_
  refine hlx_call (by rfl) (by rfl) (by rfl) (by rfl) (by rfl) (by rfl) (hX88 (d := 23) hA ) ?_
  rintro _ A1 ⟨hA1, y2, rfl, _⟩
  refine hlx_popI (by rfl) ?_
  refine hlx_aload_n (by rfl) rfl ?_
  refine hlx_call (by rfl) (by rfl) (by rfl) (by rfl) (by rfl) (by rfl) (hX199 (d := 25) hA1 hN ) ?_
  rintro _ A3 ⟨hA3, y4, rfl, _⟩
  refine hlx_popI (by rfl) ?_
  refine hlx_goto (by rfl) ?_
  exact ih A3 (N + 72) (hJ.mono (hJ.self hA3) (by omega) (by omega)) (by rw [hA3.2.2.1.1 0 1 (by rfl), hA3.2.2.1.1 367 2 (by rfl)]; exact ht) (by omega)
theorem hlc_comes {L : Nat} {xs : Nat → Int32} {N : Int} {i : Int32} {A : hs_A} (hi0 : 0 ≤ i.toInt) (hi1 : i.toInt + 6 ≤ (L : Int)) (hL : L ≤ 3072) (hN0 : N ≤ 24 * i.toInt) (hA : hJ 0 N (N + 72) A A) (ht : (A.1 0 1).toInt = (A.1 367 2).toInt) (ih : ∀ (A' : hs_A) (N' : Int), hJ 0 N' (N' + 72) A' A' → (A'.1 0 1).toInt = (A'.1 367 2).toInt → N' ≤ N + 144 → hlx (L, hlS xs) 26 1472 [.ref 0, .ref 1, .ref 368, .int i] [] A') : hlx (L, hlS xs) 26 576 [.ref 0, .ref 1, .ref 368, .int i] [] A := by
  have hN : N ≤ 900000 := by omega
  refine hlx_aload_n (by rfl) rfl ?_
  refine hlx_aload_n (by rfl) rfl ?_
  refine hlx_iload_n (by rfl) rfl ?_
  refine hlx_iconst (by rfl) rfl ?_
  refine hly_iadd (by rfl) rfl hk_1 (by omega) (by omega) (fun z1 ez1 => ?_)
  refine hly_sld (by rfl) hL ez1 (by omega) (by omega) (fun x2 ex2 => ?_)
  refine hlx_aload_n (by rfl) rfl ?_
  refine hlx_iload_n (by rfl) rfl ?_
  refine hlx_iconst (by rfl) rfl ?_
  refine hly_iadd (by rfl) rfl hk_2 (by omega) (by omega) (fun z3 ez3 => ?_)
  refine hly_sld (by rfl) hL ez3 (by omega) (by omega) (fun x4 ex4 => ?_)
  refine hlx_call (by rfl) (by rfl) (by rfl) (by rfl) (by rfl) (by rfl) (hX91 (d := 19) hA x2 x4) ?_
  rintro _ A5 ⟨hA5, y6, rfl⟩
  refine hlx_popI (by rfl) ?_
  refine hlx_aload_n (by rfl) rfl ?_
  refine hlx_aload_n (by rfl) rfl ?_
  refine hlx_iload_n (by rfl) rfl ?_
  refine hlx_iconst (by rfl) rfl ?_
  refine hly_iadd (by rfl) rfl hk_1 (by omega) (by omega) (fun z7 ez7 => ?_)
  refine hly_sld (by rfl) hL ez7 (by omega) (by omega) (fun x8 ex8 => ?_)
  refine hlx_aload_n (by rfl) rfl ?_
  refine hlx_iload_n (by rfl) rfl ?_
  refine hlx_iconst (by rfl) rfl ?_
  refine hly_iadd (by rfl) rfl hk_2 (by omega) (by omega) (fun z9 ez9 => ?_)
  refine hly_sld (by rfl) hL ez9 (by omega) (by omega) (fun x10 ex10 => ?_)
  refine hlx_call (by rfl) (by rfl) (by rfl) (by rfl) (by rfl) (by rfl) (hX204 (d := 19) hA5 hN x8 x10) ?_
  rintro _ A11 ⟨hA11, y12, rfl⟩
  refine hlx_popI (by rfl) ?_
  refine hlx_goto (by rfl) ?_
  exact ih A11 (N + 72) (hJ.mono (hJ.self hA11) (by omega) (by omega)) (by rw [hA11.2.2.1.1 0 1 (by rfl), hA11.2.2.1.1 367 2 (by rfl)]; exact ht) (by omega)
theorem hlc_last {L : Nat} {xs : Nat → Int32} {N : Int} {i : Int32} {A : hs_A} (hi0 : 0 ≤ i.toInt) (hi1 : i.toInt + 6 ≤ (L : Int)) (hL : L ≤ 3072) (hN0 : N ≤ 24 * i.toInt) (hA : hJ 0 N (N + 72) A A) (ht : (A.1 0 1).toInt = (A.1 367 2).toInt) (ih : ∀ (A' : hs_A) (N' : Int), hJ 0 N' (N' + 72) A' A' → (A'.1 0 1).toInt = (A'.1 367 2).toInt → N' ≤ N + 144 → hlx (L, hlS xs) 26 1472 [.ref 0, .ref 1, .ref 368, .int i] [] A') : hlx (L, hlS xs) 26 609 [.ref 0, .ref 1, .ref 368, .int i] [] A := by
  have hN : N ≤ 900000 := by omega
  refine hlx_aload_n (by rfl) rfl ?_
  refine hlx_aload_n (by rfl) rfl ?_
  refine hlx_iload_n (by rfl) rfl ?_
  refine hlx_iconst (by rfl) rfl ?_
  refine hly_iadd (by rfl) rfl hk_1 (by omega) (by omega) (fun z1 ez1 => ?_)
  refine hly_sld (by rfl) hL ez1 (by omega) (by omega) (fun x2 ex2 => ?_)
  refine hlx_call (by rfl) (by rfl) (by rfl) (by rfl) (by rfl) (by rfl) (hX92 (d := 19) hA x2) ?_
  rintro _ A3 ⟨hA3, y4, rfl⟩
  refine hlx_popI (by rfl) ?_
  refine hlx_aload_n (by rfl) rfl ?_
  refine hlx_aload_n (by rfl) rfl ?_
  refine hlx_iload_n (by rfl) rfl ?_
  refine hlx_iconst (by rfl) rfl ?_
  refine hly_iadd (by rfl) rfl hk_1 (by omega) (by omega) (fun z5 ez5 => ?_)
  refine hly_sld (by rfl) hL ez5 (by omega) (by omega) (fun x6 ex6 => ?_)
  refine hlx_call (by rfl) (by rfl) (by rfl) (by rfl) (by rfl) (by rfl) (hX205 (d := 19) hA3 hN x6) ?_
  rintro _ A7 ⟨hA7, y8, rfl⟩
  refine hlx_popI (by rfl) ?_
  refine hlx_goto (by rfl) ?_
  exact ih A7 (N + 72) (hJ.mono (hJ.self hA7) (by omega) (by omega)) (by rw [hA7.2.2.1.1 0 1 (by rfl), hA7.2.2.1.1 367 2 (by rfl)]; exact ht) (by omega)
theorem hlc_sendFor {L : Nat} {xs : Nat → Int32} {N : Int} {i : Int32} {A : hs_A} (hi0 : 0 ≤ i.toInt) (hi1 : i.toInt + 6 ≤ (L : Int)) (hL : L ≤ 3072) (hN0 : N ≤ 24 * i.toInt) (hA : hJ 0 N (N + 72) A A) (ht : (A.1 0 1).toInt = (A.1 367 2).toInt) (ih : ∀ (A' : hs_A) (N' : Int), hJ 0 N' (N' + 72) A' A' → (A'.1 0 1).toInt = (A'.1 367 2).toInt → N' ≤ N + 144 → hlx (L, hlS xs) 26 1472 [.ref 0, .ref 1, .ref 368, .int i] [] A') : hlx (L, hlS xs) 26 632 [.ref 0, .ref 1, .ref 368, .int i] [] A := by
  have hN : N ≤ 900000 := by omega
  refine hlx_aload_n (by rfl) rfl ?_
  refine hlx_aload_n (by rfl) rfl ?_
  refine hlx_iload_n (by rfl) rfl ?_
  refine hlx_iconst (by rfl) rfl ?_
  refine hly_iadd (by rfl) rfl hk_1 (by omega) (by omega) (fun z1 ez1 => ?_)
  refine hly_sld (by rfl) hL ez1 (by omega) (by omega) (fun x2 ex2 => ?_)
  refine hlx_call (by rfl) (by rfl) (by rfl) (by rfl) (by rfl) (by rfl) (hX93 (d := 19) hA x2) ?_
  rintro _ A3 ⟨hA3, y4, rfl⟩
  refine hlx_popI (by rfl) ?_
  refine hlx_aload_n (by rfl) rfl ?_
  refine hlx_aload_n (by rfl) rfl ?_
  refine hlx_iload_n (by rfl) rfl ?_
  refine hlx_iconst (by rfl) rfl ?_
  refine hly_iadd (by rfl) rfl hk_1 (by omega) (by omega) (fun z5 ez5 => ?_)
  refine hly_sld (by rfl) hL ez5 (by omega) (by omega) (fun x6 ex6 => ?_)
  refine hlx_call (by rfl) (by rfl) (by rfl) (by rfl) (by rfl) (by rfl) (hX206 (d := 18) hA3 hN x6) ?_
  rintro _ A7 ⟨hA7, y8, rfl⟩
  refine hlx_popI (by rfl) ?_
  refine hlx_goto (by rfl) ?_
  exact ih A7 (N + 72) (hJ.mono (hJ.self hA7) (by omega) (by omega)) (by rw [hA7.2.2.1.1 0 1 (by rfl), hA7.2.2.1.1 367 2 (by rfl)]; exact ht) (by omega)
theorem hlc_apart {L : Nat} {xs : Nat → Int32} {N : Int} {i : Int32} {A : hs_A} (hi0 : 0 ≤ i.toInt) (hi1 : i.toInt + 6 ≤ (L : Int)) (hL : L ≤ 3072) (hN0 : N ≤ 24 * i.toInt) (hA : hJ 0 N (N + 72) A A) (ht : (A.1 0 1).toInt = (A.1 367 2).toInt) (ih : ∀ (A' : hs_A) (N' : Int), hJ 0 N' (N' + 72) A' A' → (A'.1 0 1).toInt = (A'.1 367 2).toInt → N' ≤ N + 144 → hlx (L, hlS xs) 26 1472 [.ref 0, .ref 1, .ref 368, .int i] [] A') : hlx (L, hlS xs) 26 655 [.ref 0, .ref 1, .ref 368, .int i] [] A := by
  have hN : N ≤ 900000 := by omega
  refine hlx_aload_n (by rfl) rfl ?_
  refine hlx_aload_n (by rfl) rfl ?_
  refine hlx_iload_n (by rfl) rfl ?_
  refine hlx_iconst (by rfl) rfl ?_
  refine hly_iadd (by rfl) rfl hk_1 (by omega) (by omega) (fun z1 ez1 => ?_)
  refine hly_sld (by rfl) hL ez1 (by omega) (by omega) (fun x2 ex2 => ?_)
  refine hlx_call (by rfl) (by rfl) (by rfl) (by rfl) (by rfl) (by rfl) (hX94 (d := 19) hA x2) ?_
  rintro _ A3 ⟨hA3, y4, rfl⟩
  refine hlx_popI (by rfl) ?_
  refine hlx_aload_n (by rfl) rfl ?_
  refine hlx_aload_n (by rfl) rfl ?_
  refine hlx_iload_n (by rfl) rfl ?_
  refine hlx_iconst (by rfl) rfl ?_
  refine hly_iadd (by rfl) rfl hk_1 (by omega) (by omega) (fun z5 ez5 => ?_)
  refine hly_sld (by rfl) hL ez5 (by omega) (by omega) (fun x6 ex6 => ?_)
  refine hlx_call (by rfl) (by rfl) (by rfl) (by rfl) (by rfl) (by rfl) (hX207 (d := 18) hA3 hN x6) ?_
  rintro _ A7 ⟨hA7, y8, rfl⟩
  refine hlx_popI (by rfl) ?_
  refine hlx_goto (by rfl) ?_
  exact ih A7 (N + 72) (hJ.mono (hJ.self hA7) (by omega) (by omega)) (by rw [hA7.2.2.1.1 0 1 (by rfl), hA7.2.2.1.1 367 2 (by rfl)]; exact ht) (by omega)
theorem hlc_code {L : Nat} {xs : Nat → Int32} {N : Int} {i : Int32} {A : hs_A} (hi0 : 0 ≤ i.toInt) (hi1 : i.toInt + 6 ≤ (L : Int)) (hL : L ≤ 3072) (hN0 : N ≤ 24 * i.toInt) (hA : hJ 0 N (N + 72) A A) (ht : (A.1 0 1).toInt = (A.1 367 2).toInt) (ih : ∀ (A' : hs_A) (N' : Int), hJ 0 N' (N' + 72) A' A' → (A'.1 0 1).toInt = (A'.1 367 2).toInt → N' ≤ N + 144 → hlx (L, hlS xs) 26 1472 [.ref 0, .ref 1, .ref 368, .int i] [] A') : hlx (L, hlS xs) 26 678 [.ref 0, .ref 1, .ref 368, .int i] [] A := by
  have hN : N ≤ 900000 := by omega
  refine hlx_aload_n (by rfl) rfl ?_
  refine hlx_aload_n (by rfl) rfl ?_
  refine hlx_iload_n (by rfl) rfl ?_
  refine hlx_iconst (by rfl) rfl ?_
  refine hly_iadd (by rfl) rfl hk_1 (by omega) (by omega) (fun z1 ez1 => ?_)
  refine hly_sld (by rfl) hL ez1 (by omega) (by omega) (fun x2 ex2 => ?_)
  refine hlx_aload_n (by rfl) rfl ?_
  refine hlx_iload_n (by rfl) rfl ?_
  refine hlx_iconst (by rfl) rfl ?_
  refine hly_iadd (by rfl) rfl hk_2 (by omega) (by omega) (fun z3 ez3 => ?_)
  refine hly_sld (by rfl) hL ez3 (by omega) (by omega) (fun x4 ex4 => ?_)
  refine hlx_aload_n (by rfl) rfl ?_
  refine hlx_iload_n (by rfl) rfl ?_
  refine hlx_iconst (by rfl) rfl ?_
  refine hly_iadd (by rfl) rfl hk_3 (by omega) (by omega) (fun z5 ez5 => ?_)
  refine hly_sld (by rfl) hL ez5 (by omega) (by omega) (fun x6 ex6 => ?_)
  refine hlx_call (by rfl) (by rfl) (by rfl) (by rfl) (by rfl) (by rfl) (hX95 (d := 19) hA x2 x4 x6) ?_
  rintro _ A7 ⟨hA7, y8, rfl⟩
  refine hlx_popI (by rfl) ?_
  refine hlx_aload_n (by rfl) rfl ?_
  refine hlx_aload_n (by rfl) rfl ?_
  refine hlx_iload_n (by rfl) rfl ?_
  refine hlx_iconst (by rfl) rfl ?_
  refine hly_iadd (by rfl) rfl hk_1 (by omega) (by omega) (fun z9 ez9 => ?_)
  refine hly_sld (by rfl) hL ez9 (by omega) (by omega) (fun x10 ex10 => ?_)
  refine hlx_aload_n (by rfl) rfl ?_
  refine hlx_iload_n (by rfl) rfl ?_
  refine hlx_iconst (by rfl) rfl ?_
  refine hly_iadd (by rfl) rfl hk_2 (by omega) (by omega) (fun z11 ez11 => ?_)
  refine hly_sld (by rfl) hL ez11 (by omega) (by omega) (fun x12 ex12 => ?_)
  refine hlx_aload_n (by rfl) rfl ?_
  refine hlx_iload_n (by rfl) rfl ?_
  refine hlx_iconst (by rfl) rfl ?_
  refine hly_iadd (by rfl) rfl hk_3 (by omega) (by omega) (fun z13 ez13 => ?_)
  refine hly_sld (by rfl) hL ez13 (by omega) (by omega) (fun x14 ex14 => ?_)
  refine hlx_call (by rfl) (by rfl) (by rfl) (by rfl) (by rfl) (by rfl) (hX208 (d := 18) hA7 hN x10 x12 x14) ?_
  rintro _ A15 ⟨hA15, y16, rfl⟩
  refine hlx_popI (by rfl) ?_
  refine hlx_goto (by rfl) ?_
  exact ih A15 (N + 72) (hJ.mono (hJ.self hA15) (by omega) (by omega)) (by rw [hA15.2.2.1.1 0 1 (by rfl), hA15.2.2.1.1 367 2 (by rfl)]; exact ht) (by omega)
theorem hlc_lost {L : Nat} {xs : Nat → Int32} {N : Int} {i : Int32} {A : hs_A} (hi0 : 0 ≤ i.toInt) (hi1 : i.toInt + 6 ≤ (L : Int)) (hL : L ≤ 3072) (hN0 : N ≤ 24 * i.toInt) (hA : hJ 0 N (N + 72) A A) (ht : (A.1 0 1).toInt = (A.1 367 2).toInt) (ih : ∀ (A' : hs_A) (N' : Int), hJ 0 N' (N' + 72) A' A' → (A'.1 0 1).toInt = (A'.1 367 2).toInt → N' ≤ N + 144 → hlx (L, hlS xs) 26 1472 [.ref 0, .ref 1, .ref 368, .int i] [] A') : hlx (L, hlS xs) 26 721 [.ref 0, .ref 1, .ref 368, .int i] [] A := by
  have hN : N ≤ 900000 := by omega
  refine hlx_aload_n (by rfl) rfl ?_
  refine hlx_aload_n (by rfl) rfl ?_
  refine hlx_iload_n (by rfl) rfl ?_
  refine hlx_iconst (by rfl) rfl ?_
  refine hly_iadd (by rfl) rfl hk_1 (by omega) (by omega) (fun z1 ez1 => ?_)
  refine hly_sld (by rfl) hL ez1 (by omega) (by omega) (fun x2 ex2 => ?_)
  refine hlx_call (by rfl) (by rfl) (by rfl) (by rfl) (by rfl) (by rfl) (hX97 (d := 19) hA x2) ?_
  rintro _ A3 ⟨hA3, y4, rfl⟩
  refine hlx_popI (by rfl) ?_
  refine hlx_aload_n (by rfl) rfl ?_
  refine hlx_aload_n (by rfl) rfl ?_
  refine hlx_iload_n (by rfl) rfl ?_
  refine hlx_iconst (by rfl) rfl ?_
  refine hly_iadd (by rfl) rfl hk_1 (by omega) (by omega) (fun z5 ez5 => ?_)
  refine hly_sld (by rfl) hL ez5 (by omega) (by omega) (fun x6 ex6 => ?_)
  refine hlx_call (by rfl) (by rfl) (by rfl) (by rfl) (by rfl) (by rfl) (hX209 (d := 19) hA3 hN x6) ?_
  rintro _ A7 ⟨hA7, y8, rfl⟩
  refine hlx_popI (by rfl) ?_
  refine hlx_goto (by rfl) ?_
  exact ih A7 (N + 72) (hJ.mono (hJ.self hA7) (by omega) (by omega)) (by rw [hA7.2.2.1.1 0 1 (by rfl), hA7.2.2.1.1 367 2 (by rfl)]; exact ht) (by omega)
theorem hlc_between {L : Nat} {xs : Nat → Int32} {N : Int} {i : Int32} {A : hs_A} (hi0 : 0 ≤ i.toInt) (hi1 : i.toInt + 6 ≤ (L : Int)) (hL : L ≤ 3072) (hN0 : N ≤ 24 * i.toInt) (hA : hJ 0 N (N + 72) A A) (ht : (A.1 0 1).toInt = (A.1 367 2).toInt) (ih : ∀ (A' : hs_A) (N' : Int), hJ 0 N' (N' + 72) A' A' → (A'.1 0 1).toInt = (A'.1 367 2).toInt → N' ≤ N + 144 → hlx (L, hlS xs) 26 1472 [.ref 0, .ref 1, .ref 368, .int i] [] A') : hlx (L, hlS xs) 26 744 [.ref 0, .ref 1, .ref 368, .int i] [] A := by
  have hN : N ≤ 900000 := by omega
  refine hlx_aload_n (by rfl) rfl ?_
  refine hlx_aload_n (by rfl) rfl ?_
  refine hlx_iload_n (by rfl) rfl ?_
  refine hlx_iconst (by rfl) rfl ?_
  refine hly_iadd (by rfl) rfl hk_1 (by omega) (by omega) (fun z1 ez1 => ?_)
  refine hly_sld (by rfl) hL ez1 (by omega) (by omega) (fun x2 ex2 => ?_)
  refine hlx_aload_n (by rfl) rfl ?_
  refine hlx_iload_n (by rfl) rfl ?_
  refine hlx_iconst (by rfl) rfl ?_
  refine hly_iadd (by rfl) rfl hk_2 (by omega) (by omega) (fun z3 ez3 => ?_)
  refine hly_sld (by rfl) hL ez3 (by omega) (by omega) (fun x4 ex4 => ?_)
  refine hlx_aload_n (by rfl) rfl ?_
  refine hlx_iload_n (by rfl) rfl ?_
  refine hlx_iconst (by rfl) rfl ?_
  refine hly_iadd (by rfl) rfl hk_3 (by omega) (by omega) (fun z5 ez5 => ?_)
  refine hly_sld (by rfl) hL ez5 (by omega) (by omega) (fun x6 ex6 => ?_)
  refine hlx_call (by rfl) (by rfl) (by rfl) (by rfl) (by rfl) (by rfl) (hX98 (d := 19) hA x2 x4 x6) ?_
  rintro _ A7 ⟨hA7, y8, rfl⟩
  refine hlx_popI (by rfl) ?_
  refine hlx_aload_n (by rfl) rfl ?_
  refine hlx_aload_n (by rfl) rfl ?_
  refine hlx_iload_n (by rfl) rfl ?_
  refine hlx_iconst (by rfl) rfl ?_
  refine hly_iadd (by rfl) rfl hk_1 (by omega) (by omega) (fun z9 ez9 => ?_)
  refine hly_sld (by rfl) hL ez9 (by omega) (by omega) (fun x10 ex10 => ?_)
  refine hlx_aload_n (by rfl) rfl ?_
  refine hlx_iload_n (by rfl) rfl ?_
  refine hlx_iconst (by rfl) rfl ?_
  refine hly_iadd (by rfl) rfl hk_2 (by omega) (by omega) (fun z11 ez11 => ?_)
  refine hly_sld (by rfl) hL ez11 (by omega) (by omega) (fun x12 ex12 => ?_)
  refine hlx_aload_n (by rfl) rfl ?_
  refine hlx_iload_n (by rfl) rfl ?_
  refine hlx_iconst (by rfl) rfl ?_
  refine hly_iadd (by rfl) rfl hk_3 (by omega) (by omega) (fun z13 ez13 => ?_)
  refine hly_sld (by rfl) hL ez13 (by omega) (by omega) (fun x14 ex14 => ?_)
  refine hlx_call (by rfl) (by rfl) (by rfl) (by rfl) (by rfl) (by rfl) (hX210 (d := 19) hA7 hN x10 x12 x14) ?_
  rintro _ A15 ⟨hA15, y16, rfl⟩
  refine hlx_popI (by rfl) ?_
  refine hlx_goto (by rfl) ?_
  exact ih A15 (N + 72) (hJ.mono (hJ.self hA15) (by omega) (by omega)) (by rw [hA15.2.2.1.1 0 1 (by rfl), hA15.2.2.1.1 367 2 (by rfl)]; exact ht) (by omega)
theorem hlc_widest {L : Nat} {xs : Nat → Int32} {N : Int} {i : Int32} {A : hs_A} (hi0 : 0 ≤ i.toInt) (hi1 : i.toInt + 6 ≤ (L : Int)) (hL : L ≤ 3072) (hN0 : N ≤ 24 * i.toInt) (hA : hJ 0 N (N + 72) A A) (ht : (A.1 0 1).toInt = (A.1 367 2).toInt) (ih : ∀ (A' : hs_A) (N' : Int), hJ 0 N' (N' + 72) A' A' → (A'.1 0 1).toInt = (A'.1 367 2).toInt → N' ≤ N + 144 → hlx (L, hlS xs) 26 1472 [.ref 0, .ref 1, .ref 368, .int i] [] A') : hlx (L, hlS xs) 26 787 [.ref 0, .ref 1, .ref 368, .int i] [] A := by
  have hN : N ≤ 900000 := by omega
  refine hlx_aload_n (by rfl) rfl ?_
  refine hlx_aload_n (by rfl) rfl ?_
  refine hlx_iload_n (by rfl) rfl ?_
  refine hlx_iconst (by rfl) rfl ?_
  refine hly_iadd (by rfl) rfl hk_1 (by omega) (by omega) (fun z1 ez1 => ?_)
  refine hly_sld (by rfl) hL ez1 (by omega) (by omega) (fun x2 ex2 => ?_)
  refine hlx_aload_n (by rfl) rfl ?_
  refine hlx_iload_n (by rfl) rfl ?_
  refine hlx_iconst (by rfl) rfl ?_
  refine hly_iadd (by rfl) rfl hk_2 (by omega) (by omega) (fun z3 ez3 => ?_)
  refine hly_sld (by rfl) hL ez3 (by omega) (by omega) (fun x4 ex4 => ?_)
  refine hlx_call (by rfl) (by rfl) (by rfl) (by rfl) (by rfl) (by rfl) (hX99 (d := 19) hA x2 x4) ?_
  rintro _ A5 ⟨hA5, y6, rfl⟩
  refine hlx_popI (by rfl) ?_
  refine hlx_aload_n (by rfl) rfl ?_
  refine hlx_aload_n (by rfl) rfl ?_
  refine hlx_iload_n (by rfl) rfl ?_
  refine hlx_iconst (by rfl) rfl ?_
  refine hly_iadd (by rfl) rfl hk_1 (by omega) (by omega) (fun z7 ez7 => ?_)
  refine hly_sld (by rfl) hL ez7 (by omega) (by omega) (fun x8 ex8 => ?_)
  refine hlx_aload_n (by rfl) rfl ?_
  refine hlx_iload_n (by rfl) rfl ?_
  refine hlx_iconst (by rfl) rfl ?_
  refine hly_iadd (by rfl) rfl hk_2 (by omega) (by omega) (fun z9 ez9 => ?_)
  refine hly_sld (by rfl) hL ez9 (by omega) (by omega) (fun x10 ex10 => ?_)
  refine hlx_call (by rfl) (by rfl) (by rfl) (by rfl) (by rfl) (by rfl) (hX211 (d := 18) hA5 hN x8 x10) ?_
  rintro _ A11 ⟨hA11, y12, rfl⟩
  refine hlx_popI (by rfl) ?_
  refine hlx_goto (by rfl) ?_
  exact ih A11 (N + 72) (hJ.mono (hJ.self hA11) (by omega) (by omega)) (by rw [hA11.2.2.1.1 0 1 (by rfl), hA11.2.2.1.1 367 2 (by rfl)]; exact ht) (by omega)
theorem hlc_same {L : Nat} {xs : Nat → Int32} {N : Int} {i : Int32} {A : hs_A} (hi0 : 0 ≤ i.toInt) (hi1 : i.toInt + 6 ≤ (L : Int)) (hL : L ≤ 3072) (hN0 : N ≤ 24 * i.toInt) (hA : hJ 0 N (N + 72) A A) (ht : (A.1 0 1).toInt = (A.1 367 2).toInt) (ih : ∀ (A' : hs_A) (N' : Int), hJ 0 N' (N' + 72) A' A' → (A'.1 0 1).toInt = (A'.1 367 2).toInt → N' ≤ N + 144 → hlx (L, hlS xs) 26 1472 [.ref 0, .ref 1, .ref 368, .int i] [] A') : hlx (L, hlS xs) 26 820 [.ref 0, .ref 1, .ref 368, .int i] [] A := by
  have hN : N ≤ 900000 := by omega
  refine hlx_aload_n (by rfl) rfl ?_
  refine hlx_aload_n (by rfl) rfl ?_
  refine hlx_iload_n (by rfl) rfl ?_
  refine hlx_iconst (by rfl) rfl ?_
  refine hly_iadd (by rfl) rfl hk_1 (by omega) (by omega) (fun z1 ez1 => ?_)
  refine hly_sld (by rfl) hL ez1 (by omega) (by omega) (fun x2 ex2 => ?_)
  refine hlx_aload_n (by rfl) rfl ?_
  refine hlx_iload_n (by rfl) rfl ?_
  refine hlx_iconst (by rfl) rfl ?_
  refine hly_iadd (by rfl) rfl hk_2 (by omega) (by omega) (fun z3 ez3 => ?_)
  refine hly_sld (by rfl) hL ez3 (by omega) (by omega) (fun x4 ex4 => ?_)
  refine hlx_call (by rfl) (by rfl) (by rfl) (by rfl) (by rfl) (by rfl) (hX100 (d := 19) hA x2 x4) ?_
  rintro _ A5 ⟨hA5, y6, rfl⟩
  refine hlx_popI (by rfl) ?_
  refine hlx_aload_n (by rfl) rfl ?_
  refine hlx_aload_n (by rfl) rfl ?_
  refine hlx_iload_n (by rfl) rfl ?_
  refine hlx_iconst (by rfl) rfl ?_
  refine hly_iadd (by rfl) rfl hk_1 (by omega) (by omega) (fun z7 ez7 => ?_)
  refine hly_sld (by rfl) hL ez7 (by omega) (by omega) (fun x8 ex8 => ?_)
  refine hlx_aload_n (by rfl) rfl ?_
  refine hlx_iload_n (by rfl) rfl ?_
  refine hlx_iconst (by rfl) rfl ?_
  refine hly_iadd (by rfl) rfl hk_2 (by omega) (by omega) (fun z9 ez9 => ?_)
  refine hly_sld (by rfl) hL ez9 (by omega) (by omega) (fun x10 ex10 => ?_)
  refine hlx_call (by rfl) (by rfl) (by rfl) (by rfl) (by rfl) (by rfl) (hX212 (d := 18) hA5 hN x8 x10) ?_
  rintro _ A11 ⟨hA11, y12, rfl⟩
  refine hlx_popI (by rfl) ?_
  refine hlx_goto (by rfl) ?_
  exact ih A11 (N + 72) (hJ.mono (hJ.self hA11) (by omega) (by omega)) (by rw [hA11.2.2.1.1 0 1 (by rfl), hA11.2.2.1.1 367 2 (by rfl)]; exact ht) (by omega)
theorem hlc_itself {L : Nat} {xs : Nat → Int32} {N : Int} {i : Int32} {A : hs_A} (hi0 : 0 ≤ i.toInt) (hi1 : i.toInt + 6 ≤ (L : Int)) (hL : L ≤ 3072) (hN0 : N ≤ 24 * i.toInt) (hA : hJ 0 N (N + 72) A A) (ht : (A.1 0 1).toInt = (A.1 367 2).toInt) (ih : ∀ (A' : hs_A) (N' : Int), hJ 0 N' (N' + 72) A' A' → (A'.1 0 1).toInt = (A'.1 367 2).toInt → N' ≤ N + 144 → hlx (L, hlS xs) 26 1472 [.ref 0, .ref 1, .ref 368, .int i] [] A') : hlx (L, hlS xs) 26 853 [.ref 0, .ref 1, .ref 368, .int i] [] A := by
  have hN : N ≤ 900000 := by omega
  refine hlx_aload_n (by rfl) rfl ?_
  refine hlx_aload_n (by rfl) rfl ?_
  refine hlx_iload_n (by rfl) rfl ?_
  refine hlx_iconst (by rfl) rfl ?_
  refine hly_iadd (by rfl) rfl hk_1 (by omega) (by omega) (fun z1 ez1 => ?_)
  refine hly_sld (by rfl) hL ez1 (by omega) (by omega) (fun x2 ex2 => ?_)
  refine hlx_call (by rfl) (by rfl) (by rfl) (by rfl) (by rfl) (by rfl) (hX101 (d := 19) hA x2) ?_
  rintro _ A3 ⟨hA3, y4, rfl⟩
  refine hlx_popI (by rfl) ?_
  refine hlx_aload_n (by rfl) rfl ?_
  refine hlx_aload_n (by rfl) rfl ?_
  refine hlx_iload_n (by rfl) rfl ?_
  refine hlx_iconst (by rfl) rfl ?_
  refine hly_iadd (by rfl) rfl hk_1 (by omega) (by omega) (fun z5 ez5 => ?_)
  refine hly_sld (by rfl) hL ez5 (by omega) (by omega) (fun x6 ex6 => ?_)
  refine hlx_call (by rfl) (by rfl) (by rfl) (by rfl) (by rfl) (by rfl) (hX213 (d := 19) hA3 hN x6) ?_
  rintro _ A7 ⟨hA7, y8, rfl⟩
  refine hlx_popI (by rfl) ?_
  refine hlx_goto (by rfl) ?_
  exact ih A7 (N + 72) (hJ.mono (hJ.self hA7) (by omega) (by omega)) (by rw [hA7.2.2.1.1 0 1 (by rfl), hA7.2.2.1.1 367 2 (by rfl)]; exact ht) (by omega)
theorem hlc_times {L : Nat} {xs : Nat → Int32} {N : Int} {i : Int32} {A : hs_A} (hi0 : 0 ≤ i.toInt) (hi1 : i.toInt + 6 ≤ (L : Int)) (hL : L ≤ 3072) (hN0 : N ≤ 24 * i.toInt) (hA : hJ 0 N (N + 72) A A) (ht : (A.1 0 1).toInt = (A.1 367 2).toInt) (ih : ∀ (A' : hs_A) (N' : Int), hJ 0 N' (N' + 72) A' A' → (A'.1 0 1).toInt = (A'.1 367 2).toInt → N' ≤ N + 144 → hlx (L, hlS xs) 26 1472 [.ref 0, .ref 1, .ref 368, .int i] [] A') : hlx (L, hlS xs) 26 876 [.ref 0, .ref 1, .ref 368, .int i] [] A := by
  have hN : N ≤ 900000 := by omega
  refine hlx_aload_n (by rfl) rfl ?_
  refine hlx_aload_n (by rfl) rfl ?_
  refine hlx_iload_n (by rfl) rfl ?_
  refine hlx_iconst (by rfl) rfl ?_
  refine hly_iadd (by rfl) rfl hk_1 (by omega) (by omega) (fun z1 ez1 => ?_)
  refine hly_sld (by rfl) hL ez1 (by omega) (by omega) (fun x2 ex2 => ?_)
  refine hlx_aload_n (by rfl) rfl ?_
  refine hlx_iload_n (by rfl) rfl ?_
  refine hlx_iconst (by rfl) rfl ?_
  refine hly_iadd (by rfl) rfl hk_2 (by omega) (by omega) (fun z3 ez3 => ?_)
  refine hly_sld (by rfl) hL ez3 (by omega) (by omega) (fun x4 ex4 => ?_)
  refine hlx_call (by rfl) (by rfl) (by rfl) (by rfl) (by rfl) (by rfl) (hX102 (d := 20) hA x2 x4) ?_
  rintro _ A5 ⟨hA5, y6, rfl⟩
  refine hlx_popI (by rfl) ?_
  refine hlx_aload_n (by rfl) rfl ?_
  refine hlx_aload_n (by rfl) rfl ?_
  refine hlx_iload_n (by rfl) rfl ?_
  refine hlx_iconst (by rfl) rfl ?_
  refine hly_iadd (by rfl) rfl hk_1 (by omega) (by omega) (fun z7 ez7 => ?_)
  refine hly_sld (by rfl) hL ez7 (by omega) (by omega) (fun x8 ex8 => ?_)
  refine hlx_aload_n (by rfl) rfl ?_
  refine hlx_iload_n (by rfl) rfl ?_
  refine hlx_iconst (by rfl) rfl ?_
  refine hly_iadd (by rfl) rfl hk_2 (by omega) (by omega) (fun z9 ez9 => ?_)
  refine hly_sld (by rfl) hL ez9 (by omega) (by omega) (fun x10 ex10 => ?_)
  refine hlx_call (by rfl) (by rfl) (by rfl) (by rfl) (by rfl) (by rfl) (hX216 (d := 19) hA5 hN x8 x10) ?_
  rintro _ A11 ⟨hA11, y12, rfl⟩
  refine hlx_popI (by rfl) ?_
  refine hlx_goto (by rfl) ?_
  exact ih A11 (N + 72) (hJ.mono (hJ.self hA11) (by omega) (by omega)) (by rw [hA11.2.2.1.1 0 1 (by rfl), hA11.2.2.1.1 367 2 (by rfl)]; exact ht) (by omega)
theorem hlc_bestHour {L : Nat} {xs : Nat → Int32} {N : Int} {i : Int32} {A : hs_A} (hi0 : 0 ≤ i.toInt) (hi1 : i.toInt + 6 ≤ (L : Int)) (hL : L ≤ 3072) (hN0 : N ≤ 24 * i.toInt) (hA : hJ 0 N (N + 72) A A) (ht : (A.1 0 1).toInt = (A.1 367 2).toInt) (ih : ∀ (A' : hs_A) (N' : Int), hJ 0 N' (N' + 72) A' A' → (A'.1 0 1).toInt = (A'.1 367 2).toInt → N' ≤ N + 144 → hlx (L, hlS xs) 26 1472 [.ref 0, .ref 1, .ref 368, .int i] [] A') : hlx (L, hlS xs) 26 909 [.ref 0, .ref 1, .ref 368, .int i] [] A := by
  have hN : N ≤ 900000 := by omega
  refine hlx_aload_n (by rfl) rfl ?_
  refine hlx_aload_n (by rfl) rfl ?_
  refine hlx_iload_n (by rfl) rfl ?_
  refine hlx_iconst (by rfl) rfl ?_
  refine hly_iadd (by rfl) rfl hk_1 (by omega) (by omega) (fun z1 ez1 => ?_)
  refine hly_sld (by rfl) hL ez1 (by omega) (by omega) (fun x2 ex2 => ?_)
  refine hlx_aload_n (by rfl) rfl ?_
  refine hlx_iload_n (by rfl) rfl ?_
  refine hlx_iconst (by rfl) rfl ?_
  refine hly_iadd (by rfl) rfl hk_2 (by omega) (by omega) (fun z3 ez3 => ?_)
  refine hly_sld (by rfl) hL ez3 (by omega) (by omega) (fun x4 ex4 => ?_)
  refine hlx_call (by rfl) (by rfl) (by rfl) (by rfl) (by rfl) (by rfl) (hX105 (d := 21) hA x2 x4) ?_
  rintro _ A5 ⟨hA5, y6, rfl⟩
  refine hlx_popI (by rfl) ?_
  refine hlx_aload_n (by rfl) rfl ?_
  refine hlx_aload_n (by rfl) rfl ?_
  refine hlx_iload_n (by rfl) rfl ?_
  refine hlx_iconst (by rfl) rfl ?_
  refine hly_iadd (by rfl) rfl hk_1 (by omega) (by omega) (fun z7 ez7 => ?_)
  refine hly_sld (by rfl) hL ez7 (by omega) (by omega) (fun x8 ex8 => ?_)
  refine hlx_aload_n (by rfl) rfl ?_
  refine hlx_iload_n (by rfl) rfl ?_
  refine hlx_iconst (by rfl) rfl ?_
  refine hly_iadd (by rfl) rfl hk_2 (by omega) (by omega) (fun z9 ez9 => ?_)
  refine hly_sld (by rfl) hL ez9 (by omega) (by omega) (fun x10 ex10 => ?_)
  refine hlx_call (by rfl) (by rfl) (by rfl) (by rfl) (by rfl) (by rfl) (hX217 (d := 19) hA5 hN x8 x10) ?_
  rintro _ A11 ⟨hA11, y12, rfl⟩
  refine hlx_popI (by rfl) ?_
  refine hlx_goto (by rfl) ?_
  exact ih A11 (N + 72) (hJ.mono (hJ.self hA11) (by omega) (by omega)) (by rw [hA11.2.2.1.1 0 1 (by rfl), hA11.2.2.1.1 367 2 (by rfl)]; exact ht) (by omega)
theorem hlc_breakAt {L : Nat} {xs : Nat → Int32} {N : Int} {i : Int32} {A : hs_A} (hi0 : 0 ≤ i.toInt) (hi1 : i.toInt + 6 ≤ (L : Int)) (hL : L ≤ 3072) (hN0 : N ≤ 24 * i.toInt) (hA : hJ 0 N (N + 72) A A) (ht : (A.1 0 1).toInt = (A.1 367 2).toInt) (ih : ∀ (A' : hs_A) (N' : Int), hJ 0 N' (N' + 72) A' A' → (A'.1 0 1).toInt = (A'.1 367 2).toInt → N' ≤ N + 144 → hlx (L, hlS xs) 26 1472 [.ref 0, .ref 1, .ref 368, .int i] [] A') : hlx (L, hlS xs) 26 942 [.ref 0, .ref 1, .ref 368, .int i] [] A := by
  have hN : N ≤ 900000 := by omega
  refine hlx_aload_n (by rfl) rfl ?_
  refine hlx_aload_n (by rfl) rfl ?_
  refine hlx_iload_n (by rfl) rfl ?_
  refine hlx_iconst (by rfl) rfl ?_
  refine hly_iadd (by rfl) rfl hk_1 (by omega) (by omega) (fun z1 ez1 => ?_)
  refine hly_sld (by rfl) hL ez1 (by omega) (by omega) (fun x2 ex2 => ?_)
  refine hlx_call (by rfl) (by rfl) (by rfl) (by rfl) (by rfl) (by rfl) (hX106 (d := 22) hA x2) ?_
  rintro _ _ ⟨rfl, y4, rfl⟩
  refine hlx_popI (by rfl) ?_
  refine hlx_aload_n (by rfl) rfl ?_
  refine hlx_aload_n (by rfl) rfl ?_
  refine hlx_iload_n (by rfl) rfl ?_
  refine hlx_iconst (by rfl) rfl ?_
  refine hly_iadd (by rfl) rfl hk_1 (by omega) (by omega) (fun z5 ez5 => ?_)
  refine hly_sld (by rfl) hL ez5 (by omega) (by omega) (fun x6 ex6 => ?_)
  refine hlx_call (by rfl) (by rfl) (by rfl) (by rfl) (by rfl) (by rfl) (hX218 (d := 23) hA hN x6) ?_
  rintro _ A7 ⟨hA7, y8, rfl⟩
  refine hlx_popI (by rfl) ?_
  refine hlx_goto (by rfl) ?_
  exact ih A7 (N + 72) (hJ.mono (hJ.self hA7) (by omega) (by omega)) (by rw [hA7.2.2.1.1 0 1 (by rfl), hA7.2.2.1.1 367 2 (by rfl)]; exact ht) (by omega)
theorem hlc_loudest {L : Nat} {xs : Nat → Int32} {N : Int} {i : Int32} {A : hs_A} (hi0 : 0 ≤ i.toInt) (hi1 : i.toInt + 6 ≤ (L : Int)) (hL : L ≤ 3072) (hN0 : N ≤ 24 * i.toInt) (hA : hJ 0 N (N + 72) A A) (ht : (A.1 0 1).toInt = (A.1 367 2).toInt) (ih : ∀ (A' : hs_A) (N' : Int), hJ 0 N' (N' + 72) A' A' → (A'.1 0 1).toInt = (A'.1 367 2).toInt → N' ≤ N + 144 → hlx (L, hlS xs) 26 1472 [.ref 0, .ref 1, .ref 368, .int i] [] A') : hlx (L, hlS xs) 26 965 [.ref 0, .ref 1, .ref 368, .int i] [] A := by
  have hN : N ≤ 900000 := by omega
  refine hlx_aload_n (by rfl) rfl ?_
  refine hlx_aload_n (by rfl) rfl ?_
  refine hlx_iload_n (by rfl) rfl ?_
  refine hlx_iconst (by rfl) rfl ?_
  refine hly_iadd (by rfl) rfl hk_1 (by omega) (by omega) (fun z1 ez1 => ?_)
  refine hly_sld (by rfl) hL ez1 (by omega) (by omega) (fun x2 ex2 => ?_)
  refine hlx_aload_n (by rfl) rfl ?_
  refine hlx_iload_n (by rfl) rfl ?_
  refine hlx_iconst (by rfl) rfl ?_
  refine hly_iadd (by rfl) rfl hk_2 (by omega) (by omega) (fun z3 ez3 => ?_)
  refine hly_sld (by rfl) hL ez3 (by omega) (by omega) (fun x4 ex4 => ?_)
  refine hlx_call (by rfl) (by rfl) (by rfl) (by rfl) (by rfl) (by rfl) (hX108 (d := 20) hA x2 x4) ?_
  rintro _ A5 ⟨hA5, y6, rfl⟩
  refine hlx_popI (by rfl) ?_
  refine hlx_aload_n (by rfl) rfl ?_
  refine hlx_aload_n (by rfl) rfl ?_
  refine hlx_iload_n (by rfl) rfl ?_
  refine hlx_iconst (by rfl) rfl ?_
  refine hly_iadd (by rfl) rfl hk_1 (by omega) (by omega) (fun z7 ez7 => ?_)
  refine hly_sld (by rfl) hL ez7 (by omega) (by omega) (fun x8 ex8 => ?_)
  refine hlx_aload_n (by rfl) rfl ?_
  refine hlx_iload_n (by rfl) rfl ?_
  refine hlx_iconst (by rfl) rfl ?_
  refine hly_iadd (by rfl) rfl hk_2 (by omega) (by omega) (fun z9 ez9 => ?_)
  refine hly_sld (by rfl) hL ez9 (by omega) (by omega) (fun x10 ex10 => ?_)
  refine hlx_call (by rfl) (by rfl) (by rfl) (by rfl) (by rfl) (by rfl) (hX219 (d := 20) hA5 hN x8 x10) ?_
  rintro _ A11 ⟨hA11, y12, rfl⟩
  refine hlx_popI (by rfl) ?_
  refine hlx_goto (by rfl) ?_
  exact ih A11 (N + 72) (hJ.mono (hJ.self hA11) (by omega) (by omega)) (by rw [hA11.2.2.1.1 0 1 (by rfl), hA11.2.2.1.1 367 2 (by rfl)]; exact ht) (by omega)
theorem hlc_warm {L : Nat} {xs : Nat → Int32} {N : Int} {i : Int32} {A : hs_A} (hi0 : 0 ≤ i.toInt) (hi1 : i.toInt + 6 ≤ (L : Int)) (hL : L ≤ 3072) (hN0 : N ≤ 24 * i.toInt) (hA : hJ 0 N (N + 72) A A) (ht : (A.1 0 1).toInt = (A.1 367 2).toInt) (ih : ∀ (A' : hs_A) (N' : Int), hJ 0 N' (N' + 72) A' A' → (A'.1 0 1).toInt = (A'.1 367 2).toInt → N' ≤ N + 144 → hlx (L, hlS xs) 26 1472 [.ref 0, .ref 1, .ref 368, .int i] [] A') : hlx (L, hlS xs) 26 998 [.ref 0, .ref 1, .ref 368, .int i] [] A := by
  have hN : N ≤ 900000 := by omega
  refine hlx_aload_n (by rfl) rfl ?_
  refine hlx_aload_n (by rfl) rfl ?_
  refine hlx_iload_n (by rfl) rfl ?_
  refine hlx_iconst (by rfl) rfl ?_
  refine hly_iadd (by rfl) rfl hk_1 (by omega) (by omega) (fun z1 ez1 => ?_)
  refine hly_sld (by rfl) hL ez1 (by omega) (by omega) (fun x2 ex2 => ?_)
  refine hlx_call (by rfl) (by rfl) (by rfl) (by rfl) (by rfl) (by rfl) (hX110 (d := 20) hA x2) ?_
  rintro _ A3 ⟨hA3, y4, rfl⟩
  refine hlx_popI (by rfl) ?_
  refine hlx_aload_n (by rfl) rfl ?_
  refine hlx_aload_n (by rfl) rfl ?_
  refine hlx_iload_n (by rfl) rfl ?_
  refine hlx_iconst (by rfl) rfl ?_
  refine hly_iadd (by rfl) rfl hk_1 (by omega) (by omega) (fun z5 ez5 => ?_)
  refine hly_sld (by rfl) hL ez5 (by omega) (by omega) (fun x6 ex6 => ?_)
  refine hlx_call (by rfl) (by rfl) (by rfl) (by rfl) (by rfl) (by rfl) (hX220 (d := 19) hA3 hN x6) ?_
  rintro _ A7 ⟨hA7, y8, rfl⟩
  refine hlx_popI (by rfl) ?_
  refine hlx_goto (by rfl) ?_
  exact ih A7 (N + 72) (hJ.mono (hJ.self hA7) (by omega) (by omega)) (by rw [hA7.2.2.1.1 0 1 (by rfl), hA7.2.2.1.1 367 2 (by rfl)]; exact ht) (by omega)
theorem hlc_lives {L : Nat} {xs : Nat → Int32} {N : Int} {i : Int32} {A : hs_A} (hi0 : 0 ≤ i.toInt) (hi1 : i.toInt + 6 ≤ (L : Int)) (hL : L ≤ 3072) (hN0 : N ≤ 24 * i.toInt) (hA : hJ 0 N (N + 72) A A) (ht : (A.1 0 1).toInt = (A.1 367 2).toInt) (ih : ∀ (A' : hs_A) (N' : Int), hJ 0 N' (N' + 72) A' A' → (A'.1 0 1).toInt = (A'.1 367 2).toInt → N' ≤ N + 144 → hlx (L, hlS xs) 26 1472 [.ref 0, .ref 1, .ref 368, .int i] [] A') : hlx (L, hlS xs) 26 1021 [.ref 0, .ref 1, .ref 368, .int i] [] A := by
  have hN : N ≤ 900000 := by omega
  refine hlx_aload_n (by rfl) rfl ?_
  refine hlx_aload_n (by rfl) rfl ?_
  refine hlx_iload_n (by rfl) rfl ?_
  refine hlx_iconst (by rfl) rfl ?_
  refine hly_iadd (by rfl) rfl hk_1 (by omega) (by omega) (fun z1 ez1 => ?_)
  refine hly_sld (by rfl) hL ez1 (by omega) (by omega) (fun x2 ex2 => ?_)
  refine hlx_call (by rfl) (by rfl) (by rfl) (by rfl) (by rfl) (by rfl) (hX111 (d := 25) hA x2) ?_
  rintro _ _ ⟨rfl, y4, rfl⟩
  refine hlx_popI (by rfl) ?_
  refine hlx_aload_n (by rfl) rfl ?_
  refine hlx_aload_n (by rfl) rfl ?_
  refine hlx_iload_n (by rfl) rfl ?_
  refine hlx_iconst (by rfl) rfl ?_
  refine hly_iadd (by rfl) rfl hk_1 (by omega) (by omega) (fun z5 ez5 => ?_)
  refine hly_sld (by rfl) hL ez5 (by omega) (by omega) (fun x6 ex6 => ?_)
  refine hlx_call (by rfl) (by rfl) (by rfl) (by rfl) (by rfl) (by rfl) (hX221 (d := 25) hA x6) ?_
  rintro _ _ ⟨rfl, y8, rfl⟩
  refine hlx_popI (by rfl) ?_
  refine hlx_goto (by rfl) ?_
  exact ih A (N + 72) (hJ.mono (hJ.self hA) (by omega) (by omega)) (by rw [hA.2.2.1.1 0 1 (by rfl), hA.2.2.1.1 367 2 (by rfl)]; exact ht) (by omega)
theorem hlc_warmth {L : Nat} {xs : Nat → Int32} {N : Int} {i : Int32} {A : hs_A} (hi0 : 0 ≤ i.toInt) (hi1 : i.toInt + 6 ≤ (L : Int)) (hL : L ≤ 3072) (hN0 : N ≤ 24 * i.toInt) (hA : hJ 0 N (N + 72) A A) (ht : (A.1 0 1).toInt = (A.1 367 2).toInt) (ih : ∀ (A' : hs_A) (N' : Int), hJ 0 N' (N' + 72) A' A' → (A'.1 0 1).toInt = (A'.1 367 2).toInt → N' ≤ N + 144 → hlx (L, hlS xs) 26 1472 [.ref 0, .ref 1, .ref 368, .int i] [] A') : hlx (L, hlS xs) 26 1044 [.ref 0, .ref 1, .ref 368, .int i] [] A := by
  have hN : N ≤ 900000 := by omega
  refine hlx_aload_n (by rfl) rfl ?_
  refine hlx_aload_n (by rfl) rfl ?_
  refine hlx_iload_n (by rfl) rfl ?_
  refine hlx_iconst (by rfl) rfl ?_
  refine hly_iadd (by rfl) rfl hk_1 (by omega) (by omega) (fun z1 ez1 => ?_)
  refine hly_sld (by rfl) hL ez1 (by omega) (by omega) (fun x2 ex2 => ?_)
  refine hlx_call (by rfl) (by rfl) (by rfl) (by rfl) (by rfl) (by rfl) (hX112 (d := 21) hA x2) ?_
  rintro _ A3 ⟨hA3, y4, rfl⟩
  refine hlx_popI (by rfl) ?_
  refine hlx_aload_n (by rfl) rfl ?_
  refine hlx_aload_n (by rfl) rfl ?_
  refine hlx_iload_n (by rfl) rfl ?_
  refine hlx_iconst (by rfl) rfl ?_
  refine hly_iadd (by rfl) rfl hk_1 (by omega) (by omega) (fun z5 ez5 => ?_)
  refine hly_sld (by rfl) hL ez5 (by omega) (by omega) (fun x6 ex6 => ?_)
  refine hlx_call (by rfl) (by rfl) (by rfl) (by rfl) (by rfl) (by rfl) (hX222 (d := 20) hA3 hN x6) ?_
  rintro _ A7 ⟨hA7, y8, rfl⟩
  refine hlx_popI (by rfl) ?_
  refine hlx_goto (by rfl) ?_
  exact ih A7 (N + 72) (hJ.mono (hJ.self hA7) (by omega) (by omega)) (by rw [hA7.2.2.1.1 0 1 (by rfl), hA7.2.2.1.1 367 2 (by rfl)]; exact ht) (by omega)
theorem hlc_then {L : Nat} {xs : Nat → Int32} {N : Int} {i : Int32} {A : hs_A} (hi0 : 0 ≤ i.toInt) (hi1 : i.toInt + 6 ≤ (L : Int)) (hL : L ≤ 3072) (hN0 : N ≤ 24 * i.toInt) (hA : hJ 0 N (N + 72) A A) (ht : (A.1 0 1).toInt = (A.1 367 2).toInt) (ih : ∀ (A' : hs_A) (N' : Int), hJ 0 N' (N' + 72) A' A' → (A'.1 0 1).toInt = (A'.1 367 2).toInt → N' ≤ N + 144 → hlx (L, hlS xs) 26 1472 [.ref 0, .ref 1, .ref 368, .int i] [] A') : hlx (L, hlS xs) 26 1067 [.ref 0, .ref 1, .ref 368, .int i] [] A := by
  have hN : N ≤ 900000 := by omega
  refine hlx_aload_n (by rfl) rfl ?_
  refine hlx_aload_n (by rfl) rfl ?_
  refine hlx_iload_n (by rfl) rfl ?_
  refine hlx_iconst (by rfl) rfl ?_
  refine hly_iadd (by rfl) rfl hk_1 (by omega) (by omega) (fun z1 ez1 => ?_)
  refine hly_sld (by rfl) hL ez1 (by omega) (by omega) (fun x2 ex2 => ?_)
  refine hlx_aload_n (by rfl) rfl ?_
  refine hlx_iload_n (by rfl) rfl ?_
  refine hlx_iconst (by rfl) rfl ?_
  refine hly_iadd (by rfl) rfl hk_2 (by omega) (by omega) (fun z3 ez3 => ?_)
  refine hly_sld (by rfl) hL ez3 (by omega) (by omega) (fun x4 ex4 => ?_)
  refine hlx_aload_n (by rfl) rfl ?_
  refine hlx_iload_n (by rfl) rfl ?_
  refine hlx_iconst (by rfl) rfl ?_
  refine hly_iadd (by rfl) rfl hk_3 (by omega) (by omega) (fun z5 ez5 => ?_)
  refine hly_sld (by rfl) hL ez5 (by omega) (by omega) (fun x6 ex6 => ?_)
  refine hlx_call (by rfl) (by rfl) (by rfl) (by rfl) (by rfl) (by rfl) (hX113 (d := 20) hA x2 x4 x6) ?_
  rintro _ A7 ⟨hA7, y8, rfl⟩
  refine hlx_popI (by rfl) ?_
  refine hlx_aload_n (by rfl) rfl ?_
  refine hlx_aload_n (by rfl) rfl ?_
  refine hlx_iload_n (by rfl) rfl ?_
  refine hlx_iconst (by rfl) rfl ?_
  refine hly_iadd (by rfl) rfl hk_1 (by omega) (by omega) (fun z9 ez9 => ?_)
  refine hly_sld (by rfl) hL ez9 (by omega) (by omega) (fun x10 ex10 => ?_)
  refine hlx_aload_n (by rfl) rfl ?_
  refine hlx_iload_n (by rfl) rfl ?_
  refine hlx_iconst (by rfl) rfl ?_
  refine hly_iadd (by rfl) rfl hk_2 (by omega) (by omega) (fun z11 ez11 => ?_)
  refine hly_sld (by rfl) hL ez11 (by omega) (by omega) (fun x12 ex12 => ?_)
  refine hlx_aload_n (by rfl) rfl ?_
  refine hlx_iload_n (by rfl) rfl ?_
  refine hlx_iconst (by rfl) rfl ?_
  refine hly_iadd (by rfl) rfl hk_3 (by omega) (by omega) (fun z13 ez13 => ?_)
  refine hly_sld (by rfl) hL ez13 (by omega) (by omega) (fun x14 ex14 => ?_)
  refine hlx_call (by rfl) (by rfl) (by rfl) (by rfl) (by rfl) (by rfl) (hX223 (d := 19) hA7 hN x10 x12 x14) ?_
  rintro _ A15 ⟨hA15, y16, rfl⟩
  refine hlx_popI (by rfl) ?_
  refine hlx_goto (by rfl) ?_
  exact ih A15 (N + 72) (hJ.mono (hJ.self hA15) (by omega) (by omega)) (by rw [hA15.2.2.1.1 0 1 (by rfl), hA15.2.2.1.1 367 2 (by rfl)]; exact ht) (by omega)
theorem hlc_quiet {L : Nat} {xs : Nat → Int32} {N : Int} {i : Int32} {A : hs_A} (hi0 : 0 ≤ i.toInt) (hi1 : i.toInt + 6 ≤ (L : Int)) (hL : L ≤ 3072) (hN0 : N ≤ 24 * i.toInt) (hA : hJ 0 N (N + 72) A A) (ht : (A.1 0 1).toInt = (A.1 367 2).toInt) (ih : ∀ (A' : hs_A) (N' : Int), hJ 0 N' (N' + 72) A' A' → (A'.1 0 1).toInt = (A'.1 367 2).toInt → N' ≤ N + 144 → hlx (L, hlS xs) 26 1472 [.ref 0, .ref 1, .ref 368, .int i] [] A') : hlx (L, hlS xs) 26 1110 [.ref 0, .ref 1, .ref 368, .int i] [] A := by
  have hN : N ≤ 900000 := by omega
  refine hlx_aload_n (by rfl) rfl ?_
  refine hlx_aload_n (by rfl) rfl ?_
  refine hlx_iload_n (by rfl) rfl ?_
  refine hlx_iconst (by rfl) rfl ?_
  refine hly_iadd (by rfl) rfl hk_1 (by omega) (by omega) (fun z1 ez1 => ?_)
  refine hly_sld (by rfl) hL ez1 (by omega) (by omega) (fun x2 ex2 => ?_)
  refine hlx_aload_n (by rfl) rfl ?_
  refine hlx_iload_n (by rfl) rfl ?_
  refine hlx_iconst (by rfl) rfl ?_
  refine hly_iadd (by rfl) rfl hk_2 (by omega) (by omega) (fun z3 ez3 => ?_)
  refine hly_sld (by rfl) hL ez3 (by omega) (by omega) (fun x4 ex4 => ?_)
  refine hlx_call (by rfl) (by rfl) (by rfl) (by rfl) (by rfl) (by rfl) (hX114 (d := 21) hA x2 x4) ?_
  rintro _ A5 ⟨hA5, y6, rfl⟩
  refine hlx_popI (by rfl) ?_
  refine hlx_aload_n (by rfl) rfl ?_
  refine hlx_aload_n (by rfl) rfl ?_
  refine hlx_iload_n (by rfl) rfl ?_
  refine hlx_iconst (by rfl) rfl ?_
  refine hly_iadd (by rfl) rfl hk_1 (by omega) (by omega) (fun z7 ez7 => ?_)
  refine hly_sld (by rfl) hL ez7 (by omega) (by omega) (fun x8 ex8 => ?_)
  refine hlx_aload_n (by rfl) rfl ?_
  refine hlx_iload_n (by rfl) rfl ?_
  refine hlx_iconst (by rfl) rfl ?_
  refine hly_iadd (by rfl) rfl hk_2 (by omega) (by omega) (fun z9 ez9 => ?_)
  refine hly_sld (by rfl) hL ez9 (by omega) (by omega) (fun x10 ex10 => ?_)
  refine hlx_call (by rfl) (by rfl) (by rfl) (by rfl) (by rfl) (by rfl) (hX224 (d := 20) hA5 hN x8 x10) ?_
  rintro _ A11 ⟨hA11, y12, rfl⟩
  refine hlx_popI (by rfl) ?_
  refine hlx_goto (by rfl) ?_
  exact ih A11 (N + 72) (hJ.mono (hJ.self hA11) (by omega) (by omega)) (by rw [hA11.2.2.1.1 0 1 (by rfl), hA11.2.2.1.1 367 2 (by rfl)]; exact ht) (by omega)
theorem hlc_mourn {L : Nat} {xs : Nat → Int32} {N : Int} {i : Int32} {A : hs_A} (hi0 : 0 ≤ i.toInt) (hi1 : i.toInt + 6 ≤ (L : Int)) (hL : L ≤ 3072) (hN0 : N ≤ 24 * i.toInt) (hA : hJ 0 N (N + 72) A A) (ht : (A.1 0 1).toInt = (A.1 367 2).toInt) (ih : ∀ (A' : hs_A) (N' : Int), hJ 0 N' (N' + 72) A' A' → (A'.1 0 1).toInt = (A'.1 367 2).toInt → N' ≤ N + 144 → hlx (L, hlS xs) 26 1472 [.ref 0, .ref 1, .ref 368, .int i] [] A') : hlx (L, hlS xs) 26 1143 [.ref 0, .ref 1, .ref 368, .int i] [] A := by
  have hN : N ≤ 900000 := by omega
  refine hlx_aload_n (by rfl) rfl ?_
  refine hlx_aload_n (by rfl) rfl ?_
  refine hlx_iload_n (by rfl) rfl ?_
  refine hlx_iconst (by rfl) rfl ?_
  refine hly_iadd (by rfl) rfl hk_1 (by omega) (by omega) (fun z1 ez1 => ?_)
  refine hly_sld (by rfl) hL ez1 (by omega) (by omega) (fun x2 ex2 => ?_)
  refine hlx_call (by rfl) (by rfl) (by rfl) (by rfl) (by rfl) (by rfl) (hX115 (d := 20) hA x2) ?_
  rintro _ A3 ⟨hA3, y4, rfl⟩
  refine hlx_popI (by rfl) ?_
  refine hlx_aload_n (by rfl) rfl ?_
  refine hlx_aload_n (by rfl) rfl ?_
  refine hlx_iload_n (by rfl) rfl ?_
  refine hlx_iconst (by rfl) rfl ?_
  refine hly_iadd (by rfl) rfl hk_1 (by omega) (by omega) (fun z5 ez5 => ?_)
  refine hly_sld (by rfl) hL ez5 (by omega) (by omega) (fun x6 ex6 => ?_)
  refine hlx_call (by rfl) (by rfl) (by rfl) (by rfl) (by rfl) (by rfl) (hX226 (d := 19) hA3 hN x6) ?_
  rintro _ A7 ⟨hA7, y8, rfl⟩
  refine hlx_popI (by rfl) ?_
  refine hlx_goto (by rfl) ?_
  exact ih A7 (N + 72) (hJ.mono (hJ.self hA7) (by omega) (by omega)) (by rw [hA7.2.2.1.1 0 1 (by rfl), hA7.2.2.1.1 367 2 (by rfl)]; exact ht) (by omega)
theorem hlc_carryBest {L : Nat} {xs : Nat → Int32} {N : Int} {i : Int32} {A : hs_A} (hi0 : 0 ≤ i.toInt) (hi1 : i.toInt + 6 ≤ (L : Int)) (hL : L ≤ 3072) (hN0 : N ≤ 24 * i.toInt) (hA : hJ 0 N (N + 72) A A) (ht : (A.1 0 1).toInt = (A.1 367 2).toInt) (ih : ∀ (A' : hs_A) (N' : Int), hJ 0 N' (N' + 72) A' A' → (A'.1 0 1).toInt = (A'.1 367 2).toInt → N' ≤ N + 144 → hlx (L, hlS xs) 26 1472 [.ref 0, .ref 1, .ref 368, .int i] [] A') : hlx (L, hlS xs) 26 1166 [.ref 0, .ref 1, .ref 368, .int i] [] A := by
  have hN : N ≤ 900000 := by omega
  refine hlx_aload_n (by rfl) rfl ?_
  refine hlx_aload_n (by rfl) rfl ?_
  refine hlx_iload_n (by rfl) rfl ?_
  refine hlx_iconst (by rfl) rfl ?_
  refine hly_iadd (by rfl) rfl hk_1 (by omega) (by omega) (fun z1 ez1 => ?_)
  refine hly_sld (by rfl) hL ez1 (by omega) (by omega) (fun x2 ex2 => ?_)
  refine hlx_call (by rfl) (by rfl) (by rfl) (by rfl) (by rfl) (by rfl) (hX116 (d := 24) hA x2) ?_
  rintro _ _ ⟨rfl, y4, rfl⟩
  refine hlx_popI (by rfl) ?_
  refine hlx_aload_n (by rfl) rfl ?_
  refine hlx_aload_n (by rfl) rfl ?_
  refine hlx_iload_n (by rfl) rfl ?_
  refine hlx_iconst (by rfl) rfl ?_
  refine hly_iadd (by rfl) rfl hk_1 (by omega) (by omega) (fun z5 ez5 => ?_)
  refine hly_sld (by rfl) hL ez5 (by omega) (by omega) (fun x6 ex6 => ?_)
  refine hlx_call (by rfl) (by rfl) (by rfl) (by rfl) (by rfl) (by rfl) (hX227 (d := 24) hA x6) ?_
  rintro _ _ ⟨rfl, y8, rfl⟩
  refine hlx_popI (by rfl) ?_
  refine hlx_goto (by rfl) ?_
  exact ih A (N + 72) (hJ.mono (hJ.self hA) (by omega) (by omega)) (by rw [hA.2.2.1.1 0 1 (by rfl), hA.2.2.1.1 367 2 (by rfl)]; exact ht) (by omega)
theorem hlc_needs {L : Nat} {xs : Nat → Int32} {N : Int} {i : Int32} {A : hs_A} (hi0 : 0 ≤ i.toInt) (hi1 : i.toInt + 6 ≤ (L : Int)) (hL : L ≤ 3072) (hN0 : N ≤ 24 * i.toInt) (hA : hJ 0 N (N + 72) A A) (ht : (A.1 0 1).toInt = (A.1 367 2).toInt) (ih : ∀ (A' : hs_A) (N' : Int), hJ 0 N' (N' + 72) A' A' → (A'.1 0 1).toInt = (A'.1 367 2).toInt → N' ≤ N + 144 → hlx (L, hlS xs) 26 1472 [.ref 0, .ref 1, .ref 368, .int i] [] A') : hlx (L, hlS xs) 26 1189 [.ref 0, .ref 1, .ref 368, .int i] [] A := by
  have hN : N ≤ 900000 := by omega
  refine hlx_aload_n (by rfl) rfl ?_
  refine hlx_aload_n (by rfl) rfl ?_
  refine hlx_iload_n (by rfl) rfl ?_
  refine hlx_iconst (by rfl) rfl ?_
  refine hly_iadd (by rfl) rfl hk_1 (by omega) (by omega) (fun z1 ez1 => ?_)
  refine hly_sld (by rfl) hL ez1 (by omega) (by omega) (fun x2 ex2 => ?_)
  refine hlx_call (by rfl) (by rfl) (by rfl) (by rfl) (by rfl) (by rfl) (hX117 (d := 24) hA x2) ?_
  rintro _ _ ⟨rfl, y4, rfl⟩
  refine hlx_popI (by rfl) ?_
  refine hlx_aload_n (by rfl) rfl ?_
  refine hlx_aload_n (by rfl) rfl ?_
  refine hlx_iload_n (by rfl) rfl ?_
  refine hlx_iconst (by rfl) rfl ?_
  refine hly_iadd (by rfl) rfl hk_1 (by omega) (by omega) (fun z5 ez5 => ?_)
  refine hly_sld (by rfl) hL ez5 (by omega) (by omega) (fun x6 ex6 => ?_)
  refine hlx_call (by rfl) (by rfl) (by rfl) (by rfl) (by rfl) (by rfl) (hX228 (d := 23) hA x6) ?_
  rintro _ _ ⟨rfl, y8, rfl⟩
  refine hlx_popI (by rfl) ?_
  refine hlx_goto (by rfl) ?_
  exact ih A (N + 72) (hJ.mono (hJ.self hA) (by omega) (by omega)) (by rw [hA.2.2.1.1 0 1 (by rfl), hA.2.2.1.1 367 2 (by rfl)]; exact ht) (by omega)
theorem hlc_changeBest {L : Nat} {xs : Nat → Int32} {N : Int} {i : Int32} {A : hs_A} (hi0 : 0 ≤ i.toInt) (hi1 : i.toInt + 6 ≤ (L : Int)) (hL : L ≤ 3072) (hN0 : N ≤ 24 * i.toInt) (hA : hJ 0 N (N + 72) A A) (ht : (A.1 0 1).toInt = (A.1 367 2).toInt) (ih : ∀ (A' : hs_A) (N' : Int), hJ 0 N' (N' + 72) A' A' → (A'.1 0 1).toInt = (A'.1 367 2).toInt → N' ≤ N + 144 → hlx (L, hlS xs) 26 1472 [.ref 0, .ref 1, .ref 368, .int i] [] A') : hlx (L, hlS xs) 26 1212 [.ref 0, .ref 1, .ref 368, .int i] [] A := by
  have hN : N ≤ 900000 := by omega
  refine hlx_aload_n (by rfl) rfl ?_
  refine hlx_aload_n (by rfl) rfl ?_
  refine hlx_iload_n (by rfl) rfl ?_
  refine hlx_iconst (by rfl) rfl ?_
  refine hly_iadd (by rfl) rfl hk_1 (by omega) (by omega) (fun z1 ez1 => ?_)
  refine hly_sld (by rfl) hL ez1 (by omega) (by omega) (fun x2 ex2 => ?_)
  refine hlx_call (by rfl) (by rfl) (by rfl) (by rfl) (by rfl) (by rfl) (hX118 (d := 20) hA x2) ?_
  rintro _ A3 ⟨hA3, y4, rfl⟩
  refine hlx_popI (by rfl) ?_
  refine hlx_aload_n (by rfl) rfl ?_
  refine hlx_aload_n (by rfl) rfl ?_
  refine hlx_iload_n (by rfl) rfl ?_
  refine hlx_iconst (by rfl) rfl ?_
  refine hly_iadd (by rfl) rfl hk_1 (by omega) (by omega) (fun z5 ez5 => ?_)
  refine hly_sld (by rfl) hL ez5 (by omega) (by omega) (fun x6 ex6 => ?_)
  refine hlx_call (by rfl) (by rfl) (by rfl) (by rfl) (by rfl) (by rfl) (hX229 (d := 19) hA3 hN x6) ?_
  rintro _ A7 ⟨hA7, y8, rfl⟩
  refine hlx_popI (by rfl) ?_
  refine hlx_goto (by rfl) ?_
  exact ih A7 (N + 72) (hJ.mono (hJ.self hA7) (by omega) (by omega)) (by rw [hA7.2.2.1.1 0 1 (by rfl), hA7.2.2.1.1 367 2 (by rfl)]; exact ht) (by omega)
theorem hlc_off {L : Nat} {xs : Nat → Int32} {N : Int} {i : Int32} {A : hs_A} (hi0 : 0 ≤ i.toInt) (hi1 : i.toInt + 6 ≤ (L : Int)) (hL : L ≤ 3072) (hN0 : N ≤ 24 * i.toInt) (hA : hJ 0 N (N + 72) A A) (ht : (A.1 0 1).toInt = (A.1 367 2).toInt) (ih : ∀ (A' : hs_A) (N' : Int), hJ 0 N' (N' + 72) A' A' → (A'.1 0 1).toInt = (A'.1 367 2).toInt → N' ≤ N + 144 → hlx (L, hlS xs) 26 1472 [.ref 0, .ref 1, .ref 368, .int i] [] A') : hlx (L, hlS xs) 26 1235 [.ref 0, .ref 1, .ref 368, .int i] [] A := by
  have hN : N ≤ 900000 := by omega
  refine hlx_aload_n (by rfl) rfl ?_
  refine hlx_aload_n (by rfl) rfl ?_
  refine hlx_iload_n (by rfl) rfl ?_
  refine hlx_iconst (by rfl) rfl ?_
  refine hly_iadd (by rfl) rfl hk_1 (by omega) (by omega) (fun z1 ez1 => ?_)
  refine hly_sld (by rfl) hL ez1 (by omega) (by omega) (fun x2 ex2 => ?_)
  refine hlx_call (by rfl) (by rfl) (by rfl) (by rfl) (by rfl) (by rfl) (hX120 (d := 24) hA x2) ?_
  rintro _ _ ⟨rfl, y4, rfl⟩
  refine hlx_popI (by rfl) ?_
  refine hlx_aload_n (by rfl) rfl ?_
  refine hlx_aload_n (by rfl) rfl ?_
  refine hlx_iload_n (by rfl) rfl ?_
  refine hlx_iconst (by rfl) rfl ?_
  refine hly_iadd (by rfl) rfl hk_1 (by omega) (by omega) (fun z5 ez5 => ?_)
  refine hly_sld (by rfl) hL ez5 (by omega) (by omega) (fun x6 ex6 => ?_)
  refine hlx_call (by rfl) (by rfl) (by rfl) (by rfl) (by rfl) (by rfl) (hX230 (d := 23) hA x6) ?_
  rintro _ _ ⟨rfl, y8, rfl⟩
  refine hlx_popI (by rfl) ?_
  refine hlx_goto (by rfl) ?_
  exact ih A (N + 72) (hJ.mono (hJ.self hA) (by omega) (by omega)) (by rw [hA.2.2.1.1 0 1 (by rfl), hA.2.2.1.1 367 2 (by rfl)]; exact ht) (by omega)
theorem hlc_year {L : Nat} {xs : Nat → Int32} {N : Int} {i : Int32} {A : hs_A} (hi0 : 0 ≤ i.toInt) (hi1 : i.toInt + 6 ≤ (L : Int)) (hL : L ≤ 3072) (hN0 : N ≤ 24 * i.toInt) (hA : hJ 0 N (N + 72) A A) (ht : (A.1 0 1).toInt = (A.1 367 2).toInt) (ih : ∀ (A' : hs_A) (N' : Int), hJ 0 N' (N' + 72) A' A' → (A'.1 0 1).toInt = (A'.1 367 2).toInt → N' ≤ N + 144 → hlx (L, hlS xs) 26 1472 [.ref 0, .ref 1, .ref 368, .int i] [] A') : hlx (L, hlS xs) 26 1258 [.ref 0, .ref 1, .ref 368, .int i] [] A := by
  have hN : N ≤ 900000 := by omega
  refine hlx_aload_n (by rfl) rfl ?_
  refine hlx_aload_n (by rfl) rfl ?_
  refine hlx_iload_n (by rfl) rfl ?_
  refine hlx_iconst (by rfl) rfl ?_
  refine hly_iadd (by rfl) rfl hk_1 (by omega) (by omega) (fun z1 ez1 => ?_)
  refine hly_sld (by rfl) hL ez1 (by omega) (by omega) (fun x2 ex2 => ?_)
  refine hlx_aload_n (by rfl) rfl ?_
  refine hlx_iload_n (by rfl) rfl ?_
  refine hlx_iconst (by rfl) rfl ?_
  refine hly_iadd (by rfl) rfl hk_2 (by omega) (by omega) (fun z3 ez3 => ?_)
  refine hly_sld (by rfl) hL ez3 (by omega) (by omega) (fun x4 ex4 => ?_)
  refine hlx_aload_n (by rfl) rfl ?_
  refine hlx_iload_n (by rfl) rfl ?_
  refine hlx_iconst (by rfl) rfl ?_
  refine hly_iadd (by rfl) rfl hk_3 (by omega) (by omega) (fun z5 ez5 => ?_)
  refine hly_sld (by rfl) hL ez5 (by omega) (by omega) (fun x6 ex6 => ?_)
  refine hlx_call (by rfl) (by rfl) (by rfl) (by rfl) (by rfl) (by rfl) (hX121 (d := 20) hA x2 x4 x6) ?_
  rintro _ A7 ⟨hA7, y8, rfl⟩
  refine hlx_popI (by rfl) ?_
  refine hlx_aload_n (by rfl) rfl ?_
  refine hlx_aload_n (by rfl) rfl ?_
  refine hlx_iload_n (by rfl) rfl ?_
  refine hlx_iconst (by rfl) rfl ?_
  refine hly_iadd (by rfl) rfl hk_1 (by omega) (by omega) (fun z9 ez9 => ?_)
  refine hly_sld (by rfl) hL ez9 (by omega) (by omega) (fun x10 ex10 => ?_)
  refine hlx_aload_n (by rfl) rfl ?_
  refine hlx_iload_n (by rfl) rfl ?_
  refine hlx_iconst (by rfl) rfl ?_
  refine hly_iadd (by rfl) rfl hk_2 (by omega) (by omega) (fun z11 ez11 => ?_)
  refine hly_sld (by rfl) hL ez11 (by omega) (by omega) (fun x12 ex12 => ?_)
  refine hlx_aload_n (by rfl) rfl ?_
  refine hlx_iload_n (by rfl) rfl ?_
  refine hlx_iconst (by rfl) rfl ?_
  refine hly_iadd (by rfl) rfl hk_3 (by omega) (by omega) (fun z13 ez13 => ?_)
  refine hly_sld (by rfl) hL ez13 (by omega) (by omega) (fun x14 ex14 => ?_)
  refine hlx_call (by rfl) (by rfl) (by rfl) (by rfl) (by rfl) (by rfl) (hX231 (d := 19) hA7 hN x10 x12 x14) ?_
  rintro _ A15 ⟨hA15, y16, rfl⟩
  refine hlx_popI (by rfl) ?_
  refine hlx_goto (by rfl) ?_
  exact ih A15 (N + 72) (hJ.mono (hJ.self hA15) (by omega) (by omega)) (by rw [hA15.2.2.1.1 0 1 (by rfl), hA15.2.2.1.1 367 2 (by rfl)]; exact ht) (by omega)
theorem hlc_tell {L : Nat} {xs : Nat → Int32} {N : Int} {i : Int32} {A : hs_A} (hi0 : 0 ≤ i.toInt) (hi1 : i.toInt + 6 ≤ (L : Int)) (hL : L ≤ 3072) (hN0 : N ≤ 24 * i.toInt) (hA : hJ 0 N (N + 72) A A) (ht : (A.1 0 1).toInt = (A.1 367 2).toInt) (ih : ∀ (A' : hs_A) (N' : Int), hJ 0 N' (N' + 72) A' A' → (A'.1 0 1).toInt = (A'.1 367 2).toInt → N' ≤ N + 144 → hlx (L, hlS xs) 26 1472 [.ref 0, .ref 1, .ref 368, .int i] [] A') : hlx (L, hlS xs) 26 1301 [.ref 0, .ref 1, .ref 368, .int i] [] A := by
  have hN : N ≤ 900000 := by omega
  refine hlx_aload_n (by rfl) rfl ?_
  refine hlx_aload_n (by rfl) rfl ?_
  refine hlx_iload_n (by rfl) rfl ?_
  refine hlx_iconst (by rfl) rfl ?_
  refine hly_iadd (by rfl) rfl hk_1 (by omega) (by omega) (fun z1 ez1 => ?_)
  refine hly_sld (by rfl) hL ez1 (by omega) (by omega) (fun x2 ex2 => ?_)
  refine hlx_aload_n (by rfl) rfl ?_
  refine hlx_iload_n (by rfl) rfl ?_
  refine hlx_iconst (by rfl) rfl ?_
  refine hly_iadd (by rfl) rfl hk_2 (by omega) (by omega) (fun z3 ez3 => ?_)
  refine hly_sld (by rfl) hL ez3 (by omega) (by omega) (fun x4 ex4 => ?_)
  refine hlx_call (by rfl) (by rfl) (by rfl) (by rfl) (by rfl) (by rfl) (hX122 (d := 24) hA x2 x4) ?_
  rintro _ A5 ⟨hA5, y6, rfl⟩
  refine hlx_popI (by rfl) ?_
  refine hlx_aload_n (by rfl) rfl ?_
  refine hlx_aload_n (by rfl) rfl ?_
  refine hlx_iload_n (by rfl) rfl ?_
  refine hlx_iconst (by rfl) rfl ?_
  refine hly_iadd (by rfl) rfl hk_1 (by omega) (by omega) (fun z7 ez7 => ?_)
  refine hly_sld (by rfl) hL ez7 (by omega) (by omega) (fun x8 ex8 => ?_)
  refine hlx_aload_n (by rfl) rfl ?_
  refine hlx_iload_n (by rfl) rfl ?_
  refine hlx_iconst (by rfl) rfl ?_
  refine hly_iadd (by rfl) rfl hk_2 (by omega) (by omega) (fun z9 ez9 => ?_)
  refine hly_sld (by rfl) hL ez9 (by omega) (by omega) (fun x10 ex10 => ?_)
  refine hlx_call (by rfl) (by rfl) (by rfl) (by rfl) (by rfl) (by rfl) (hX232 (d := 23) hA5 hN x8 x10) ?_
  rintro _ A11 ⟨hA11, y12, rfl⟩
  refine hlx_popI (by rfl) ?_
  refine hlx_goto (by rfl) ?_
  exact ih A11 (N + 72) (hJ.mono (hJ.self hA11) (by omega) (by omega)) (by rw [hA11.2.2.1.1 0 1 (by rfl), hA11.2.2.1.1 367 2 (by rfl)]; exact ht) (by omega)
theorem hlc_forget {L : Nat} {xs : Nat → Int32} {N : Int} {i : Int32} {A : hs_A} (hi0 : 0 ≤ i.toInt) (hi1 : i.toInt + 6 ≤ (L : Int)) (hL : L ≤ 3072) (hN0 : N ≤ 24 * i.toInt) (hA : hJ 0 N (N + 72) A A) (ht : (A.1 0 1).toInt = (A.1 367 2).toInt) (ih : ∀ (A' : hs_A) (N' : Int), hJ 0 N' (N' + 72) A' A' → (A'.1 0 1).toInt = (A'.1 367 2).toInt → N' ≤ N + 144 → hlx (L, hlS xs) 26 1472 [.ref 0, .ref 1, .ref 368, .int i] [] A') : hlx (L, hlS xs) 26 1334 [.ref 0, .ref 1, .ref 368, .int i] [] A := by
  have hN : N ≤ 900000 := by omega
  refine hlx_aload_n (by rfl) rfl ?_
  refine hlx_call (by rfl) (by rfl) (by rfl) (by rfl) (by rfl) (by rfl) (hX123 (d := 25) hA ) ?_
  rintro _ A1 ⟨hA1, y2, rfl⟩
  refine hlx_popI (by rfl) ?_
  refine hlx_aload_n (by rfl) rfl ?_
  refine hlx_call (by rfl) (by rfl) (by rfl) (by rfl) (by rfl) (by rfl) (hX233 (d := 25) hA1 hN ) ?_
  rintro _ A3 ⟨hA3, y4, rfl⟩
  refine hlx_popI (by rfl) ?_
  refine hlx_goto (by rfl) ?_
  exact ih A3 (N + 72) (hJ.mono (hJ.self hA3) (by omega) (by omega)) (by rw [hA3.2.2.1.1 0 1 (by rfl), hA3.2.2.1.1 367 2 (by rfl)]; exact ht) (by omega)
theorem hlc_sent {L : Nat} {xs : Nat → Int32} {N : Int} {i : Int32} {A : hs_A} (hi0 : 0 ≤ i.toInt) (hi1 : i.toInt + 6 ≤ (L : Int)) (hL : L ≤ 3072) (hN0 : N ≤ 24 * i.toInt) (hA : hJ 0 N (N + 72) A A) (ht : (A.1 0 1).toInt = (A.1 367 2).toInt) (ih : ∀ (A' : hs_A) (N' : Int), hJ 0 N' (N' + 72) A' A' → (A'.1 0 1).toInt = (A'.1 367 2).toInt → N' ≤ N + 144 → hlx (L, hlS xs) 26 1472 [.ref 0, .ref 1, .ref 368, .int i] [] A') : hlx (L, hlS xs) 26 1347 [.ref 0, .ref 1, .ref 368, .int i] [] A := by
  have hN : N ≤ 900000 := by omega
  refine hlx_aload_n (by rfl) rfl ?_
  refine hlx_aload_n (by rfl) rfl ?_
  refine hlx_iload_n (by rfl) rfl ?_
  refine hlx_iconst (by rfl) rfl ?_
  refine hly_iadd (by rfl) rfl hk_1 (by omega) (by omega) (fun z1 ez1 => ?_)
  refine hly_sld (by rfl) hL ez1 (by omega) (by omega) (fun x2 ex2 => ?_)
  refine hlx_aload_n (by rfl) rfl ?_
  refine hlx_iload_n (by rfl) rfl ?_
  refine hlx_iconst (by rfl) rfl ?_
  refine hly_iadd (by rfl) rfl hk_2 (by omega) (by omega) (fun z3 ez3 => ?_)
  refine hly_sld (by rfl) hL ez3 (by omega) (by omega) (fun x4 ex4 => ?_)
  refine hlx_call (by rfl) (by rfl) (by rfl) (by rfl) (by rfl) (by rfl) (hX125 (d := 18) hA x2 x4) ?_
  rintro _ A5 ⟨hA5, y6, rfl⟩
  refine hlx_popI (by rfl) ?_
  refine hlx_aload_n (by rfl) rfl ?_
  refine hlx_aload_n (by rfl) rfl ?_
  refine hlx_iload_n (by rfl) rfl ?_
  refine hlx_iconst (by rfl) rfl ?_
  refine hly_iadd (by rfl) rfl hk_1 (by omega) (by omega) (fun z7 ez7 => ?_)
  refine hly_sld (by rfl) hL ez7 (by omega) (by omega) (fun x8 ex8 => ?_)
  refine hlx_aload_n (by rfl) rfl ?_
  refine hlx_iload_n (by rfl) rfl ?_
  refine hlx_iconst (by rfl) rfl ?_
  refine hly_iadd (by rfl) rfl hk_2 (by omega) (by omega) (fun z9 ez9 => ?_)
  refine hly_sld (by rfl) hL ez9 (by omega) (by omega) (fun x10 ex10 => ?_)
  refine hlx_call (by rfl) (by rfl) (by rfl) (by rfl) (by rfl) (by rfl) (hX235 (d := 18) hA5 hN x8 x10) ?_
  rintro _ A11 ⟨hA11, y12, rfl⟩
  refine hlx_popI (by rfl) ?_
  refine hlx_goto (by rfl) ?_
  exact ih A11 (N + 72) (hJ.mono (hJ.self hA11) (by omega) (by omega)) (by rw [hA11.2.2.1.1 0 1 (by rfl), hA11.2.2.1.1 367 2 (by rfl)]; exact ht) (by omega)
theorem hlc_listen {L : Nat} {xs : Nat → Int32} {N : Int} {i : Int32} {A : hs_A} (hi0 : 0 ≤ i.toInt) (hi1 : i.toInt + 6 ≤ (L : Int)) (hL : L ≤ 3072) (hN0 : N ≤ 24 * i.toInt) (hA : hJ 0 N (N + 72) A A) (ht : (A.1 0 1).toInt = (A.1 367 2).toInt) (ih : ∀ (A' : hs_A) (N' : Int), hJ 0 N' (N' + 72) A' A' → (A'.1 0 1).toInt = (A'.1 367 2).toInt → N' ≤ N + 144 → hlx (L, hlS xs) 26 1472 [.ref 0, .ref 1, .ref 368, .int i] [] A') : hlx (L, hlS xs) 26 1380 [.ref 0, .ref 1, .ref 368, .int i] [] A := by
  have hN : N ≤ 900000 := by omega
  refine hlx_aload_n (by rfl) rfl ?_
  refine hlx_aload_n (by rfl) rfl ?_
  refine hlx_iload_n (by rfl) rfl ?_
  refine hlx_iconst (by rfl) rfl ?_
  refine hly_iadd (by rfl) rfl hk_1 (by omega) (by omega) (fun z1 ez1 => ?_)
  refine hly_sld (by rfl) hL ez1 (by omega) (by omega) (fun x2 ex2 => ?_)
  refine hlx_call (by rfl) (by rfl) (by rfl) (by rfl) (by rfl) (by rfl) (hX126 (d := 18) hA x2) ?_
  rintro _ A3 ⟨hA3, y4, rfl⟩
  refine hlx_popI (by rfl) ?_
  refine hlx_aload_n (by rfl) rfl ?_
  refine hlx_aload_n (by rfl) rfl ?_
  refine hlx_iload_n (by rfl) rfl ?_
  refine hlx_iconst (by rfl) rfl ?_
  refine hly_iadd (by rfl) rfl hk_1 (by omega) (by omega) (fun z5 ez5 => ?_)
  refine hly_sld (by rfl) hL ez5 (by omega) (by omega) (fun x6 ex6 => ?_)
  refine hlx_call (by rfl) (by rfl) (by rfl) (by rfl) (by rfl) (by rfl) (hX237 (d := 18) hA3 hN x6) ?_
  rintro _ A7 ⟨hA7, y8, rfl⟩
  refine hlx_popI (by rfl) ?_
  refine hlx_goto (by rfl) ?_
  exact ih A7 (N + 72) (hJ.mono (hJ.self hA7) (by omega) (by omega)) (by rw [hA7.2.2.1.1 0 1 (by rfl), hA7.2.2.1.1 367 2 (by rfl)]; exact ht) (by omega)
theorem hlc_restore {L : Nat} {xs : Nat → Int32} {N : Int} {i : Int32} {A : hs_A} (hi0 : 0 ≤ i.toInt) (hi1 : i.toInt + 6 ≤ (L : Int)) (hL : L ≤ 3072) (hN0 : N ≤ 24 * i.toInt) (hA : hJ 0 N (N + 72) A A) (ht : (A.1 0 1).toInt = (A.1 367 2).toInt) (ih : ∀ (A' : hs_A) (N' : Int), hJ 0 N' (N' + 72) A' A' → (A'.1 0 1).toInt = (A'.1 367 2).toInt → N' ≤ N + 144 → hlx (L, hlS xs) 26 1472 [.ref 0, .ref 1, .ref 368, .int i] [] A') : hlx (L, hlS xs) 26 1426 [.ref 0, .ref 1, .ref 368, .int i] [] A := by
  have hN : N ≤ 900000 := by omega
  refine hlx_aload_n (by rfl) rfl ?_
  refine hlx_aload_n (by rfl) rfl ?_
  refine hlx_iload_n (by rfl) rfl ?_
  refine hlx_iconst (by rfl) rfl ?_
  refine hly_iadd (by rfl) rfl hk_1 (by omega) (by omega) (fun z1 ez1 => ?_)
  refine hly_sld (by rfl) hL ez1 (by omega) (by omega) (fun x2 ex2 => ?_)
  refine hlx_call (by rfl) (by rfl) (by rfl) (by rfl) (by rfl) (by rfl) (hX129 (d := 24) hA x2) ?_
  rintro _ A3 ⟨hA3, y4, rfl, _⟩
  refine hlx_popI (by rfl) ?_
  refine hlx_aload_n (by rfl) rfl ?_
  refine hlx_aload_n (by rfl) rfl ?_
  refine hlx_iload_n (by rfl) rfl ?_
  refine hlx_iconst (by rfl) rfl ?_
  refine hly_iadd (by rfl) rfl hk_1 (by omega) (by omega) (fun z5 ez5 => ?_)
  refine hly_sld (by rfl) hL ez5 (by omega) (by omega) (fun x6 ex6 => ?_)
  refine hlx_call (by rfl) (by rfl) (by rfl) (by rfl) (by rfl) (by rfl) (hX239 (d := 24) hA3 hN x6) ?_
  rintro _ A7 ⟨hA7, y8, rfl, _⟩
  refine hlx_popI (by rfl) ?_
  refine hlx_goto (by rfl) ?_
  exact ih A7 (N + 72) (hJ.mono (hJ.self hA7) (by omega) (by omega)) (by rw [hA7.2.2.1.1 0 1 (by rfl), hA7.2.2.1.1 367 2 (by rfl)]; exact ht) (by omega)
theorem hlc_count {L : Nat} {xs : Nat → Int32} {N : Int} {i : Int32} {A : hs_A} (hi0 : 0 ≤ i.toInt) (hi1 : i.toInt + 6 ≤ (L : Int)) (hL : L ≤ 3072) (hN0 : N ≤ 24 * i.toInt) (hA : hJ 0 N (N + 72) A A) (ht : (A.1 0 1).toInt = (A.1 367 2).toInt) (ih : ∀ (A' : hs_A) (N' : Int), hJ 0 N' (N' + 72) A' A' → (A'.1 0 1).toInt = (A'.1 367 2).toInt → N' ≤ N + 144 → hlx (L, hlS xs) 26 1472 [.ref 0, .ref 1, .ref 368, .int i] [] A') : hlx (L, hlS xs) 26 1449 [.ref 0, .ref 1, .ref 368, .int i] [] A := by
  have hN : N ≤ 900000 := by omega
  refine hlx_aload_n (by rfl) rfl ?_
  refine hlx_aload_n (by rfl) rfl ?_
  refine hlx_iload_n (by rfl) rfl ?_
  refine hlx_iconst (by rfl) rfl ?_
  refine hly_iadd (by rfl) rfl hk_1 (by omega) (by omega) (fun z1 ez1 => ?_)
  refine hly_sld (by rfl) hL ez1 (by omega) (by omega) (fun x2 ex2 => ?_)
  refine hlx_call (by rfl) (by rfl) (by rfl) (by rfl) (by rfl) (by rfl) (hX130 (d := 23) hA x2) ?_
  rintro _ _ ⟨rfl, y4, rfl⟩
  refine hlx_popI (by rfl) ?_
  refine hlx_aload_n (by rfl) rfl ?_
  refine hlx_aload_n (by rfl) rfl ?_
  refine hlx_iload_n (by rfl) rfl ?_
  refine hlx_iconst (by rfl) rfl ?_
  refine hly_iadd (by rfl) rfl hk_1 (by omega) (by omega) (fun z5 ez5 => ?_)
  refine hly_sld (by rfl) hL ez5 (by omega) (by omega) (fun x6 ex6 => ?_)
  refine hlx_call (by rfl) (by rfl) (by rfl) (by rfl) (by rfl) (by rfl) (hX241 (d := 23) hA hN x6) ?_
  rintro _ A7 ⟨hA7, y8, rfl⟩
  refine hlx_popI (by rfl) ?_
  refine hlx_goto (by rfl) ?_
  exact ih A7 (N + 72) (hJ.mono (hJ.self hA7) (by omega) (by omega)) (by rw [hA7.2.2.1.1 0 1 (by rfl), hA7.2.2.1.1 367 2 (by rfl)]; exact ht) (by omega)
