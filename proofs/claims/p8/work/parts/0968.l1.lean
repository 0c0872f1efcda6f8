/-! THE CLASS'S READ, WITH WHAT IT TELLS -/
theorem hs_vis_sy {A A' : hs_A} (h : hs_vis A A') : hs_vis A' A := by
  obtain ⟨hh, h1, h2⟩ := h
  exact ⟨hh, h2, h1⟩
theorem hs_beqn {a b : Nat} (h : ¬ a = b) : Nat.beq a b = false := by
  cases q : Nat.beq a b with
  | false => rfl
  | true => exact absurd (Nat.eq_of_beq_eq_true q) h
theorem hpar_hi2 {i k : Nat} (h : 26 ≤ i ∨ 11 ≤ i ∧ i ≤ 19) : hpar 2 i k = false := by
  have e1 : Nat.beq i 20 = false := hs_beqn (by omega)
  have e2 : Nat.beq i 21 = false := hs_beqn (by omega)
  have e3 : Nat.beq i 2 = false := hs_beqn (by omega)
  have e4 : Nat.beq i (2 + 4) = false := hs_beqn (by omega)
  unfold hpar
  rw [e1, e2, e3, e4]
  rfl
theorem hpar_hi11 {i k : Nat} (h : 26 ≤ i ∨ 2 ≤ i ∧ i ≤ 10) : hpar 11 i k = false := by
  have e1 : Nat.beq i 20 = false := hs_beqn (by omega)
  have e2 : Nat.beq i 21 = false := hs_beqn (by omega)
  have e3 : Nat.beq i 11 = false := hs_beqn (by omega)
  have e4 : Nat.beq i (11 + 4) = false := hs_beqn (by omega)
  unfold hpar
  rw [e1, e2, e3, e4]
  rfl
theorem hpara_hi2 {i : Nat} (h : 26 ≤ i ∨ 11 ≤ i ∧ i ≤ 19) : hpara 2 i = false := by
  have e1 : Nat.beq i 22 = false := hs_beqn (by omega)
  have e2 : Nat.beq i 24 = false := hs_beqn (by omega)
  have e3 : Nat.ble i (2 + 8) = false := by
    cases q : Nat.ble i (2 + 8) with
    | false => rfl
    | true => exact absurd (Nat.le_of_ble_eq_true q) (by omega)
  unfold hpara
  rw [e1, e2, e3]
  simp
theorem hpara_hi11 {i : Nat} (h : 26 ≤ i ∨ 2 ≤ i ∧ i ≤ 10) : hpara 11 i = false := by
  have e1 : Nat.beq i 22 = false := hs_beqn (by omega)
  have e2 : Nat.beq i 24 = false := hs_beqn (by omega)
  unfold hpara
  rw [e1, e2]
  rcases h with h | h
  · have e3 : Nat.ble i (11 + 8) = false := by
      cases q : Nat.ble i (11 + 8) with
      | false => rfl
      | true => exact absurd (Nat.le_of_ble_eq_true q) (by omega)
    rw [e3]
    simp
  · have e3 : Nat.ble (11 + 1) i = false := by
      cases q : Nat.ble (11 + 1) i with
      | false => rfl
      | true => exact absurd (Nat.le_of_ble_eq_true q) (by omega)
    rw [e3]
    simp
theorem hBg.mv {T : Nat} {A A' B B' : hs_A} (h : hBg T A A') (e1 : ∀ k, k ≤ 10 → B'.1 26 k = A'.1 26 k) (e2 : B'.2.1 = A'.2.1) (f1 : B.1 = A.1) (f2 : B.2.1 = A.2.1) : hBg T B B' := by
  obtain ⟨⟨a1, a2, a3, a4, a5⟩, b⟩ := h
  refine ⟨⟨by rw [e1 6 (by omega), f1]; exact a1, by rw [e1 7 (by omega)]; exact a2, by rw [e1 8 (by omega)]; exact a3, by rw [e1 9 (by omega), f1]; exact a4, by rw [e1 10 (by omega)]; exact a5⟩, fun x hx => ?_⟩
  rw [e2, f2]
  exact b x hx
theorem hBg.to {W T : Nat} {A A' : hs_A} (h : hBg T A A') (hT : hTT T) (w : uf_W W A A') (e : hdG W = true) : hBg T A' A' := by
  obtain ⟨⟨a1, a2, a3, a4, a5⟩, b⟩ := h
  have t4 := hdT4 w hT e
  have g2 := (hdG.get e).2
  refine ⟨⟨by rw [t4]; exact a1, a2, a3, by rw [t4]; exact a4, a5⟩, fun x hx => ?_⟩
  obtain ⟨⟨b1, b2, b3⟩, b4⟩ := b x hx
  have r : A'.2.1 (T + 1) x = A.2.1 (T + 1) x ∧ A'.2.1 (T + 2) x = A.2.1 (T + 2) x := by
    rcases hT with rfl | rfl
    · exact ⟨w.2.1 3 _ _ x rfl hx (g2 _ (by decide)), w.2.1 4 _ _ x rfl hx (g2 _ (by decide))⟩
    · exact ⟨w.2.1 12 _ _ x rfl hx (g2 _ (by decide)), w.2.1 13 _ _ x rfl hx (g2 _ (by decide))⟩
  exact ⟨⟨by rw [r.1]; exact b1, by rw [r.2]; exact b2, b3⟩, b4⟩
/-- the terrace T tells D, its houses by the names ns -/
def hdKv (V : Nat → Int) (ns : List Nat) (T : Nat) (D : hg_D) (A : hs_A) : Prop := (∀ q, q < 4 → hgw_wl (D.2.2.2 q)) ∧ ∃ zz : Nat, zz ≤ 408 ∧ ns.length ≤ 10 ∧ hcM V T A ns D [] zz ∧ (A.1 T 4).toInt = (ns.length : Int)
theorem hdKv.k {V : Nat → Int} {ns : List Nat} {T : Nat} {D : hg_D} {A : hs_A} (h : hdKv V ns T D A) : hdK T D A := by
  obtain ⟨a, zz, b, c, d, e⟩ := h
  exact ⟨a, V, ns, zz, b, c, d, e⟩
theorem hdKv.uf {V : Nat → Int} {ns : List Nat} {W T : Nat} {D : hg_D} {A A' : hs_A} (h : hdKv V ns T D A) (hT : hTT T) (w : uf_W W A A') (e : hdG W = true) : hdKv V ns T D A' := by
  obtain ⟨h1, zz, h2, h3, h4, h5⟩ := h
  obtain ⟨g1, g2⟩ := hdG.get e
  obtain ⟨t4, t6, t7, t44, t45⟩ := g1 T hT
  refine ⟨h1, zz, h2, h3, ?_, by rw [hdT4 w hT e]; exact h5⟩
  rcases hT with rfl | rfl
  · exact h4.pt h2 h3 (w.1 6 _ _ 4 rfl rfl t44) (w.1 6 _ _ 5 rfl rfl t45) (w.1 2 _ _ 6 rfl rfl t6) (w.1 2 _ _ 7 rfl rfl t7) (fun i hi => ⟨w.2.1 3 _ _ i rfl hi (g2 _ (by decide)), w.2.1 4 _ _ i rfl hi (g2 _ (by decide))⟩) (fun i hi => w.2.1 5 _ _ i rfl hi (g2 _ (by decide))) (fun i hi => w.2.1 7 _ _ i rfl hi (g2 _ (by decide))) (fun i hi => ⟨w.2.1 8 _ _ i rfl hi (g2 _ (by decide)), w.2.1 9 _ _ i rfl hi (g2 _ (by decide))⟩)
  · exact h4.pt h2 h3 (w.1 15 _ _ 4 rfl rfl t44) (w.1 15 _ _ 5 rfl rfl t45) (w.1 11 _ _ 6 rfl rfl t6) (w.1 11 _ _ 7 rfl rfl t7) (fun i hi => ⟨w.2.1 12 _ _ i rfl hi (g2 _ (by decide)), w.2.1 13 _ _ i rfl hi (g2 _ (by decide))⟩) (fun i hi => w.2.1 14 _ _ i rfl hi (g2 _ (by decide))) (fun i hi => w.2.1 16 _ _ i rfl hi (g2 _ (by decide))) (fun i hi => ⟨w.2.1 17 _ _ i rfl hi (g2 _ (by decide)), w.2.1 18 _ _ i rfl hi (g2 _ (by decide))⟩)
def hdQ (K V : Nat → Int) (E : Nat → Nat → Bool) (T : Nat) (A : hs_A) : Prop := ∃ (t : Nat) (s : hq_S), hq_q K V E t = some s ∧ hq_dl K V E t s = .inr 0 ∧ hdKv V s.2.2.2.2.1 T (hg_q K V E t).1 A
theorem hdQ.of {K V : Nat → Int} {E : Nat → Nat → Bool} {T : Nat} {A : hs_A} {y : Int} (hV : hg_V K V) (h : hcQ K V E T A) (hs : hq_hs K V E (A.1 T 4).toInt y) (b : (A.1 (T + 4) 4).toInt ≤ 408) : hdQ K V E T A := by
  obtain ⟨t, s, zz, a1, a2, a3⟩ := h
  have hl := (hq_hs_one hs ⟨t, s, a1, a2, rfl, rfl⟩).1
  have hz := a3.1.1
  exact ⟨t, s, a1, a2, (hgw_q_iv hV a1).1.1, zz, by omega, (hq_q_inv a1).1.2.2.1, a3, hl⟩
theorem hdQ.uf {K V : Nat → Int} {E : Nat → Nat → Bool} {W T : Nat} {A A' : hs_A} (h : hdQ K V E T A) (hT : hTT T) (w : uf_W W A A') (e : hdG W = true) : hdQ K V E T A' := by
  obtain ⟨t, s, a, b, c⟩ := h
  exact ⟨t, s, a, b, c.uf hT w e⟩
noncomputable def uMz : Nat := 2 ^ ug_o (ug_g 0) 1 + 2 ^ ug_o (ug_g 0) 2
/-! bounds of what a text tells -/
section HGD
variable {K V : Nat → Int} {E : Nat → Nat → Bool}
def hgd_o (d : hg_D) : Prop := (0 ≤ d.2.1 ∧ d.2.1 ≤ 10000) ∧ (0 ≤ d.2.2.1 ∧ d.2.2.1 ≤ 10000)
theorem hgd_un {t : Nat} {e : hg_S} : (hg_un K V t e).1 = e.1 := by
  unfold hg_un
  split
  · rfl
  · split
    · rfl
    · rfl
theorem hgd_end {ctx : Nat} {d : hg_D} {k : hg_W} {o : hg_C} (h : hgd_o d) : hgd_o (hg_end ctx d k o).1 := by
  unfold hg_end
  split
  · exact h
  · exact h
  · exact h
  · exact h
theorem hgd_dl {t : Nat} {s : hq_S} {e : hg_S} (h9 : s.1 = 9 ∨ s.1 = 11 → 0 ≤ V (t - 1) ∧ V (t - 1) ≤ 10000) (h : hgd_o e.1) : hgd_o (hg_dl K V t s e).1 := by
  unfold hg_dl
  split
  · split
    · exact h
    · exact h
  · exact h
  · exact ⟨h9 (Or.inl rfl), h.2⟩
  · exact ⟨h.1, h9 (Or.inr rfl)⟩
  · split
    · exact h
    · rw [hgd_un]; exact h
  · rw [hgd_un]; exact h
  · split
    · exact h
    · split
      · exact hgd_end h
      · exact h
  · exact h
theorem hgd_k {t : Nat} {s s' : hq_S} (hd : hq_dl K V E t s = .inl s') (h : s'.1 = 9 ∨ s'.1 = 11) : K t = 21 := by
  unfold hq_dl at hd
  split at hd
  · split at hd
    · cases hd
    · split at hd
      · split at hd
        · obtain ⟨-, rfl⟩ := hq_go_inl hd
          exact absurd h (by dsimp only; omega)
        · cases hd
      · split at hd
        · split at hd
          · obtain ⟨-, rfl⟩ := hq_go_inl hd
            exact absurd h (by dsimp only; omega)
          · cases hd
        · split at hd
          · obtain ⟨-, rfl⟩ := hq_go_inl hd
            exact absurd h (by dsimp only; omega)
          · split at hd
            · obtain ⟨-, rfl⟩ := hq_go_inl hd
              exact absurd h (by dsimp only; omega)
            · split at hd
              · obtain ⟨-, rfl⟩ := hq_go_inl hd
                exact absurd h (by dsimp only; omega)
              · cases hd
  iterate 12 (first | (obtain ⟨q, -, rfl⟩ := hq_must_inl hd; first | exact q | exact absurd h (by dsimp only; omega)) | skip)
  all_goals first
    | (split at hd
       · split at hd
         · obtain ⟨-, rfl⟩ := hq_go_inl hd
           exact absurd h (by dsimp only; omega)
         · cases hd
       · obtain ⟨q, e, p⟩ := hq_unit_inl hd
         omega)
    | (obtain ⟨q, e, p⟩ := hq_unit_inl hd
       omega)
    | (split at hd
       · obtain ⟨-, rfl⟩ := hq_go_inl hd
         exact absurd h (by dsimp only; omega)
       · split at hd
         · obtain ⟨q, e, p⟩ := hq_out_inl hd
           omega
         · obtain ⟨q, -, rfl⟩ := hq_must_inl hd
           exact absurd h (by dsimp only; omega))
theorem hgd_q (hV : hg_V K V) : ∀ {t : Nat} {s : hq_S}, hq_q K V E t = some s → (s.1 = 9 ∨ s.1 = 11 → 0 ≤ V (t - 1) ∧ V (t - 1) ≤ 10000) ∧ hgd_o (hg_q K V E t).1
  | 0, s, h => by
    cases h
    exact ⟨fun q => absurd q (by decide), ⟨(by decide : (0 : Int) ≤ 6), (by decide : (6 : Int) ≤ 10000)⟩, (by decide : (0 : Int) ≤ 0), (by decide : (0 : Int) ≤ 10000)⟩
  | t + 1, s, h => by
    have h' : (match hq_q K V E t with
      | none => none
      | some s => match hq_dl K V E t s with
        | .inl s' => some s'
        | .inr _ => none) = some s := h
    split at h'
    · cases h'
    next s1 hs1 =>
      split at h'
      next s2 hd =>
        cases h'
        rw [hg_next hs1]
        obtain ⟨a, b⟩ := hgd_q hV hs1
        refine ⟨fun q => ?_, hgd_dl a b⟩
        have w := hV t (hgd_k hd q)
        rw [Nat.add_sub_cancel]
        exact ⟨w.1, by omega⟩
      · cases h'
end HGD
theorem uf_m37 {d : Nat} {A : hs_A} {P : Option Value → hs_A → Prop} {T : Nat} (hT : hTT T) {a1 : Int32} (hH : uf_H A) (w : hxC d 37 hm_m37 [.ref 21, .ref (T + 1), .ref 2, .int a1] A P) : hxC d 37 hm_m37 [.ref 21, .ref (T + 1), .ref 2, .int a1] A (fun r A' => P r A' ∧ uf_W ug_x90.2.2.2.1 A A' ∧ uf_H A') := uf_X (X := ug_x90) (j := 90) rfl rfl (ug_L.cons (uf_rk_ok (by decide +kernel)) (ug_L.cons (uf_tV hT) (ug_L.cons (uf_rk_ok (by decide +kernel)) (uf_int uf_nil)))) hH w
theorem uf_m74 {d : Nat} {A : hs_A} {P : Option Value → hs_A → Prop} (hH : uf_H A) (w : hxC d 74 hm_m74 [.ref 1] A P) : hxC d 74 hm_m74 [.ref 1] A (fun r A' => P r A' ∧ uf_W ug_x130.2.2.2.1 A A' ∧ uf_H A') := uf_X (X := ug_x130) (j := 130) rfl rfl (ug_L.cons uf_r0 uf_nil) hH w
theorem hY74q51 {d : Nat} {N : Int} {A : hs_A} (hA : hJ 0 N (N + 72) A A) (h3 : A.2.2.2 0 3 = 12) (h4 : A.2.2.2 0 4 = 3) (hp : hPg A 5)  {P : Option Value → hs_A → Prop} (hP : ∀ (r : Option Value) (A' : hs_A), (hJ 0 (N + 72) (N + 144) A' A' ∧ r = none ∧ (A'.1 0 1 = A.1 0 1 ∧ A'.1 367 2 = A.1 367 2 ∧ A'.1 0 2 = A.1 0 2 ∧ A'.2.2.1 = A.2.2.1 ∧ (∀ j, A'.2.1 368 j = A.2.1 368 j) ∧ A'.2.2.2 0 3 = 3 ∧ A'.1 340 2 = Int32.ofNat 0 ∧ A'.1 0 10 = Int32.ofNat 0 ∧ A'.1 40 2 = Int32.ofNat 0 ∧ A'.1 2 4 = A.1 2 4 ∧ A'.1 2 5 = A.1 2 5 ∧ hBg 2 A A')) → P r A') : hxa (d + 1) none hm_t74 0 [.ref 1, .retAddr 0] [] A P := by
  obtain ⟨T0, hT0, -, eT0⟩ := hA.T
  refine hxa_aload_n (by rfl) rfl ?_
  refine hxj_getT (by rfl) (by rfl) (by rfl) h3 ?_
  refine hxa_astore_n (by rfl) rfl ?_
  refine hxa_aload_n (by rfl) rfl ?_
  refine hxa_aload_n (by rfl) rfl ?_
  refine hxj_getT (by rfl) (by rfl) (by rfl) h4 ?_
  refine hxa_putR (i := 0) (by rfl) (by rfl) (by rfl) (by rfl) ?_
  refine hxa_aload_n (by rfl) rfl ?_
  refine hxa_aload_n (by rfl) rfl ?_
  refine hxa_putR (i := 0) (by rfl) (by rfl) (by rfl) (by rfl) ?_
  have hsw := hJ.swap1 hA h3 h4 hp
  obtain ⟨W5, eW5⟩ : ∃ W : hs_A, W = (A.1, A.2.1, A.2.2.1, hs_upN (hs_upN A.2.2.2 0 3 3) 0 4 12) := ⟨_, rfl⟩
  rw [← eW5] at hsw
  have w03 : W5.2.2.2 0 3 = 3 := by rw [eW5]; simp [hs_upN]
  have w1 : W5.1 = A.1 := by rw [eW5]
  show hxa _ _ _ _ _ _ (A.1, A.2.1, A.2.2.1, hs_upN (hs_upN A.2.2.2 0 3 3) 0 4 12) _
  rw [← eW5]
  obtain ⟨T5, hT5, eT5⟩ : ∃ T, hTT T ∧ W5.2.2.2 0 3 = T + 1 := ⟨2, Or.inl rfl, w03⟩
  obtain rfl : T5 = 2 := by omega
  refine hxa_aload_n (by rfl) rfl ?_
  refine hxa_get (v := .ref 27) (by rfl) (by rfl) (by rfl) rfl ?_
  refine hxa_aload_n (by rfl) rfl ?_
  refine hxj_getT (by rfl) (by rfl) (by rfl) eT5 ?_
  refine hxa_call0 (by rfl) (by rfl) (by rfl) (by rfl) (by rfl) (by rfl) (hX16g (d := d + 0) hsw hT5 eT5) ?_
  rintro _ A1 ⟨hA1, rfl, c1⟩
  refine hxa_aload_n (by rfl) rfl ?_
  refine hxa_get (v := .ref 41) (by rfl) (by rfl) (by rfl) rfl ?_
  refine hxa_iconst (by rfl) rfl ?_
  refine hxj_putI (by rfl) (by rfl) (by rfl) (by rfl) hA1 (hbok (by rfl) hk_0 (by omega) (by omega)) (by rfl) (by rfl) (fun A2 hA2 eA2 fA2 => ?_)
  refine hxa_aload_n (by rfl) rfl ?_
  refine hxa_get (v := .ref 341) (by rfl) (by rfl) (by rfl) rfl ?_
  refine hxa_iconst (by rfl) rfl ?_
  refine hxj_putI (by rfl) (by rfl) (by rfl) (by rfl) hA2 (hbok (by rfl) hk_0 (by omega) (by omega)) (by rfl) (by rfl) (fun A3 hA3 eA3 fA3 => ?_)
  refine hxa_aload_n (by rfl) rfl ?_
  refine hxa_iconst (by rfl) rfl ?_
  refine hxj_putI (by rfl) (by rfl) (by rfl) (by rfl) hA3 (hbokN (by rfl)) (by rfl) (by rfl) (fun A4 hA4 eA4 fA4 => ?_)
  refine hxa_aload_n (by rfl) rfl ?_
  refine hxa_get (v := .ref 329) (by rfl) (by rfl) (by rfl) rfl ?_
  refine hxa_iconst (by rfl) rfl ?_
  refine hxj_putI (by rfl) (by rfl) (by rfl) (by rfl) hA4 (hbok (by rfl) hk_0 (by omega) (by omega)) (by rfl) (by rfl) (fun A5 hA5 eA5 fA5 => ?_)
  exact hxa_return (by rfl) rfl (hP _ _ ⟨(hJ.mono (hJ.self hA5) (by omega) (by omega)), rfl, ⟨(hA5.2.2.1.1 0 1 (by rfl)).trans (congrFun (congrFun w1 0) 1), (hA5.2.2.1.1 367 2 (by rfl)).trans (congrFun (congrFun w1 367) 2), (hA5.2.2.1.1 0 2 (by rfl)).trans (congrFun (congrFun w1 0) 2), (hA5.2.2.1.2.2.1 rfl).trans (by rw [eW5]), fun j => (hA5.2.2.1.2.1 368 (by rfl) j).trans (by rw [eW5]), (hA5.2.2.1.2.2.2 0 3 (by rfl)).trans w03, hkF eA5 (by first | decide | omega) (hkF eA4 (by first | decide | omega) (hkS eA3)), hkF eA5 (by first | decide | omega) (hkS eA4), hkF eA5 (by first | decide | omega) (hkF eA4 (by first | decide | omega) (hkF eA3 (by first | decide | omega) (hkS eA2))), (hA5.2.2.1.1 2 4 (by rfl)).trans (congrFun (congrFun w1 2) 4), (hA5.2.2.1.1 2 5 (by rfl)).trans (congrFun (congrFun w1 2) 5), c1.mv (fun k _ => by rw [eA5, hup2 (by omega), eA4, hup2 (by omega), eA3, hup2 (by omega), eA2, hup2 (by omega)]) (by rw [fA5, fA4, fA3, fA2]) w1.symm (by rw [eW5])⟩⟩)
theorem hX74q51 {d : Nat} {N : Int} {A : hs_A} (hA : hJ 0 N (N + 72) A A) (h3 : A.2.2.2 0 3 = 12) (h4 : A.2.2.2 0 4 = 3) (hp : hPg A 5)  : hxC (d + 2) 74 hm_m74 [.ref 1] A (fun r A' => hJ 0 (N + 72) (N + 144) A' A' ∧ r = none ∧ (A'.1 0 1 = A.1 0 1 ∧ A'.1 367 2 = A.1 367 2 ∧ A'.1 0 2 = A.1 0 2 ∧ A'.2.2.1 = A.2.2.1 ∧ (∀ j, A'.2.1 368 j = A.2.1 368 j) ∧ A'.2.2.2 0 3 = 3 ∧ A'.1 340 2 = Int32.ofNat 0 ∧ A'.1 0 10 = Int32.ofNat 0 ∧ A'.1 40 2 = Int32.ofNat 0 ∧ A'.1 2 4 = A.1 2 4 ∧ A'.1 2 5 = A.1 2 5 ∧ hBg 2 A A')) := hxC.of (by rfl) (hY74q51 hA h3 h4 hp (fun r A' h => h))
theorem hY73q51 {d : Nat} {N : Int} {A : hs_A} (hA : hJ 0 N (N + 72) A A) (h3 : A.2.2.2 0 3 = 12) (h4 : A.2.2.2 0 4 = 3) {B : Nat → Int} {n : Nat} (hTp : hcTp B n A) (h1 : (A.1 0 1).toInt = (n : Int)) (hBr : ∀ i, i < n → -128 ≤ B i ∧ B i ≤ 127) (hU : hcU A) (uH : uf_H A)  {P : Option Value → hs_A → Prop} (hP : ∀ (r : Option Value) (A' : hs_A), (hJ 0 (N + 72) (N + 144) A' A' ∧ ∃ z : Int32, r = some (.int z) ∧ ((A'.1 0 1).toInt = 0 ∧ A'.1 367 2 = A.1 367 2 ∧ hq_res (ht_K B n) (ht_W B n) (fun u => (ht_S B n u : Int)) (ht_E B n) z.toInt (A'.1 0 2).toInt ∧ hcU A' ∧ (∀ j, A'.2.1 368 j = A.2.1 368 j) ∧ (z.toInt = 0 → A'.2.2.2 0 3 = 3 ∧ hq_hs (ht_K B n) (ht_W B n) (ht_E B n) (A'.1 2 4).toInt (A'.1 2 5).toInt ∧ A'.1 340 2 = Int32.ofNat 0 ∧ A'.1 0 10 = Int32.ofNat 0 ∧ A'.1 40 2 = Int32.ofNat 0 ∧ hdQ (ht_K B n) (ht_W B n) (ht_E B n) 2 A' ∧ hBg 2 A' A') ∧ (¬ z.toInt = 0 → A'.2.2.2 0 3 = 12 ∧ A'.1 11 4 = A.1 11 4 ∧ A'.1 11 5 = A.1 11 5 ∧ A'.1 340 2 = A.1 340 2 ∧ A'.1 0 10 = A.1 0 10 ∧ A'.1 40 2 = A.1 40 2 ∧ (∀ i k, (26 ≤ i ∨ 11 ≤ i ∧ i ≤ 19) → A'.1 i k = A.1 i k) ∧ (∀ i, (26 ≤ i ∨ 11 ≤ i ∧ i ≤ 19) → ∀ j, A'.2.1 i j = A.2.1 i j)))) → P r A') : hxa (d + 25) (some (.int)) hm_t73 0 [.ref 1, .retAddr 0] [] A P := by
  refine hxa_aload_n (by rfl) rfl ?_
  refine hxa_get (v := .ref 21) (by rfl) (by rfl) (by rfl) rfl ?_
  refine hxa_aload_n (by rfl) rfl ?_
  refine hxj_getT (by rfl) (by rfl) (by rfl) h4 ?_
  refine hxa_aload_n (by rfl) rfl ?_
  refine hxa_get (v := .ref 2) (by rfl) (by rfl) (by rfl) rfl ?_
  refine hxa_aload_n (by rfl) rfl ?_
  refine hxj_getB (by rfl) (by rfl) (by rfl) hA (by rfl) (fun z1 ez1 fz1 gz1 => ?_)
  have h1z : z1.toInt = (n : Int) := by rw [← ez1]; exact h1
  refine hxa_call0 (by rfl) (by rfl) (by rfl) (by rfl) (by rfl) (by rfl) (uf_m37 (T := 2) (Or.inl rfl) uH (hxC.and (g := 0) (hX37q1 (d := d + 0) hA z1 (by omega) (by omega)) (fun g => hP37n (T := 2) (Or.inl rfl) z1 hTp h1z (by omega) (fun i hi => (hBr i hi).2) hU))) ?_
  rintro _ A2 ⟨⟨⟨hA2, z3, rfl, fz3⟩, A2v, hvis, z3v, ez3v, RS, hU2, HS, HQ⟩, w2, H2⟩
  have ezz : z3v = z3 := by injection ez3v with e; injection e with e; exact e.symm
  rw [ezz] at RS HS HQ
  have HQ2 : z3.toInt = 0 → hdQ (ht_K B n) (ht_W B n) (ht_E B n) 2 A2 := fun q => (hdQ.of ht_W_ok (HQ q) (HS q) (by rw [hvis.f (i := 6) (k := 4) (by rfl) (by rfl)]; exact (hbok.get (hA2.1.1 6 4) rfl).2)).uf (Or.inl rfl) (uf_vis (hs_vis_sy hvis)) (by decide +kernel)
  have HS2 : z3.toInt = 0 → hq_hs (ht_K B n) (ht_W B n) (ht_E B n) (A2.1 2 4).toInt (A2.1 2 5).toInt := fun q => by rw [← hvis.f (i := 2) (k := 4) (by rfl) (by rfl), ← hvis.f (i := 2) (k := 5) (by rfl) (by rfl)]; exact HS q
  have RS2 : hq_res (ht_K B n) (ht_W B n) (fun u => (ht_S B n u : Int)) (ht_E B n) z3.toInt (A2.1 20 6).toInt := by rw [← hvis.f (i := 20) (k := 6) (by rfl) (by rfl)]; exact RS
  have hU3 : hcU A2 := hvis.U hU2
  have hen := hJ.end1 hA2 h3 h4
  have h10 := hJ.to10 hen.1
  refine hxa_s1 (by rfl) (Or.inl ⟨_, rfl, rfl⟩) rfl ?_
  refine hxa_aload_n (by rfl) rfl ?_
  refine hxa_iconst (by rfl) rfl ?_
  refine hxj_putI (by rfl) (by rfl) (by rfl) (by rfl) h10 (hbok (by rfl) hk_0 (by omega) (by omega)) (by rfl) (by rfl) (fun A4 hA4 eA4 fA4 => ?_)
  refine hxa_aload_n (by rfl) rfl ?_
  refine hxa_aload_n (by rfl) rfl ?_
  refine hxa_get (v := .ref 21) (by rfl) (by rfl) (by rfl) rfl ?_
  refine hxj_getI (by rfl) (by rfl) (by rfl) (fun z5 ez5 => ?_)
  refine hxj_putI (by rfl) (by rfl) (by rfl) (by rfl) hA4 (hbokN (by rfl)) (by rfl) (by rfl) (fun A6 hA6 eA6 fA6 => ?_)
  refine hxa_iload_n (by rfl) rfl ?_
  refine hxj_zne (by rfl) rfl (fun q7 => ?_) (fun q7 => ?_)
  ·
    refine hxa_iload_n (by rfl) rfl ?_
    have he := hJ.end10 hA6
    exact hxa_ireturn (by rfl) rfl (hP _ _ ⟨(hJ.mono he.1 (by omega) (by omega)), _, rfl, ⟨by rw [(show A6.1 0 1 = (Int32.ofNat 0) from (hkF eA6 (by first | decide | omega) (hkS eA4)))]; decide, Eq.trans (hkF eA6 (by first | decide | omega) (hkF eA4 (by first | decide | omega) rfl)) hen.2.2.2, by rw [show A6.1 0 2 = z5 from hkS eA6, ← ez5, hkF eA4 (by first | decide | omega) rfl]; exact RS2, hU3.fr (by rw [fA6, fA4]), fun j => by rw [fA6, fA4]; exact hA2.2.2.1.2.1 368 (by rfl) j, fun q => absurd q q7, fun _ => ⟨he.2.1.trans hen.2.1, Eq.trans (hkF eA6 (by first | decide | omega) (hkF eA4 (by first | decide | omega) rfl)) (hA2.2.2.1.1 11 4 (by rfl)), Eq.trans (hkF eA6 (by first | decide | omega) (hkF eA4 (by first | decide | omega) rfl)) (hA2.2.2.1.1 11 5 (by rfl)), Eq.trans (hkF eA6 (by first | decide | omega) (hkF eA4 (by first | decide | omega) rfl)) (hA2.2.2.1.1 340 2 (by rfl)), Eq.trans (hkF eA6 (by first | decide | omega) (hkF eA4 (by first | decide | omega) rfl)) (hA2.2.2.1.1 0 10 (by rfl)), Eq.trans (hkF eA6 (by first | decide | omega) (hkF eA4 (by first | decide | omega) rfl)) (hA2.2.2.1.1 40 2 (by rfl)), fun i k hi => Eq.trans (hkF eA6 (by omega) (hkF eA4 (by omega) rfl)) (hA2.2.2.1.1 i k (hpar_hi2 hi)), fun i hi j => by rw [fA6, fA4]; exact hA2.2.2.1.2.1 i (hpara_hi2 hi) j⟩⟩⟩)
  ·
    refine hxa_aload_n (by rfl) rfl ?_
    have he := hJ.end10 hA6
    have hpg : hPg A6 5 := fun j hj => by rw [hA6.2.2.1.2.1 5 (by rfl) j]; exact (fz3 (by omega)) j hj
    have H6 : uf_H A6 := H2.e (by rw [fA6, fA4])
    have w46 : uf_W uMz A2 A6 := (uf_W.rfl.put eA4 fA4 (by decide +kernel)).put eA6 fA6 (by decide +kernel)
    refine hxa_call0 (by rfl) (by rfl) (by rfl) (by rfl) (by rfl) (by rfl) (uf_m74 H6 (hX74q51 (d := d + 23) he.1 (he.2.1.trans hen.2.1) (he.2.2.trans hen.2.2.1) hpg)) ?_
    rintro _ A8 ⟨⟨hA8, rfl, fA8⟩, w8, H8⟩
    refine hxa_iload_n (by rfl) rfl ?_
    exact hxa_ireturn (by rfl) rfl (hP _ _ ⟨(hJ.mono hA8 (by omega) (by omega)), _, rfl, ⟨by rw [(show A8.1 0 1 = (Int32.ofNat 0) from ((fA8.1).trans (hkF eA6 (by first | decide | omega) (hkS eA4))))]; decide, ((fA8.2.1).trans (Eq.trans (hkF eA6 (by first | decide | omega) (hkF eA4 (by first | decide | omega) rfl)) hen.2.2.2)), by rw [fA8.2.2.1]; rw [show A6.1 0 2 = z5 from hkS eA6, ← ez5, hkF eA4 (by first | decide | omega) rfl]; exact RS2, hU3.fr (by rw [fA8.2.2.2.1, fA6, fA4]), fun j => by rw [fA8.2.2.2.2.1 j, fA6, fA4]; exact hA2.2.2.1.2.1 368 (by rfl) j, fun _ => ⟨fA8.2.2.2.2.2.1, by rw [fA8.2.2.2.2.2.2.2.2.2.1, fA8.2.2.2.2.2.2.2.2.2.2.1, show A6.1 2 4 = A2.1 2 4 from hkF eA6 (by first | decide | omega) (hkF eA4 (by first | decide | omega) rfl), show A6.1 2 5 = A2.1 2 5 from hkF eA6 (by first | decide | omega) (hkF eA4 (by first | decide | omega) rfl)]; exact HS2 (by omega), fA8.2.2.2.2.2.2.1, fA8.2.2.2.2.2.2.2.1, fA8.2.2.2.2.2.2.2.2.1, ((HQ2 (by omega)).uf (Or.inl rfl) w46 (by decide +kernel)).uf (Or.inl rfl) w8 (by decide +kernel), fA8.2.2.2.2.2.2.2.2.2.2.2.to (Or.inl rfl) w8 (by decide +kernel)⟩, fun q => absurd (by omega) q⟩⟩)
theorem hX73q51 {d : Nat} {N : Int} {A : hs_A} (hA : hJ 0 N (N + 72) A A) (h3 : A.2.2.2 0 3 = 12) (h4 : A.2.2.2 0 4 = 3) {B : Nat → Int} {n : Nat} (hTp : hcTp B n A) (h1 : (A.1 0 1).toInt = (n : Int)) (hBr : ∀ i, i < n → -128 ≤ B i ∧ B i ≤ 127) (hU : hcU A) (uH : uf_H A)  : hxC (d + 26) 73 hm_m73 [.ref 1] A (fun r A' => hJ 0 (N + 72) (N + 144) A' A' ∧ ∃ z : Int32, r = some (.int z) ∧ ((A'.1 0 1).toInt = 0 ∧ A'.1 367 2 = A.1 367 2 ∧ hq_res (ht_K B n) (ht_W B n) (fun u => (ht_S B n u : Int)) (ht_E B n) z.toInt (A'.1 0 2).toInt ∧ hcU A' ∧ (∀ j, A'.2.1 368 j = A.2.1 368 j) ∧ (z.toInt = 0 → A'.2.2.2 0 3 = 3 ∧ hq_hs (ht_K B n) (ht_W B n) (ht_E B n) (A'.1 2 4).toInt (A'.1 2 5).toInt ∧ A'.1 340 2 = Int32.ofNat 0 ∧ A'.1 0 10 = Int32.ofNat 0 ∧ A'.1 40 2 = Int32.ofNat 0 ∧ hdQ (ht_K B n) (ht_W B n) (ht_E B n) 2 A' ∧ hBg 2 A' A') ∧ (¬ z.toInt = 0 → A'.2.2.2 0 3 = 12 ∧ A'.1 11 4 = A.1 11 4 ∧ A'.1 11 5 = A.1 11 5 ∧ A'.1 340 2 = A.1 340 2 ∧ A'.1 0 10 = A.1 0 10 ∧ A'.1 40 2 = A.1 40 2 ∧ (∀ i k, (26 ≤ i ∨ 11 ≤ i ∧ i ≤ 19) → A'.1 i k = A.1 i k) ∧ (∀ i, (26 ≤ i ∨ 11 ≤ i ∧ i ≤ 19) → ∀ j, A'.2.1 i j = A.2.1 i j)))) := hxC.of (by rfl) (hY73q51 hA h3 h4 hTp h1 hBr hU uH (fun r A' h => h))
theorem hY74q52 {d : Nat} {N : Int} {A : hs_A} (hA : hJ 0 N (N + 72) A A) (h3 : A.2.2.2 0 3 = 3) (h4 : A.2.2.2 0 4 = 12) (hp : hPg A 14)  {P : Option Value → hs_A → Prop} (hP : ∀ (r : Option Value) (A' : hs_A), (hJ 0 (N + 72) (N + 144) A' A' ∧ r = none ∧ (A'.1 0 1 = A.1 0 1 ∧ A'.1 367 2 = A.1 367 2 ∧ A'.1 0 2 = A.1 0 2 ∧ A'.2.2.1 = A.2.2.1 ∧ (∀ j, A'.2.1 368 j = A.2.1 368 j) ∧ A'.2.2.2 0 3 = 12 ∧ A'.1 340 2 = Int32.ofNat 0 ∧ A'.1 0 10 = Int32.ofNat 0 ∧ A'.1 40 2 = Int32.ofNat 0 ∧ A'.1 11 4 = A.1 11 4 ∧ A'.1 11 5 = A.1 11 5 ∧ hBg 11 A A')) → P r A') : hxa (d + 1) none hm_t74 0 [.ref 1, .retAddr 0] [] A P := by
  obtain ⟨T0, hT0, -, eT0⟩ := hA.T
  refine hxa_aload_n (by rfl) rfl ?_
  refine hxj_getT (by rfl) (by rfl) (by rfl) h3 ?_
  refine hxa_astore_n (by rfl) rfl ?_
  refine hxa_aload_n (by rfl) rfl ?_
  refine hxa_aload_n (by rfl) rfl ?_
  refine hxj_getT (by rfl) (by rfl) (by rfl) h4 ?_
  refine hxa_putR (i := 0) (by rfl) (by rfl) (by rfl) (by rfl) ?_
  refine hxa_aload_n (by rfl) rfl ?_
  refine hxa_aload_n (by rfl) rfl ?_
  refine hxa_putR (i := 0) (by rfl) (by rfl) (by rfl) (by rfl) ?_
  have hsw := hJ.swap2 hA h3 h4 hp
  obtain ⟨W5, eW5⟩ : ∃ W : hs_A, W = (A.1, A.2.1, A.2.2.1, hs_upN (hs_upN A.2.2.2 0 3 12) 0 4 3) := ⟨_, rfl⟩
  rw [← eW5] at hsw
  have w03 : W5.2.2.2 0 3 = 12 := by rw [eW5]; simp [hs_upN]
  have w1 : W5.1 = A.1 := by rw [eW5]
  show hxa _ _ _ _ _ _ (A.1, A.2.1, A.2.2.1, hs_upN (hs_upN A.2.2.2 0 3 12) 0 4 3) _
  rw [← eW5]
  obtain ⟨T5, hT5, eT5⟩ : ∃ T, hTT T ∧ W5.2.2.2 0 3 = T + 1 := ⟨11, Or.inr rfl, w03⟩
  obtain rfl : T5 = 11 := by omega
  refine hxa_aload_n (by rfl) rfl ?_
  refine hxa_get (v := .ref 27) (by rfl) (by rfl) (by rfl) rfl ?_
  refine hxa_aload_n (by rfl) rfl ?_
  refine hxj_getT (by rfl) (by rfl) (by rfl) eT5 ?_
  refine hxa_call0 (by rfl) (by rfl) (by rfl) (by rfl) (by rfl) (by rfl) (hX16g (d := d + 0) hsw hT5 eT5) ?_
  rintro _ A1 ⟨hA1, rfl, c1⟩
  refine hxa_aload_n (by rfl) rfl ?_
  refine hxa_get (v := .ref 41) (by rfl) (by rfl) (by rfl) rfl ?_
  refine hxa_iconst (by rfl) rfl ?_
  refine hxj_putI (by rfl) (by rfl) (by rfl) (by rfl) hA1 (hbok (by rfl) hk_0 (by omega) (by omega)) (by rfl) (by rfl) (fun A2 hA2 eA2 fA2 => ?_)
  refine hxa_aload_n (by rfl) rfl ?_
  refine hxa_get (v := .ref 341) (by rfl) (by rfl) (by rfl) rfl ?_
  refine hxa_iconst (by rfl) rfl ?_
  refine hxj_putI (by rfl) (by rfl) (by rfl) (by rfl) hA2 (hbok (by rfl) hk_0 (by omega) (by omega)) (by rfl) (by rfl) (fun A3 hA3 eA3 fA3 => ?_)
  refine hxa_aload_n (by rfl) rfl ?_
  refine hxa_iconst (by rfl) rfl ?_
  refine hxj_putI (by rfl) (by rfl) (by rfl) (by rfl) hA3 (hbokN (by rfl)) (by rfl) (by rfl) (fun A4 hA4 eA4 fA4 => ?_)
  refine hxa_aload_n (by rfl) rfl ?_
  refine hxa_get (v := .ref 329) (by rfl) (by rfl) (by rfl) rfl ?_
  refine hxa_iconst (by rfl) rfl ?_
  refine hxj_putI (by rfl) (by rfl) (by rfl) (by rfl) hA4 (hbok (by rfl) hk_0 (by omega) (by omega)) (by rfl) (by rfl) (fun A5 hA5 eA5 fA5 => ?_)
  exact hxa_return (by rfl) rfl (hP _ _ ⟨(hJ.mono (hJ.self hA5) (by omega) (by omega)), rfl, ⟨(hA5.2.2.1.1 0 1 (by rfl)).trans (congrFun (congrFun w1 0) 1), (hA5.2.2.1.1 367 2 (by rfl)).trans (congrFun (congrFun w1 367) 2), (hA5.2.2.1.1 0 2 (by rfl)).trans (congrFun (congrFun w1 0) 2), (hA5.2.2.1.2.2.1 rfl).trans (by rw [eW5]), fun j => (hA5.2.2.1.2.1 368 (by rfl) j).trans (by rw [eW5]), (hA5.2.2.1.2.2.2 0 3 (by rfl)).trans w03, hkF eA5 (by first | decide | omega) (hkF eA4 (by first | decide | omega) (hkS eA3)), hkF eA5 (by first | decide | omega) (hkS eA4), hkF eA5 (by first | decide | omega) (hkF eA4 (by first | decide | omega) (hkF eA3 (by first | decide | omega) (hkS eA2))), (hA5.2.2.1.1 11 4 (by rfl)).trans (congrFun (congrFun w1 11) 4), (hA5.2.2.1.1 11 5 (by rfl)).trans (congrFun (congrFun w1 11) 5), c1.mv (fun k _ => by rw [eA5, hup2 (by omega), eA4, hup2 (by omega), eA3, hup2 (by omega), eA2, hup2 (by omega)]) (by rw [fA5, fA4, fA3, fA2]) w1.symm (by rw [eW5])⟩⟩)
theorem hX74q52 {d : Nat} {N : Int} {A : hs_A} (hA : hJ 0 N (N + 72) A A) (h3 : A.2.2.2 0 3 = 3) (h4 : A.2.2.2 0 4 = 12) (hp : hPg A 14)  : hxC (d + 2) 74 hm_m74 [.ref 1] A (fun r A' => hJ 0 (N + 72) (N + 144) A' A' ∧ r = none ∧ (A'.1 0 1 = A.1 0 1 ∧ A'.1 367 2 = A.1 367 2 ∧ A'.1 0 2 = A.1 0 2 ∧ A'.2.2.1 = A.2.2.1 ∧ (∀ j, A'.2.1 368 j = A.2.1 368 j) ∧ A'.2.2.2 0 3 = 12 ∧ A'.1 340 2 = Int32.ofNat 0 ∧ A'.1 0 10 = Int32.ofNat 0 ∧ A'.1 40 2 = Int32.ofNat 0 ∧ A'.1 11 4 = A.1 11 4 ∧ A'.1 11 5 = A.1 11 5 ∧ hBg 11 A A')) := hxC.of (by rfl) (hY74q52 hA h3 h4 hp (fun r A' h => h))
theorem hY73q52 {d : Nat} {N : Int} {A : hs_A} (hA : hJ 0 N (N + 72) A A) (h3 : A.2.2.2 0 3 = 3) (h4 : A.2.2.2 0 4 = 12) {B : Nat → Int} {n : Nat} (hTp : hcTp B n A) (h1 : (A.1 0 1).toInt = (n : Int)) (hBr : ∀ i, i < n → -128 ≤ B i ∧ B i ≤ 127) (hU : hcU A) (uH : uf_H A)  {P : Option Value → hs_A → Prop} (hP : ∀ (r : Option Value) (A' : hs_A), (hJ 0 (N + 72) (N + 144) A' A' ∧ ∃ z : Int32, r = some (.int z) ∧ ((A'.1 0 1).toInt = 0 ∧ A'.1 367 2 = A.1 367 2 ∧ hq_res (ht_K B n) (ht_W B n) (fun u => (ht_S B n u : Int)) (ht_E B n) z.toInt (A'.1 0 2).toInt ∧ hcU A' ∧ (∀ j, A'.2.1 368 j = A.2.1 368 j) ∧ (z.toInt = 0 → A'.2.2.2 0 3 = 12 ∧ hq_hs (ht_K B n) (ht_W B n) (ht_E B n) (A'.1 11 4).toInt (A'.1 11 5).toInt ∧ A'.1 340 2 = Int32.ofNat 0 ∧ A'.1 0 10 = Int32.ofNat 0 ∧ A'.1 40 2 = Int32.ofNat 0 ∧ hdQ (ht_K B n) (ht_W B n) (ht_E B n) 11 A' ∧ hBg 11 A' A') ∧ (¬ z.toInt = 0 → A'.2.2.2 0 3 = 3 ∧ A'.1 2 4 = A.1 2 4 ∧ A'.1 2 5 = A.1 2 5 ∧ A'.1 340 2 = A.1 340 2 ∧ A'.1 0 10 = A.1 0 10 ∧ A'.1 40 2 = A.1 40 2 ∧ (∀ i k, (26 ≤ i ∨ 2 ≤ i ∧ i ≤ 10) → A'.1 i k = A.1 i k) ∧ (∀ i, (26 ≤ i ∨ 2 ≤ i ∧ i ≤ 10) → ∀ j, A'.2.1 i j = A.2.1 i j)))) → P r A') : hxa (d + 25) (some (.int)) hm_t73 0 [.ref 1, .retAddr 0] [] A P := by
  refine hxa_aload_n (by rfl) rfl ?_
  refine hxa_get (v := .ref 21) (by rfl) (by rfl) (by rfl) rfl ?_
  refine hxa_aload_n (by rfl) rfl ?_
  refine hxj_getT (by rfl) (by rfl) (by rfl) h4 ?_
  refine hxa_aload_n (by rfl) rfl ?_
  refine hxa_get (v := .ref 2) (by rfl) (by rfl) (by rfl) rfl ?_
  refine hxa_aload_n (by rfl) rfl ?_
  refine hxj_getB (by rfl) (by rfl) (by rfl) hA (by rfl) (fun z1 ez1 fz1 gz1 => ?_)
  have h1z : z1.toInt = (n : Int) := by rw [← ez1]; exact h1
  refine hxa_call0 (by rfl) (by rfl) (by rfl) (by rfl) (by rfl) (by rfl) (uf_m37 (T := 11) (Or.inr rfl) uH (hxC.and (g := 0) (hX37q2 (d := d + 0) hA z1 (by omega) (by omega)) (fun g => hP37n (T := 11) (Or.inr rfl) z1 hTp h1z (by omega) (fun i hi => (hBr i hi).2) hU))) ?_
  rintro _ A2 ⟨⟨⟨hA2, z3, rfl, fz3⟩, A2v, hvis, z3v, ez3v, RS, hU2, HS, HQ⟩, w2, H2⟩
  have ezz : z3v = z3 := by injection ez3v with e; injection e with e; exact e.symm
  rw [ezz] at RS HS HQ
  have HQ2 : z3.toInt = 0 → hdQ (ht_K B n) (ht_W B n) (ht_E B n) 11 A2 := fun q => (hdQ.of ht_W_ok (HQ q) (HS q) (by rw [hvis.f (i := 15) (k := 4) (by rfl) (by rfl)]; exact (hbok.get (hA2.1.1 15 4) rfl).2)).uf (Or.inr rfl) (uf_vis (hs_vis_sy hvis)) (by decide +kernel)
  have HS2 : z3.toInt = 0 → hq_hs (ht_K B n) (ht_W B n) (ht_E B n) (A2.1 11 4).toInt (A2.1 11 5).toInt := fun q => by rw [← hvis.f (i := 11) (k := 4) (by rfl) (by rfl), ← hvis.f (i := 11) (k := 5) (by rfl) (by rfl)]; exact HS q
  have RS2 : hq_res (ht_K B n) (ht_W B n) (fun u => (ht_S B n u : Int)) (ht_E B n) z3.toInt (A2.1 20 6).toInt := by rw [← hvis.f (i := 20) (k := 6) (by rfl) (by rfl)]; exact RS
  have hU3 : hcU A2 := hvis.U hU2
  have hen := hJ.end2 hA2 h3 h4
  have h10 := hJ.to10 hen.1
  refine hxa_s1 (by rfl) (Or.inl ⟨_, rfl, rfl⟩) rfl ?_
  refine hxa_aload_n (by rfl) rfl ?_
  refine hxa_iconst (by rfl) rfl ?_
  refine hxj_putI (by rfl) (by rfl) (by rfl) (by rfl) h10 (hbok (by rfl) hk_0 (by omega) (by omega)) (by rfl) (by rfl) (fun A4 hA4 eA4 fA4 => ?_)
  refine hxa_aload_n (by rfl) rfl ?_
  refine hxa_aload_n (by rfl) rfl ?_
  refine hxa_get (v := .ref 21) (by rfl) (by rfl) (by rfl) rfl ?_
  refine hxj_getI (by rfl) (by rfl) (by rfl) (fun z5 ez5 => ?_)
  refine hxj_putI (by rfl) (by rfl) (by rfl) (by rfl) hA4 (hbokN (by rfl)) (by rfl) (by rfl) (fun A6 hA6 eA6 fA6 => ?_)
  refine hxa_iload_n (by rfl) rfl ?_
  refine hxj_zne (by rfl) rfl (fun q7 => ?_) (fun q7 => ?_)
  ·
    refine hxa_iload_n (by rfl) rfl ?_
    have he := hJ.end10 hA6
    exact hxa_ireturn (by rfl) rfl (hP _ _ ⟨(hJ.mono he.1 (by omega) (by omega)), _, rfl, ⟨by rw [(show A6.1 0 1 = (Int32.ofNat 0) from (hkF eA6 (by first | decide | omega) (hkS eA4)))]; decide, Eq.trans (hkF eA6 (by first | decide | omega) (hkF eA4 (by first | decide | omega) rfl)) hen.2.2.2, by rw [show A6.1 0 2 = z5 from hkS eA6, ← ez5, hkF eA4 (by first | decide | omega) rfl]; exact RS2, hU3.fr (by rw [fA6, fA4]), fun j => by rw [fA6, fA4]; exact hA2.2.2.1.2.1 368 (by rfl) j, fun q => absurd q q7, fun _ => ⟨he.2.1.trans hen.2.1, Eq.trans (hkF eA6 (by first | decide | omega) (hkF eA4 (by first | decide | omega) rfl)) (hA2.2.2.1.1 2 4 (by rfl)), Eq.trans (hkF eA6 (by first | decide | omega) (hkF eA4 (by first | decide | omega) rfl)) (hA2.2.2.1.1 2 5 (by rfl)), Eq.trans (hkF eA6 (by first | decide | omega) (hkF eA4 (by first | decide | omega) rfl)) (hA2.2.2.1.1 340 2 (by rfl)), Eq.trans (hkF eA6 (by first | decide | omega) (hkF eA4 (by first | decide | omega) rfl)) (hA2.2.2.1.1 0 10 (by rfl)), Eq.trans (hkF eA6 (by first | decide | omega) (hkF eA4 (by first | decide | omega) rfl)) (hA2.2.2.1.1 40 2 (by rfl)), fun i k hi => Eq.trans (hkF eA6 (by omega) (hkF eA4 (by omega) rfl)) (hA2.2.2.1.1 i k (hpar_hi11 hi)), fun i hi j => by rw [fA6, fA4]; exact hA2.2.2.1.2.1 i (hpara_hi11 hi) j⟩⟩⟩)
  ·
    refine hxa_aload_n (by rfl) rfl ?_
    have he := hJ.end10 hA6
    have hpg : hPg A6 14 := fun j hj => by rw [hA6.2.2.1.2.1 14 (by rfl) j]; exact (fz3 (by omega)) j hj
    have H6 : uf_H A6 := H2.e (by rw [fA6, fA4])
    have w46 : uf_W uMz A2 A6 := (uf_W.rfl.put eA4 fA4 (by decide +kernel)).put eA6 fA6 (by decide +kernel)
    refine hxa_call0 (by rfl) (by rfl) (by rfl) (by rfl) (by rfl) (by rfl) (uf_m74 H6 (hX74q52 (d := d + 23) he.1 (he.2.1.trans hen.2.1) (he.2.2.trans hen.2.2.1) hpg)) ?_
    rintro _ A8 ⟨⟨hA8, rfl, fA8⟩, w8, H8⟩
    refine hxa_iload_n (by rfl) rfl ?_
    exact hxa_ireturn (by rfl) rfl (hP _ _ ⟨(hJ.mono hA8 (by omega) (by omega)), _, rfl, ⟨by rw [(show A8.1 0 1 = (Int32.ofNat 0) from ((fA8.1).trans (hkF eA6 (by first | decide | omega) (hkS eA4))))]; decide, ((fA8.2.1).trans (Eq.trans (hkF eA6 (by first | decide | omega) (hkF eA4 (by first | decide | omega) rfl)) hen.2.2.2)), by rw [fA8.2.2.1]; rw [show A6.1 0 2 = z5 from hkS eA6, ← ez5, hkF eA4 (by first | decide | omega) rfl]; exact RS2, hU3.fr (by rw [fA8.2.2.2.1, fA6, fA4]), fun j => by rw [fA8.2.2.2.2.1 j, fA6, fA4]; exact hA2.2.2.1.2.1 368 (by rfl) j, fun _ => ⟨fA8.2.2.2.2.2.1, by rw [fA8.2.2.2.2.2.2.2.2.2.1, fA8.2.2.2.2.2.2.2.2.2.2.1, show A6.1 11 4 = A2.1 11 4 from hkF eA6 (by first | decide | omega) (hkF eA4 (by first | decide | omega) rfl), show A6.1 11 5 = A2.1 11 5 from hkF eA6 (by first | decide | omega) (hkF eA4 (by first | decide | omega) rfl)]; exact HS2 (by omega), fA8.2.2.2.2.2.2.1, fA8.2.2.2.2.2.2.2.1, fA8.2.2.2.2.2.2.2.2.1, ((HQ2 (by omega)).uf (Or.inr rfl) w46 (by decide +kernel)).uf (Or.inr rfl) w8 (by decide +kernel), fA8.2.2.2.2.2.2.2.2.2.2.2.to (Or.inr rfl) w8 (by decide +kernel)⟩, fun q => absurd (by omega) q⟩⟩)
theorem hX73q52 {d : Nat} {N : Int} {A : hs_A} (hA : hJ 0 N (N + 72) A A) (h3 : A.2.2.2 0 3 = 3) (h4 : A.2.2.2 0 4 = 12) {B : Nat → Int} {n : Nat} (hTp : hcTp B n A) (h1 : (A.1 0 1).toInt = (n : Int)) (hBr : ∀ i, i < n → -128 ≤ B i ∧ B i ≤ 127) (hU : hcU A) (uH : uf_H A)  : hxC (d + 26) 73 hm_m73 [.ref 1] A (fun r A' => hJ 0 (N + 72) (N + 144) A' A' ∧ ∃ z : Int32, r = some (.int z) ∧ ((A'.1 0 1).toInt = 0 ∧ A'.1 367 2 = A.1 367 2 ∧ hq_res (ht_K B n) (ht_W B n) (fun u => (ht_S B n u : Int)) (ht_E B n) z.toInt (A'.1 0 2).toInt ∧ hcU A' ∧ (∀ j, A'.2.1 368 j = A.2.1 368 j) ∧ (z.toInt = 0 → A'.2.2.2 0 3 = 12 ∧ hq_hs (ht_K B n) (ht_W B n) (ht_E B n) (A'.1 11 4).toInt (A'.1 11 5).toInt ∧ A'.1 340 2 = Int32.ofNat 0 ∧ A'.1 0 10 = Int32.ofNat 0 ∧ A'.1 40 2 = Int32.ofNat 0 ∧ hdQ (ht_K B n) (ht_W B n) (ht_E B n) 11 A' ∧ hBg 11 A' A') ∧ (¬ z.toInt = 0 → A'.2.2.2 0 3 = 3 ∧ A'.1 2 4 = A.1 2 4 ∧ A'.1 2 5 = A.1 2 5 ∧ A'.1 340 2 = A.1 340 2 ∧ A'.1 0 10 = A.1 0 10 ∧ A'.1 40 2 = A.1 40 2 ∧ (∀ i k, (26 ≤ i ∨ 2 ≤ i ∧ i ≤ 10) → A'.1 i k = A.1 i k) ∧ (∀ i, (26 ≤ i ∨ 2 ≤ i ∧ i ≤ 10) → ∀ j, A'.2.1 i j = A.2.1 i j)))) := hxC.of (by rfl) (hY73q52 hA h3 h4 hTp h1 hBr hU uH (fun r A' h => h))
