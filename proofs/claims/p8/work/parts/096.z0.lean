section HP
variable {Q : Nat} {Bn Br : Int} {A0 A : hs_A} {i k j : Nat} {x : Int32}
theorem hJ.rt1 (h : hJ 1 Bn Br A0 A) : A.2.2.2 20 2 = 3 := h.2.2.2.2.1
theorem hJ.rt2 (h : hJ 2 Bn Br A0 A) : A.2.2.2 20 2 = 12 := h.2.2.2.2.1
theorem hJ.rt6 (h : hJ 6 Bn Br A0 A) : A.2.2.2 20 2 = 3 := h.2.2.2.2.1.1
theorem hJ.rt7 (h : hJ 7 Bn Br A0 A) : A.2.2.2 20 2 = 12 := h.2.2.2.2.1.1
theorem hJ.rt8 (h : hJ 8 Bn Br A0 A) : A.2.2.2 20 2 = 3 := h.2.2.2.2.1
theorem hJ.rt9 (h : hJ 9 Bn Br A0 A) : A.2.2.2 20 2 = 12 := h.2.2.2.2.1
theorem hJ.setG (h : hJ Q Bn Br A0 A) (hx : hb_ok (hb_a i) x) (hr : hr_a Q i = true) (hn : hq0 i = true) (he : hE Q A0 (A.1, hs_up A.2.1 i j x, A.2.2)) : hJ Q Bn Br A0 (A.1, hs_up A.2.1 i j x, A.2.2) := by
  refine ⟨⟨h.1.1, hup3 (fun a _ z => hb_ok (hb_a a) z) h.1.2.1 hx, h.1.2.2⟩, h.2.1.set (fun a ha b => ?_), ⟨h.2.2.1.1, fun a q b => ?_, h.2.2.1.2.2⟩, h.2.2.2.1, he⟩
  · exact hup2 (fun e => hq_ne (Q := 0) hn (e.1 ▸ ha))
  · show hs_up A.2.1 i j x a b = _
    rw [hup2 (fun e => by obtain ⟨rfl, rfl⟩ := e; rw [q] at hr; cases hr)]
    exact h.2.2.1.2.1 a q b
theorem hVs_up {c : Nat} (h : ∀ j, hVs (A.2.1 c j)) (hx : hVs x) : ∀ b, hVs (hs_up A.2.1 c j x c b) := by
  intro b
  by_cases e : b = j
  · subst e
    rw [hup1]
    exact hx
  · rw [hup2 (fun q => e q.2)]
    exact h b
theorem hVs_ne {c : Nat} (h : ∀ j, hVs (A.2.1 c j)) (hi : ¬ c = i) : ∀ b, hVs (hs_up A.2.1 i j x c b) := by
  intro b
  rw [hup2 (fun q => hi q.1)]
  exact h b
theorem hPg_up {c : Nat} (h : hPg A c) (h0 : 0 ≤ x.toInt) (h1 : x.toInt ≤ 255) : hPg (A.1, hs_up A.2.1 c j x, A.2.2) c := by
  intro b hb
  show 0 ≤ (hs_up A.2.1 c j x c b).toInt ∧ (hs_up A.2.1 c j x c b).toInt ≤ 255
  by_cases e : b = j
  · subst e
    rw [hup1]
    exact ⟨h0, h1⟩
  · rw [hup2 (fun q => e q.2)]
    exact h b hb
theorem hPg_ne {c : Nat} (h : hPg A c) (hi : ¬ c = i) : hPg (A.1, hs_up A.2.1 i j x, A.2.2) c := by
  intro b hb
  show 0 ≤ (hs_up A.2.1 i j x c b).toInt ∧ (hs_up A.2.1 i j x c b).toInt ≤ 255
  rw [hup2 (fun q => hi q.1)]
  exact h b hb
theorem hE.setL {f : Nat → Nat → Int64} (h : hE Q A0 A) : hE Q A0 (A.1, A.2.1, f, A.2.2.2) := by
  match Q, h with
  | 0, _ => exact True.intro
  | 1, h => exact ⟨h.1, h.2.1, h.2.2.imp id (fun w j hj => w j hj)⟩
  | 2, h => exact ⟨h.1, h.2.1, h.2.2.imp id (fun w j hj => w j hj)⟩
  | 3, _ => exact True.intro
  | 4, h => exact (fun c j hl => h c j hl)
  | 5, h => exact (fun c j hl => h c j hl)
  | 6, h => exact ⟨⟨h.1.1, h.1.2⟩, fun j hj => h.2 j hj⟩
  | 7, h => exact ⟨⟨h.1.1, h.1.2⟩, fun j hj => h.2 j hj⟩
  | 8, h => exact ⟨h.1, h.2⟩
  | 9, h => exact ⟨h.1, h.2⟩
  | 10, _ => exact True.intro
  | _ + 11, h => exact (fun c j hl => h c j hl)
theorem hJ.setL {f : Nat → Nat → Int64} (h : hJ Q Bn Br A0 A) (hQ : ¬ Q = 0) : hJ Q Bn Br A0 (A.1, A.2.1, f, A.2.2.2) := ⟨⟨h.1.1, h.1.2.1, h.1.2.2⟩, h.2.1, ⟨h.2.2.1.1, h.2.2.1.2.1, fun e => absurd e hQ, h.2.2.1.2.2.2⟩, h.2.2.2.1, h.2.2.2.2.setL⟩
theorem hJ.startP {T : Nat} (hT : hTT T) (h : hJ 0 Bn Br A A) (hq' : Q = 8 ∧ T = 2 ∨ Q = 9 ∧ T = 11) : hJ Q Bn Br A (A.1, A.2.1, A.2.2.1, hs_upN A.2.2.2 20 2 (T + 1)) := by
  have hne : ∀ a b, ¬ (a = 20 ∧ b = 2) → hs_upN A.2.2.2 20 2 (T + 1) a b = A.2.2.2 a b := fun a b e => by
    unfold hs_upN
    by_cases ha : a = 20
    · rw [if_pos ha, if_neg (fun hb => e ⟨ha, hb⟩)]
    · rw [if_neg ha]
  have hs : hEs T (A.1, A.2.1, A.2.2.1, hs_upN A.2.2.2 20 2 (T + 1)) := ⟨by simp [hs_upN], h.2.2.2.1.2.2.1 T hT⟩
  have hd : ∀ a b, hd_r 8 a b = false → hs_upN A.2.2.2 20 2 (T + 1) a b = A.2.2.2 a b := fun a b e => hne a b (fun z => by obtain ⟨rfl, rfl⟩ := z; cases e)
  have hb : hB (A.1, A.2.1, A.2.2.1, hs_upN A.2.2.2 20 2 (T + 1)) := ⟨h.1.1, h.1.2.1, by show hs_upN A.2.2.2 20 2 (T + 1) 323 5 = 7 ∨ _; rw [hne 323 5 (by omega)]; exact h.1.2.2⟩
  rcases hq' with ⟨rfl, rfl⟩ | ⟨rfl, rfl⟩
  · exact ⟨hb, h.2.1, ⟨fun _ _ _ => rfl, fun _ _ _ => rfl, fun e => absurd e (by decide), hd⟩, h.2.2.2.1, hs⟩
  · exact ⟨hb, h.2.1, ⟨fun _ _ _ => rfl, fun _ _ _ => rfl, fun e => absurd e (by decide), hd⟩, h.2.2.2.1, hs⟩
theorem hJ.to6 (h : hJ 8 Bn Br A0 A) (hp : hPg A 5) : hJ 6 Bn Br A0 A := ⟨h.1, h.2.1, ⟨h.2.2.1.1, h.2.2.1.2.1, fun e => absurd e (by decide), h.2.2.1.2.2.2⟩, h.2.2.2.1, ⟨h.2.2.2.2, hp⟩⟩
theorem hJ.to7 (h : hJ 9 Bn Br A0 A) (hp : hPg A 14) : hJ 7 Bn Br A0 A := ⟨h.1, h.2.1, ⟨h.2.2.1.1, h.2.2.1.2.1, fun e => absurd e (by decide), h.2.2.1.2.2.2⟩, h.2.2.2.1, ⟨h.2.2.2.2, hp⟩⟩
theorem hJ.to1 (h : hJ 6 Bn Br A0 A) : hJ 1 Bn Br A0 A := ⟨h.1, h.2.1, ⟨h.2.2.1.1, h.2.2.1.2.1, fun e => absurd e (by decide), h.2.2.1.2.2.2⟩, h.2.2.2.1, ⟨h.2.2.2.2.1.1, h.2.2.2.2.1.2, Or.inr h.2.2.2.2.2⟩⟩
theorem hJ.to2 (h : hJ 7 Bn Br A0 A) : hJ 2 Bn Br A0 A := ⟨h.1, h.2.1, ⟨h.2.2.1.1, h.2.2.1.2.1, fun e => absurd e (by decide), h.2.2.1.2.2.2⟩, h.2.2.2.1, ⟨h.2.2.2.2.1.1, h.2.2.2.2.1.2, Or.inr h.2.2.2.2.2⟩⟩
theorem hn_shl3 (w : Int32) : (w <<< (Int32.ofNat 3 &&& 31)).toBitVec.toNat % 8 = 0 := by
  have e : (Int32.ofNat 3 &&& 31) = (3 : Int32) := by decide
  rw [e]
  have : (w <<< (3 : Int32)).toBitVec = w.toBitVec <<< (3 : Nat) := by
    rw [Int32.toBitVec_shiftLeft]
    rfl
  rw [this, BitVec.toNat_shiftLeft, Nat.shiftLeft_eq]
  omega
theorem hn_or7 {y s : Int32} (hy : y.toBitVec.toNat % 8 = 0) (h0 : 0 ≤ s.toInt) (h1 : s.toInt ≤ 7) : ((y ||| s) &&& 7).toInt = s.toInt := by
  have hs := hn_bv h0
  have e7 : (7 : Int32).toBitVec.toNat = 2 ^ 3 - 1 := by decide
  have e1 : ((y ||| s) &&& 7).toBitVec.toNat = s.toBitVec.toNat := by
    rw [hn_andN, hn_orN, e7, Nat.and_two_pow_sub_one_eq_mod]
    have := Nat.or_mod_two_pow (a := y.toBitVec.toNat) (b := s.toBitVec.toNat) (n := 3)
    rw [this]
    have h2 : y.toBitVec.toNat % 2 ^ 3 = 0 := hy
    rw [h2, Nat.zero_or]
    omega
  rw [hn_bv2 (by rw [e1]; omega), e1]
  omega
theorem hVadd {w s y z : Int32} (hy : y = w <<< (Int32.ofNat 3 &&& 31)) (hz : z = y ||| s) (h0 : 0 ≤ s.toInt) (h1 : s.toInt ≤ 7) (h : ¬ s.toInt = 1 ∨ (0 ≤ w.toInt ∧ w.toInt ≤ 8)) : hVs z := by
  intro e
  have q := hn_or7 (y := y) (by rw [hy]; exact hn_shl3 w) h0 h1
  rw [← hz, e] at q
  have e1 : (1 : Int32).toInt = 1 := by decide
  rw [e1] at q
  have hw : 0 ≤ w.toInt ∧ w.toInt ≤ 8 := by omega
  have es : s = 1 := Int32.toInt_inj.mp (by rw [e1]; exact q.symm)
  rw [hz, hy, es, hn_of w]
  generalize w.toInt = n at hw
  have : n = 0 ∨ n = 1 ∨ n = 2 ∨ n = 3 ∨ n = 4 ∨ n = 5 ∨ n = 6 ∨ n = 7 ∨ n = 8 := by omega
  rcases this with rfl | rfl | rfl | rfl | rfl | rfl | rfl | rfl | rfl <;> decide
end HP
section HPR
variable {d : Nat} {ret : Option FieldType} {tb : hc_K} {pc len r1 r2 : Nat} {l st : List Value} {A : hs_A} {P : Option Value → hs_A → Prop} {Q : Nat} {Bn Br : Int} {A0 : hs_A}
theorem hxj_lald {i m : Nat} {j : Int32} {ej : Int} (hI : hc_get tb pc = some (.laload, len, r1, r2)) (hs : hc_get hs_sh i = some (1, 2, [m])) (hj : j.toInt = ej) (h0 : 0 ≤ ej) (h1 : ej < (m : Int)) (k : ∀ v : Int64, A.2.2.1 i j.toNatClampNeg = v → hxa d ret tb (pc + 1) l (.long v :: st) A P) : hxa d ret tb pc l (.int j :: .ref (i + 1) :: st) A P := by
  subst hj
  exact hxa_lald hI hs (hn_ix h0 h1).1 (hn_ix h0 h1).2 (k _ rfl)
theorem hxj_last {i m : Nat} {j : Int32} {x : Int64} {ej : Int} (hI : hc_get tb pc = some (.lastore, len, r1, r2)) (hs : hc_get hs_sh i = some (1, 2, [m])) (hj : j.toInt = ej) (h0 : 0 ≤ ej) (h1 : ej < (m : Int)) (hA : hJ Q Bn Br A0 A) (hQ : ¬ Q = 0) (k : ∀ A' : hs_A, hJ Q Bn Br A0 A' → A'.1 = A.1 → A'.2.1 = A.2.1 → hxa d ret tb (pc + 1) l st A' P) : hxa d ret tb pc l (.long x :: .int j :: .ref (i + 1) :: st) A P := by
  subst hj
  exact hxa_last hI hs (hn_ix h0 h1).1 (hn_ix h0 h1).2 (k _ (hA.setL hQ) rfl rfl)
theorem hxj_iastV1 {j x : Int32} {ej : Int} (hI : hc_get tb pc = some (.iastore, len, r1, r2)) (hj : j.toInt = ej) (h0 : 0 ≤ ej) (h1 : ej < 408) (hA : hJ 1 Bn Br A0 A) (hv : hVs x) (k : ∀ A' : hs_A, hJ 1 Bn Br A0 A' → A'.1 = A.1 → A'.2.1 = hs_up A.2.1 7 j.toNatClampNeg x → A'.2.2 = A.2.2 → hxa d ret tb (pc + 1) l st A' P) : hxa d ret tb pc l (.int x :: .int j :: .ref 8 :: st) A P := by
  subst hj
  have h := hA.2.2.2.2
  exact hxa_iast (i := 7) (m := 408) hI (by rfl) (hn_ix h0 h1).1 (hn_ix h0 h1).2 (k _ (hA.setG (hbokN (by rfl)) (by rfl) (by rfl) ⟨h.1, hVs_up h.2.1 hv, h.2.2.imp id (fun w => hPg_ne w (by decide))⟩) rfl rfl rfl)
theorem hxj_iastV2 {j x : Int32} {ej : Int} (hI : hc_get tb pc = some (.iastore, len, r1, r2)) (hj : j.toInt = ej) (h0 : 0 ≤ ej) (h1 : ej < 408) (hA : hJ 2 Bn Br A0 A) (hv : hVs x) (k : ∀ A' : hs_A, hJ 2 Bn Br A0 A' → A'.1 = A.1 → A'.2.1 = hs_up A.2.1 16 j.toNatClampNeg x → A'.2.2 = A.2.2 → hxa d ret tb (pc + 1) l st A' P) : hxa d ret tb pc l (.int x :: .int j :: .ref 17 :: st) A P := by
  subst hj
  have h := hA.2.2.2.2
  exact hxa_iast (i := 16) (m := 408) hI (by rfl) (hn_ix h0 h1).1 (hn_ix h0 h1).2 (k _ (hA.setG (hbokN (by rfl)) (by rfl) (by rfl) ⟨h.1, hVs_up h.2.1 hv, h.2.2.imp id (fun w => hPg_ne w (by decide))⟩) rfl rfl rfl)
theorem hxj_iastV6 {j x : Int32} {ej : Int} (hI : hc_get tb pc = some (.iastore, len, r1, r2)) (hj : j.toInt = ej) (h0 : 0 ≤ ej) (h1 : ej < 408) (hA : hJ 6 Bn Br A0 A) (hv : hVs x) (k : ∀ A' : hs_A, hJ 6 Bn Br A0 A' → A'.1 = A.1 → A'.2.1 = hs_up A.2.1 7 j.toNatClampNeg x → A'.2.2 = A.2.2 → hxa d ret tb (pc + 1) l st A' P) : hxa d ret tb pc l (.int x :: .int j :: .ref 8 :: st) A P := by
  subst hj
  have h := hA.2.2.2.2
  exact hxa_iast (i := 7) (m := 408) hI (by rfl) (hn_ix h0 h1).1 (hn_ix h0 h1).2 (k _ (hA.setG (hbokN (by rfl)) (by rfl) (by rfl) ⟨⟨h.1.1, hVs_up h.1.2 hv⟩, hPg_ne h.2 (by decide)⟩) rfl rfl rfl)
theorem hxj_iastV7 {j x : Int32} {ej : Int} (hI : hc_get tb pc = some (.iastore, len, r1, r2)) (hj : j.toInt = ej) (h0 : 0 ≤ ej) (h1 : ej < 408) (hA : hJ 7 Bn Br A0 A) (hv : hVs x) (k : ∀ A' : hs_A, hJ 7 Bn Br A0 A' → A'.1 = A.1 → A'.2.1 = hs_up A.2.1 16 j.toNatClampNeg x → A'.2.2 = A.2.2 → hxa d ret tb (pc + 1) l st A' P) : hxa d ret tb pc l (.int x :: .int j :: .ref 17 :: st) A P := by
  subst hj
  have h := hA.2.2.2.2
  exact hxa_iast (i := 16) (m := 408) hI (by rfl) (hn_ix h0 h1).1 (hn_ix h0 h1).2 (k _ (hA.setG (hbokN (by rfl)) (by rfl) (by rfl) ⟨⟨h.1.1, hVs_up h.1.2 hv⟩, hPg_ne h.2 (by decide)⟩) rfl rfl rfl)
theorem hxj_iastP1 {j x : Int32} {ej ex : Int} (hI : hc_get tb pc = some (.iastore, len, r1, r2)) (hj : j.toInt = ej) (h0 : 0 ≤ ej) (h1 : ej < 24) (hx : x.toInt = ex) (hA : hJ 1 Bn Br A0 A) (hp : ¬ (A.1 20 7).toInt = 0 ∨ (0 ≤ ex ∧ ex ≤ 255)) (k : ∀ A' : hs_A, hJ 1 Bn Br A0 A' → A'.1 = A.1 → A'.2.1 = hs_up A.2.1 5 j.toNatClampNeg x → A'.2.2 = A.2.2 → hxa d ret tb (pc + 1) l st A' P) : hxa d ret tb pc l (.int x :: .int j :: .ref 6 :: st) A P := by
  subst hj
  subst hx
  have h := hA.2.2.2.2
  refine hxa_iast (i := 5) (m := 24) hI (by rfl) (hn_ix h0 h1).1 (hn_ix h0 h1).2 (k _ (hA.setG (hbokN (by rfl)) (by rfl) (by rfl) ⟨h.1, hVs_ne h.2.1 (by decide), ?_⟩) rfl rfl rfl)
  rcases hp with hp | hp
  · exact Or.inl hp
  · exact h.2.2.imp id (fun w => hPg_up w hp.1 hp.2)
theorem hxj_putLate1 {z : Nat} {x : Int32} {ex : Int} (hI : hc_get tb pc = some (.putfield z, len, 4, 7)) (hx : x.toInt = ex) (hA : hJ 1 Bn Br A0 A) (hp : ¬ ex = 0) (k : ∀ A' : hs_A, hJ 1 Bn Br A0 A' → A'.1 = hs_up A.1 20 7 x → A'.2 = A.2 → hxa d ret tb (pc + 3) l st A' P) : hxa d ret tb pc l (.int x :: .ref 21 :: st) A P := by
  subst hx
  have h := hA.2.2.2.2
  refine hxa_putI (i := 20) hI (by rfl) (by rfl) (by rfl) (k _ ⟨⟨hup3 (fun a b z => hb_ok (hb_f a b) z) hA.1.1 (hbokN (by rfl)), hA.1.2⟩, hA.2.1, ⟨fun a b e => ?_, hA.2.2.1.2⟩, hA.2.2.2.1, ⟨h.1, h.2.1, Or.inl ?_⟩⟩ rfl rfl)
  · show hs_up A.1 20 7 x a b = _
    rw [hup2 (fun w => by obtain ⟨rfl, rfl⟩ := w; cases e)]
    exact hA.2.2.1.1 a b e
  · show ¬ (hs_up A.1 20 7 x 20 7).toInt = 0
    rw [hup1]
    exact hp
theorem hxj_iastP2 {j x : Int32} {ej ex : Int} (hI : hc_get tb pc = some (.iastore, len, r1, r2)) (hj : j.toInt = ej) (h0 : 0 ≤ ej) (h1 : ej < 24) (hx : x.toInt = ex) (hA : hJ 2 Bn Br A0 A) (hp : ¬ (A.1 20 7).toInt = 0 ∨ (0 ≤ ex ∧ ex ≤ 255)) (k : ∀ A' : hs_A, hJ 2 Bn Br A0 A' → A'.1 = A.1 → A'.2.1 = hs_up A.2.1 14 j.toNatClampNeg x → A'.2.2 = A.2.2 → hxa d ret tb (pc + 1) l st A' P) : hxa d ret tb pc l (.int x :: .int j :: .ref 15 :: st) A P := by
  subst hj
  subst hx
  have h := hA.2.2.2.2
  refine hxa_iast (i := 14) (m := 24) hI (by rfl) (hn_ix h0 h1).1 (hn_ix h0 h1).2 (k _ (hA.setG (hbokN (by rfl)) (by rfl) (by rfl) ⟨h.1, hVs_ne h.2.1 (by decide), ?_⟩) rfl rfl rfl)
  rcases hp with hp | hp
  · exact Or.inl hp
  · exact h.2.2.imp id (fun w => hPg_up w hp.1 hp.2)
theorem hxj_putLate2 {z : Nat} {x : Int32} {ex : Int} (hI : hc_get tb pc = some (.putfield z, len, 4, 7)) (hx : x.toInt = ex) (hA : hJ 2 Bn Br A0 A) (hp : ¬ ex = 0) (k : ∀ A' : hs_A, hJ 2 Bn Br A0 A' → A'.1 = hs_up A.1 20 7 x → A'.2 = A.2 → hxa d ret tb (pc + 3) l st A' P) : hxa d ret tb pc l (.int x :: .ref 21 :: st) A P := by
  subst hx
  have h := hA.2.2.2.2
  refine hxa_putI (i := 20) hI (by rfl) (by rfl) (by rfl) (k _ ⟨⟨hup3 (fun a b z => hb_ok (hb_f a b) z) hA.1.1 (hbokN (by rfl)), hA.1.2⟩, hA.2.1, ⟨fun a b e => ?_, hA.2.2.1.2⟩, hA.2.2.2.1, ⟨h.1, h.2.1, Or.inl ?_⟩⟩ rfl rfl)
  · show hs_up A.1 20 7 x a b = _
    rw [hup2 (fun w => by obtain ⟨rfl, rfl⟩ := w; cases e)]
    exact hA.2.2.1.1 a b e
  · show ¬ (hs_up A.1 20 7 x 20 7).toInt = 0
    rw [hup1]
    exact hp
theorem hX246z {C m : Nat} {a2 : Int32} (hA : hJ Q Bn Br A0 A) (hC : hc_get hs_sh C = some (0, 1, [m])) (hm : m < 100000) (hx : hb_ok (hb_a C) a2) (hr : hr_a Q C = true) (hq' : hq Q C = true) : hxC (d + 1) 246 hm_m246 [.ref (C + 1), .int a2] A (fun r A' => (hJ Q Bn Br A0 A' ∧ ∀ b, b < m → A'.2.1 C b = a2) ∧ r = none) := by
  refine hxC.of (by rfl) ?_
  refine hxa_iconst (by rfl) rfl ?_
  refine hxa_s1 (by rfl) (Or.inl ⟨_, rfl, rfl⟩) rfl ?_
  refine hxa_aload_n (by rfl) rfl ?_
  refine hxa_alen (by rfl) rfl hC (hn_top (fun z ez => ?_))
  have hz : z.toInt = m := hn_c ez (by omega)
  refine hxa_s1 (by rfl) (Or.inl ⟨_, rfl, rfl⟩) rfl ?_
  have L : ∀ (n : Nat) (i : Int32) (A1 : hs_A) (h1 : hJ Q Bn Br A0 A1) (hf : ∀ b : Nat, (b : Int) < i.toInt → A1.2.1 C b = a2) (h0 : 0 ≤ i.toInt) (h2 : i.toInt ≤ m) (hn : (m : Int) - i.toInt < n), hxa d none hm_t246 5 [.ref (C + 1), .int a2, .int i, .int z] [] A1 (fun r A' => (hJ Q Bn Br A0 A' ∧ ∀ b, b < m → A'.2.1 C b = a2) ∧ r = none) := by
    intro n
    induction n with
    | zero => intro i A1 h1 hf h0 h2 hn; exact False.elim (by omega)
    | succ n ih =>
      intro i A1 h1 hf h0 h2 hn
      refine hxa_iload_n (by rfl) rfl ?_
      refine hxa_iload_n (by rfl) rfl ?_
      refine hxj_cge (by rfl) rfl hz (fun q => ?_) (fun q => ?_)
      · exact hxa_return (by rfl) rfl ⟨⟨h1, fun b hb => hf b (by omega)⟩, rfl⟩
      · refine hxa_aload_n (by rfl) rfl ?_
        refine hxa_iload_n (by rfl) rfl ?_
        refine hxa_iload_n (by rfl) rfl ?_
        refine hxj_iast (by rfl) hC rfl (by omega) (by omega) h1 hx hr hq' (fun A2 h2 e2 f2 g2 => ?_)
        refine hxj_iinc (by rfl) rfl rfl hk_1 (by omega) (by omega) (fun _ => rfl) (fun i2 e => ?_)
        refine hxa_goto (by rfl) ?_
        refine ih i2 A2 h2 (fun b hb => ?_) (by omega) (by omega) (by omega)
        have hc := hn_cn h0
        rw [f2]
        by_cases w : b = i.toNatClampNeg
        · subst w
          rw [hup1]
        · rw [hup2 (fun u => w u.2)]
          exact hf b (by omega)
  have k0 := hk_0
  exact L (m + 1) _ A hA (fun b hb => by omega) (by omega) (by omega) (by omega)
theorem hxj_putRT {z T : Nat} (hI : hc_get tb pc = some (.putfield z, len, 4, 2)) (hT : hTT T) (hA : hJ 0 Bn Br A A) (hq' : Q = 8 ∧ T = 2 ∨ Q = 9 ∧ T = 11) (k : ∀ A' : hs_A, hJ Q Bn Br A A' → A'.1 = A.1 → hxa d ret tb (pc + 3) l st A' P) : hxa d ret tb pc l (.ref (T + 1) :: .ref 21 :: st) A P := hxa_putR (i := 20) hI rfl rfl rfl (k _ (hJ.startP hT hA hq') rfl)
theorem hixf_cons (x : Int32) (b : Nat) (l : List Nat) (k : Nat) : hc_ixf x (b :: l) k = (match decide (Int32.ofNat b = x) with
  | true => Int32.ofNat k
  | false => hc_ixf x l (k + 1)) := rfl
theorem hixf_rng (x : Int32) : ∀ (l : List Nat) (k : Nat), k + l.length < 1000 → -1 ≤ (hc_ixf x l k).toInt ∧ (hc_ixf x l k).toInt < (k : Int) + l.length := by
  intro l
  induction l with
  | nil =>
    intro k hk
    show -1 ≤ (-1 : Int32).toInt ∧ (-1 : Int32).toInt < (k : Int) + (0 : Nat)
    have : (-1 : Int32).toInt = -1 := by decide
    omega
  | cons b l ih =>
    intro k hk
    have hl : (b :: l).length = l.length + 1 := rfl
    have h1 := hn_c (n := k) rfl (by omega)
    have h2 := ih (k + 1) (by omega)
    rw [hixf_cons]
    cases decide (Int32.ofNat b = x) with
    | true =>
      show -1 ≤ (Int32.ofNat k).toInt ∧ (Int32.ofNat k).toInt < (k : Int) + (b :: l).length
      omega
    | false =>
      show -1 ≤ (hc_ixf x l (k + 1)).toInt ∧ (hc_ixf x l (k + 1)).toInt < (k : Int) + (b :: l).length
      omega
theorem hxj_strIdx {z : Nat} {x : Int32} (hI : hc_get tb pc = some (.invokevirtual z, len, 2, 7)) (hcat : Nat.ble (hc_cat st) 8 = true) (K : ∀ v : Int32, -1 ≤ v.toInt → v.toInt ≤ 8 → hxa d ret tb (pc + 3) l (.int v :: st) A P) : hxa d ret tb pc l (.int x :: .retAddr 0 :: st) A P := by
  have h := hixf_rng x (hc_txt 0) 0 (by decide)
  have e : (hc_txt 0).length = 9 := by decide
  exact hxa_strIdx hI hcat (K _ h.1 (by omega))
theorem hxj_strLen {z : Nat} (hI : hc_get tb pc = some (.invokevirtual z, len, 0, 7)) (hcat : Nat.ble (hc_cat st) 8 = true) (K : ∀ v : Int32, v.toInt = 102 → hxa d ret tb (pc + 3) l (.int v :: st) A P) : hxa d ret tb pc l (.retAddr 1 :: st) A P := hxa_strLen hI hcat (K _ (by decide))
theorem hxj_strChar {z : Nat} {i : Int32} {ei : Int} (hI : hc_get tb pc = some (.invokevirtual z, len, 1, 7)) (hcat : Nat.ble (hc_cat st) 8 = true) (hi : i.toInt = ei) (h0 : 0 ≤ ei) (h1 : ei < 102) (K : ∀ v : Int32, hxa d ret tb (pc + 3) l (.int v :: st) A P) : hxa d ret tb pc l (.int i :: .retAddr 1 :: st) A P := by
  subst hi
  have e : (hc_txt 1).length = 102 := by decide
  have hlt : i.toNatClampNeg < (hc_txt 1).length := by rw [e]; show i.toInt.toNat < 102; omega
  exact hxa_strChar (k := 1) (b := (hc_txt 1)[i.toNatClampNeg]) hI hcat (hn_ix0 rfl h0) (List.getElem?_eq_getElem hlt) (K _)
end HPR
