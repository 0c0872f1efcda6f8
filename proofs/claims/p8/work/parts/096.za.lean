/-! from one call to the next -/
theorem hVl.mv {s : Int} {A A' : hs_A} (h : hVl s A) (hs : 0 ≤ s) (e : ∀ c j, hlr s c j → A'.2.1 c j = A.2.1 c j) : hVl s A' := by
  have sg : ∀ x y, hWt s A x y → hWt s A' x y := fun x y w => by
    obtain ⟨h1, h2, h3, h4⟩ := w
    refine ⟨h1, h2, h3, ?_⟩
    by_cases q : y.toInt < x.toInt
    · have e0 : (y.toInt - x.toInt).toNat = 0 := by omega
      rw [e0]
      exact True.intro
    · exact hW_ext _ _ _ (fun i hi => ⟨e 390 _ (by unfold hlr; omega), e 391 _ (by unfold hlr; omega)⟩) h4
  intro a ha hb
  rw [e 383 a (by unfold hlr; omega), e 384 a (by unfold hlr; omega)]
  refine (h a ha hb).imp id (fun w => ⟨w.1, w.2.1, fun b h3 h4 => ?_⟩)
  have v := w.2.2 b h3 h4
  have hb1 := w.1
  have hb2 := w.2.1
  have er : ∀ c, 385 ≤ c → c ≤ 389 → A'.2.1 c b = A.2.1 c b := fun c q1 q2 => e c b (by unfold hlr; omega)
  unfold hVb
  rw [er 385 (by omega) (by omega), er 386 (by omega) (by omega), er 387 (by omega) (by omega), er 388 (by omega) (by omega), er 389 (by omega) (by omega)]
  exact ⟨fun z => ⟨sg _ _ (v.1 z).1, sg _ _ (v.1 z).2⟩, sg _ _ v.2⟩
/-- what stands at a call's start, of another world -/
theorem hZ.mv {A A' : hs_A} (h : hZ A) (h3 : A'.2.2.2 0 3 = A.2.2.2 0 3) (h4 : A'.2.2.2 0 4 = A.2.2.2 0 4) (hp : ∀ j, A'.2.1 5 j = A.2.1 5 j ∧ A'.2.1 14 j = A.2.1 14 j) (hv : ∀ j, A'.2.1 7 j = A.2.1 7 j ∧ A'.2.1 16 j = A.2.1 16 j) (hl : hVl (A'.1 367 18).toInt A') (hl2 : 0 ≤ (A'.1 367 18).toInt ∧ (A'.1 367 18).toInt ≤ 1) : hZ A' := by
  refine ⟨by rw [h3, h4]; exact h.1, ?_, ?_, hl, hl2⟩
  · rw [h3]
    intro j hj
    have q := h.2.1 j hj
    rcases h.1 with ⟨e, -⟩ | ⟨e, -⟩
    · rw [e] at q ⊢
      rw [(hp j).1]
      exact q
    · rw [e] at q ⊢
      rw [(hp j).2]
      exact q
  · intro T hT j
    have q := h.2.2.1 T hT j
    rcases hT with rfl | rfl
    · rw [(hv j).1]
      exact q
    · rw [(hv j).2]
      exact q
theorem hJ.self {Bn Br : Int} {A0 A : hs_A} (h : hJ 0 Bn Br A0 A) : hJ 0 Bn Br A A := by
  have fr := h.2.2.1
  have e18 : A.1 367 18 = A0.1 367 18 := fr.1 367 18 rfl
  have hz := h.2.2.2.1
  refine ⟨h.1, h.2.1, ⟨fun _ _ _ => rfl, fun _ _ _ => rfl, fun _ => rfl, fun _ _ _ => rfl⟩, hz.mv (fr.2.2.2 0 3 rfl) (fr.2.2.2 0 4 rfl) (fun j => ⟨fr.2.1 5 rfl j, fr.2.1 14 rfl j⟩) (fun j => ⟨fr.2.1 7 rfl j, fr.2.1 16 rfl j⟩) ?_ (by rw [e18]; exact hz.2.2.2.2), True.intro⟩
  rw [e18]
  refine hz.2.2.2.1.mv hz.2.2.2.2.1 (fun c j hl => fr.2.1 c ?_ j)
  have : c = 383 ∨ c = 384 ∨ c = 385 ∨ c = 386 ∨ c = 387 ∨ c = 388 ∨ c = 389 ∨ c = 390 ∨ c = 391 := by unfold hlr at hl; omega
  rcases this with rfl | rfl | rfl | rfl | rfl | rfl | rfl | rfl | rfl <;> rfl
theorem hJ.start4 {Q : Nat} {Bn Br : Int} {A : hs_A} (hQ : Q = 4 ∨ Q = 5) (h : hJ 0 Bn Br A A) : hJ Q Bn Br A A := by
  rcases hQ with rfl | rfl
  · exact ⟨h.1, h.2.1, ⟨fun _ _ _ => rfl, fun _ _ _ => rfl, fun _ => rfl, fun _ _ _ => rfl⟩, h.2.2.2.1, fun _ _ _ => rfl⟩
  · exact ⟨h.1, h.2.1, ⟨fun _ _ _ => rfl, fun _ _ _ => rfl, fun _ => rfl, fun _ _ _ => rfl⟩, h.2.2.2.1, fun _ _ _ => rfl⟩
theorem hJ.em {Q : Nat} {Bn Br : Int} {A0 A : hs_A} (hQ : Q = 4 ∨ Q = 5) (h : hJ Q Bn Br A0 A) : hEm A0 A := by
  rcases hQ with rfl | rfl
  · exact h.2.2.2.2
  · exact h.2.2.2.2
/-- the class's cells stand while the model reads -/
theorem hJ.cls4 {Q : Nat} {Bn Br : Int} {A0 A : hs_A} (hQ : Q = 4 ∨ Q = 5) (h : hJ Q Bn Br A0 A) : A.2.2.2 0 3 = A0.2.2.2 0 3 ∧ A.2.2.2 0 4 = A0.2.2.2 0 4 ∧ (∀ j, A.2.1 5 j = A0.2.1 5 j ∧ A.2.1 14 j = A0.2.1 14 j) ∧ (∀ j, A.2.1 7 j = A0.2.1 7 j ∧ A.2.1 16 j = A0.2.1 16 j) ∧ A.1 367 18 = A0.1 367 18 ∧ A.1 0 1 = A0.1 0 1 := by
  have fr := h.2.2.1
  rcases hQ with rfl | rfl
  · exact ⟨fr.2.2.2 0 3 rfl, fr.2.2.2 0 4 rfl, fun j => ⟨fr.2.1 5 rfl j, fr.2.1 14 rfl j⟩, fun j => ⟨fr.2.1 7 rfl j, fr.2.1 16 rfl j⟩, fr.1 367 18 rfl, fr.1 0 1 rfl⟩
  · exact ⟨fr.2.2.2 0 3 rfl, fr.2.2.2 0 4 rfl, fun j => ⟨fr.2.1 5 rfl j, fr.2.1 14 rfl j⟩, fun j => ⟨fr.2.1 7 rfl j, fr.2.1 16 rfl j⟩, fr.1 367 18 rfl, fr.1 0 1 rfl⟩
theorem hJ.end4 {Q : Nat} {Bn Br : Int} {A0 A : hs_A} (hQ : Q = 4 ∨ Q = 5) (h : hJ Q Bn Br A0 A) : hJ 0 Bn Br A A := by
  have c := h.cls4 hQ
  have hz := h.2.2.2.1
  refine ⟨h.1, h.2.1, ⟨fun _ _ _ => rfl, fun _ _ _ => rfl, fun _ => rfl, fun _ _ _ => rfl⟩, hz.mv c.1 c.2.1 c.2.2.1 c.2.2.2.1 ?_ (by rw [c.2.2.2.2.1]; exact hz.2.2.2.2), True.intro⟩
  rw [c.2.2.2.2.1]
  exact hz.2.2.2.1.mv hz.2.2.2.2.1 (h.em hQ)
section HLV
variable {d : Nat} {ret : Option FieldType} {tb : hc_K} {pc len r1 r2 : Nat} {l st : List Value} {A : hs_A} {P : Option Value → hs_A → Prop} {Q : Nat} {Bn Br : Int} {A0 : hs_A}
/-- the side that was told becomes live -/
theorem hxj_putLive {z : Nat} {x : Int32} {s : Int} (hI : hc_get tb pc = some (.putfield z, len, 10, 18)) (hQ : Q = 4 ∨ Q = 5) (hA : hJ Q Bn Br A0 A) (hx : x.toInt = s) (hs : 0 ≤ s ∧ s ≤ 1) (hv : hVr s A) (h1 : (A.1 367 31).toInt ≤ 130 * s + 130) (h2 : (A.1 367 37).toInt ≤ 420 * s + 420) (k : ∀ A' : hs_A, hJ 0 Bn Br A' A' → A'.1 = hs_up A.1 367 18 x → A'.2 = A.2 → hxa d ret tb (pc + 3) l st A' P) : hxa d ret tb pc l (.int x :: .ref 368 :: st) A P := by
  refine hxa_putI (i := 367) hI (by rfl) (by rfl) (by rfl) (k _ ?_ rfl rfl)
  have c := hA.cls4 hQ
  have hz := hA.2.2.2.1
  have e18 : hs_up A.1 367 18 x 367 18 = x := hup1
  have hb : hB (hs_up A.1 367 18 x, A.2) := ⟨hup3 (fun a b z => hb_ok (hb_f a b) z) hA.1.1 (hbok (by rfl) hx hs.1 hs.2), hA.1.2⟩
  refine ⟨hb, hA.2.1, ⟨fun _ _ _ => rfl, fun _ _ _ => rfl, fun _ => rfl, fun _ _ _ => rfl⟩, hz.mv c.1 c.2.1 c.2.2.1 c.2.2.2.1 ?_ (by show 0 ≤ (hs_up A.1 367 18 x 367 18).toInt ∧ (hs_up A.1 367 18 x 367 18).toInt ≤ 1; rw [e18]; omega), True.intro⟩
  show hVl (hs_up A.1 367 18 x 367 18).toInt _
  rw [e18, hx]
  have w := hv.fin h1 h2
  intro a ha hb'
  exact (w a ha hb').imp id (fun q => ⟨q.1, q.2.1, fun b h3 h4 => q.2.2 b h3 h4⟩)
end HLV
