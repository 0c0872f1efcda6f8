section HEND
variable {Bn Br : Int} {A0 A : hs_A}
theorem hVl.fr {A0 A : hs_A} (hz : hZ A0) (e18 : A.1 367 18 = A0.1 367 18) (fr : ∀ c, 383 ≤ c → c ≤ 391 → ∀ j, A.2.1 c j = A0.2.1 c j) : hVl (A.1 367 18).toInt A := by
  rw [e18]
  exact hz.2.2.2.1.mv hz.2.2.2.2.1 (fun c j hl => fr c (by unfold hlr at hl; omega) (by unfold hlr at hl; omega) j)
theorem hlaw9 {R : Nat → Bool} (h : (R 383 || (R 384 || (R 385 || (R 386 || (R 387 || (R 388 || (R 389 || (R 390 || R 391)))))))) = false) (c : Nat) (q1 : 383 ≤ c) (q2 : c ≤ 391) : R c = false := by
  simp only [Bool.or_eq_false_iff] at h
  have : c = 383 ∨ c = 384 ∨ c = 385 ∨ c = 386 ∨ c = 387 ∨ c = 388 ∨ c = 389 ∨ c = 390 ∨ c = 391 := by omega
  rcases this with rfl | rfl | rfl | rfl | rfl | rfl | rfl | rfl | rfl
  · exact h.1
  · exact h.2.1
  · exact h.2.2.1
  · exact h.2.2.2.1
  · exact h.2.2.2.2.1
  · exact h.2.2.2.2.2.1
  · exact h.2.2.2.2.2.2.1
  · exact h.2.2.2.2.2.2.2.1
  · exact h.2.2.2.2.2.2.2.2
theorem hJ.end1 (h : hJ 1 Bn Br A0 A) (h3 : A0.2.2.2 0 3 = 12) (h4 : A0.2.2.2 0 4 = 3) : hJ 0 Bn Br A A ∧ A.2.2.2 0 3 = 12 ∧ A.2.2.2 0 4 = 3 ∧ A.1 367 2 = A0.1 367 2 := by
  have fr := h.2.2.1
  have hz := h.2.2.2.1
  have e3 : A.2.2.2 0 3 = 12 := (fr.2.2.2 0 3 rfl).trans h3
  have e4 : A.2.2.2 0 4 = 3 := (fr.2.2.2 0 4 rfl).trans h4
  refine ⟨⟨h.1, h.2.1, ⟨fun _ _ _ => rfl, fun _ _ _ => rfl, fun _ => rfl, fun _ _ _ => rfl⟩, ⟨Or.inr ⟨e3, e4⟩, ?_, fun T hT j => ?_, hVl.fr hz (fr.1 367 18 rfl) (fun c q1 q2 => fr.2.1 c (hlaw9 (R := fun c => hr_a 1 c) rfl c q1 q2)), ?_⟩, True.intro⟩, e3, e4, fr.1 367 2 rfl⟩
  · rw [e3]
    intro j hj
    have q := hz.2.1 j hj
    rw [h3] at q
    rw [fr.2.1 14 rfl j]
    exact q
  · show hVs (A.2.1 (T + 5) j)
    rcases hT with rfl | rfl
    · exact h.2.2.2.2.2.1 j
    · rw [fr.2.1 16 rfl j]; exact hz.2.2.1 11 (Or.inr rfl) j
  · rw [fr.1 367 18 rfl]
    exact hz.2.2.2.2
theorem hJ.swap1 (h : hJ 0 Bn Br A A) (h3 : A.2.2.2 0 3 = 12) (h4 : A.2.2.2 0 4 = 3) (hp : hPg A 5) : hJ 0 Bn Br (A.1, A.2.1, A.2.2.1, hs_upN (hs_upN A.2.2.2 0 3 3) 0 4 12) (A.1, A.2.1, A.2.2.1, hs_upN (hs_upN A.2.2.2 0 3 3) 0 4 12) := by
  have hz := h.2.2.2.1
  have e3 : hs_upN (hs_upN A.2.2.2 0 3 3) 0 4 12 0 3 = 3 := by simp [hs_upN]
  have e4 : hs_upN (hs_upN A.2.2.2 0 3 3) 0 4 12 0 4 = 12 := by simp [hs_upN]
  have e5 : hs_upN (hs_upN A.2.2.2 0 3 3) 0 4 12 323 5 = A.2.2.2 323 5 := by simp [hs_upN]
  refine ⟨⟨h.1.1, h.1.2.1, by show hs_upN (hs_upN A.2.2.2 0 3 3) 0 4 12 323 5 = 7 ∨ _; rw [e5]; exact h.1.2.2⟩, h.2.1, ⟨fun _ _ _ => rfl, fun _ _ _ => rfl, fun _ => rfl, fun _ _ _ => rfl⟩, ⟨Or.inl ⟨e3, e4⟩, ?_, hz.2.2.1, ?_, hz.2.2.2.2⟩, True.intro⟩
  · show hPg _ (hs_upN (hs_upN A.2.2.2 0 3 3) 0 4 12 0 3 + 2)
    rw [e3]
    exact hp
  · intro a ha hb
    exact (hz.2.2.2.1 a ha hb).imp id (fun q => ⟨q.1, q.2.1, fun b h3 h4 => q.2.2 b h3 h4⟩)
theorem hJ.end2 (h : hJ 2 Bn Br A0 A) (h3 : A0.2.2.2 0 3 = 3) (h4 : A0.2.2.2 0 4 = 12) : hJ 0 Bn Br A A ∧ A.2.2.2 0 3 = 3 ∧ A.2.2.2 0 4 = 12 ∧ A.1 367 2 = A0.1 367 2 := by
  have fr := h.2.2.1
  have hz := h.2.2.2.1
  have e3 : A.2.2.2 0 3 = 3 := (fr.2.2.2 0 3 rfl).trans h3
  have e4 : A.2.2.2 0 4 = 12 := (fr.2.2.2 0 4 rfl).trans h4
  refine ⟨⟨h.1, h.2.1, ⟨fun _ _ _ => rfl, fun _ _ _ => rfl, fun _ => rfl, fun _ _ _ => rfl⟩, ⟨Or.inl ⟨e3, e4⟩, ?_, fun T hT j => ?_, hVl.fr hz (fr.1 367 18 rfl) (fun c q1 q2 => fr.2.1 c (hlaw9 (R := fun c => hr_a 2 c) rfl c q1 q2)), ?_⟩, True.intro⟩, e3, e4, fr.1 367 2 rfl⟩
  · rw [e3]
    intro j hj
    have q := hz.2.1 j hj
    rw [h3] at q
    rw [fr.2.1 5 rfl j]
    exact q
  · show hVs (A.2.1 (T + 5) j)
    rcases hT with rfl | rfl
    · rw [fr.2.1 7 rfl j]; exact hz.2.2.1 2 (Or.inl rfl) j
    · exact h.2.2.2.2.2.1 j
  · rw [fr.1 367 18 rfl]
    exact hz.2.2.2.2
theorem hJ.swap2 (h : hJ 0 Bn Br A A) (h3 : A.2.2.2 0 3 = 3) (h4 : A.2.2.2 0 4 = 12) (hp : hPg A 14) : hJ 0 Bn Br (A.1, A.2.1, A.2.2.1, hs_upN (hs_upN A.2.2.2 0 3 12) 0 4 3) (A.1, A.2.1, A.2.2.1, hs_upN (hs_upN A.2.2.2 0 3 12) 0 4 3) := by
  have hz := h.2.2.2.1
  have e3 : hs_upN (hs_upN A.2.2.2 0 3 12) 0 4 3 0 3 = 12 := by simp [hs_upN]
  have e4 : hs_upN (hs_upN A.2.2.2 0 3 12) 0 4 3 0 4 = 3 := by simp [hs_upN]
  have e5 : hs_upN (hs_upN A.2.2.2 0 3 12) 0 4 3 323 5 = A.2.2.2 323 5 := by simp [hs_upN]
  refine ⟨⟨h.1.1, h.1.2.1, by show hs_upN (hs_upN A.2.2.2 0 3 12) 0 4 3 323 5 = 7 ∨ _; rw [e5]; exact h.1.2.2⟩, h.2.1, ⟨fun _ _ _ => rfl, fun _ _ _ => rfl, fun _ => rfl, fun _ _ _ => rfl⟩, ⟨Or.inr ⟨e3, e4⟩, ?_, hz.2.2.1, ?_, hz.2.2.2.2⟩, True.intro⟩
  · show hPg _ (hs_upN (hs_upN A.2.2.2 0 3 12) 0 4 3 0 3 + 2)
    rw [e3]
    exact hp
  · intro a ha hb
    exact (hz.2.2.2.1 a ha hb).imp id (fun q => ⟨q.1, q.2.1, fun b h3 h4 => q.2.2 b h3 h4⟩)
theorem hJ.to10 (h : hJ 0 Bn Br A A) : hJ 10 Bn Br A A := ⟨h.1, h.2.1, ⟨fun _ _ _ => rfl, fun _ _ _ => rfl, fun _ => rfl, fun _ _ _ => rfl⟩, h.2.2.2.1, True.intro⟩
theorem hJ.end10 (h : hJ 10 Bn Br A0 A) : hJ 0 Bn Br A A ∧ A.2.2.2 0 3 = A0.2.2.2 0 3 ∧ A.2.2.2 0 4 = A0.2.2.2 0 4 := by
  have fr := h.2.2.1
  have hz := h.2.2.2.1
  refine ⟨⟨h.1, h.2.1, ⟨fun _ _ _ => rfl, fun _ _ _ => rfl, fun _ => rfl, fun _ _ _ => rfl⟩, hz.mv (fr.2.2.2 0 3 rfl) (fr.2.2.2 0 4 rfl) (fun j => ⟨fr.2.1 5 rfl j, fr.2.1 14 rfl j⟩) (fun j => ⟨fr.2.1 7 rfl j, fr.2.1 16 rfl j⟩) (hVl.fr hz (fr.1 367 18 rfl) (fun c q1 q2 => fr.2.1 c (hlaw9 (R := fun c => hr_a 10 c) rfl c q1 q2))) ?_, True.intro⟩, fr.2.2.2 0 3 rfl, fr.2.2.2 0 4 rfl⟩
  rw [fr.1 367 18 rfl]
  exact hz.2.2.2.2
/-- the model's copy of the tape: mode 3 -/
theorem hJ.to3 (h : hJ 0 Bn Br A A) : hJ 3 Bn Br A A := ⟨h.1, h.2.1, ⟨fun _ _ _ => rfl, fun _ _ _ => rfl, fun _ => rfl, fun _ _ _ => rfl⟩, h.2.2.2.1, True.intro⟩
theorem hJ.end3 (h : hJ 3 Bn Br A0 A) : hJ 0 Bn Br A A ∧ A.1 0 1 = A0.1 0 1 ∧ A.1 367 18 = A0.1 367 18 := by
  have fr := h.2.2.1
  have hz := h.2.2.2.1
  refine ⟨⟨h.1, h.2.1, ⟨fun _ _ _ => rfl, fun _ _ _ => rfl, fun _ => rfl, fun _ _ _ => rfl⟩, hz.mv (fr.2.2.2 0 3 rfl) (fr.2.2.2 0 4 rfl) (fun j => ⟨fr.2.1 5 rfl j, fr.2.1 14 rfl j⟩) (fun j => ⟨fr.2.1 7 rfl j, fr.2.1 16 rfl j⟩) (hVl.fr hz (fr.1 367 18 rfl) (fun c q1 q2 => fr.2.1 c (hlaw9 (R := fun c => hr_a 3 c) rfl c q1 q2))) ?_, True.intro⟩, fr.1 0 1 rfl, fr.1 367 18 rfl⟩
  rw [fr.1 367 18 rfl]
  exact hz.2.2.2.2
end HEND
