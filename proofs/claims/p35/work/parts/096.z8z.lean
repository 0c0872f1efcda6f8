theorem hlw {A A' : hs_A} (h383 : A'.2.1 383 = A.2.1 383) (h384 : A'.2.1 384 = A.2.1 384) (h385 : A'.2.1 385 = A.2.1 385) (h386 : A'.2.1 386 = A.2.1 386) (h387 : A'.2.1 387 = A.2.1 387) (h388 : A'.2.1 388 = A.2.1 388) (h389 : A'.2.1 389 = A.2.1 389) (h390 : A'.2.1 390 = A.2.1 390) (h391 : A'.2.1 391 = A.2.1 391) (c : Nat) (q1 : 383 ≤ c) (q2 : c ≤ 391) : A'.2.1 c = A.2.1 c := by
  have : c = 383 ∨ c = 384 ∨ c = 385 ∨ c = 386 ∨ c = 387 ∨ c = 388 ∨ c = 389 ∨ c = 390 ∨ c = 391 := by omega
  rcases this with rfl | rfl | rfl | rfl | rfl | rfl | rfl | rfl | rfl
  · exact h383
  · exact h384
  · exact h385
  · exact h386
  · exact h387
  · exact h388
  · exact h389
  · exact h390
  · exact h391
theorem hVr.cg {s : Int} {A A' : hs_A} (h : hVr s A) (e1 : A'.1 367 31 = A.1 367 31) (e2 : A'.1 367 37 = A.1 367 37) (e : ∀ c, 383 ≤ c → c ≤ 391 → A'.2.1 c = A.2.1 c) : hVr s A' := by
  intro a ha hb
  rw [e 383 (by omega) (by omega), e 384 (by omega) (by omega), e1]
  exact (h a ha hb).imp id (fun w => ⟨w.1, w.2.1, fun i h1 h2 => (w.2.2 i h1 h2).cg e2 (fun c q1 q2 => e c (by omega) q2)⟩)
