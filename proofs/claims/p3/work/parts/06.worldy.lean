theorem hk_lt {x y : Int32} : (hc_cmp .lt x y = true) = (x < y) := by simp [hc_cmp]
theorem hX78 (d : Nat) (x a b : Int32) (A : hs_A) : hxC (d + 1) 78 hm_m78 [.int x, .int a, .int b] A (fun r A' => A' = A ∧ r = some (.int (if a ≤ x ∧ x ≤ b then 1 else 0))) := by
  refine hxC.of rfl ?_
  refine hxa_iload_n (by rfl) rfl ?_
  refine hxa_iload_n (by rfl) rfl ?_
  refine hxa_icmp (by rfl) (fun q => ?_) (fun q => ?_)
  · refine hxa_iconst (by rfl) rfl ?_
    refine hxa_ireturn (by rfl) (by decide) ⟨rfl, ?_⟩
    simp only [hc_cmp, decide_eq_true_eq] at q
    rw [if_neg (fun z => absurd z.1 (Int32.not_le.mpr q))]
    rfl
  · refine hxa_iload_n (by rfl) rfl ?_
    refine hxa_iload_n (by rfl) rfl ?_
    refine hxa_icmp (by rfl) (fun q2 => ?_) (fun q2 => ?_)
    · refine hxa_iconst (by rfl) rfl ?_
      refine hxa_ireturn (by rfl) (by decide) ⟨rfl, ?_⟩
      simp only [hc_cmp, decide_eq_true_eq] at q2
      rw [if_neg (fun z => absurd z.2 (Int32.not_le.mpr q2))]
      rfl
    · refine hxa_iconst (by rfl) rfl ?_
      refine hxa_goto (by rfl) ?_
      refine hxa_ireturn (by rfl) (by decide) ⟨rfl, ?_⟩
      simp only [hc_cmp, decide_eq_false_iff_not] at q q2
      rw [if_pos ⟨Int32.not_lt.mp q, Int32.not_lt.mp q2⟩]
      rfl
