section HXE
variable {d : Nat} {ret : Option FieldType} {tb : hc_K} {pc len r1 r2 : Nat} {l st : List Value} {A : hs_A} {P : Option Value → hs_A → Prop}
theorem hxa_tabOut {dflt lo hi : Int} {offs : Array Int} {x : Int32} (hI : hc_get tb pc = some (.tableswitch dflt lo hi offs, len, r1, r2)) (hx : x.toInt < lo ∨ hi < x.toInt) {tgt : Nat} (ht : (pc : Int) + dflt = (tgt : Int)) (k : hxa d ret tb tgt l st A P) : hxa d ret tb pc l (.int x :: st) A P := fun h hR => hx_step 0 (fun g _ => by
  unfold hc_step1
  simp only [hI]
  show hi_tableswitch (0, fun _ => none) dflt lo hi offs pc l (.int x :: st) hs_n h 0 0 = _
  unfold hi_tableswitch
  dsimp only
  have h1 : (decide (x.toInt < lo) || decide (hi < x.toInt)) = true := by simp [hx]
  rw [h1]
  dsimp only
  rw [ht, decide_eq_true (by omega : (0 : Int) ≤ (tgt : Int))]
  rfl) (k h hR)
theorem hxa_tabIn {dflt lo hi off : Int} {offs : Array Int} {x : Int32} (hI : hc_get tb pc = some (.tableswitch dflt lo hi offs, len, r1, r2)) (h1 : ¬ x.toInt < lo) (h2 : ¬ hi < x.toInt) (ho : offs.toList[(x.toInt - lo).toNat]? = some off) {tgt : Nat} (ht : (pc : Int) + off = (tgt : Int)) (k : hxa d ret tb tgt l st A P) : hxa d ret tb pc l (.int x :: st) A P := fun h hR => hx_step 0 (fun g _ => by
  unfold hc_step1
  simp only [hI]
  show hi_tableswitch (0, fun _ => none) dflt lo hi offs pc l (.int x :: st) hs_n h 0 0 = _
  unfold hi_tableswitch
  dsimp only
  have h3 : (decide (x.toInt < lo) || decide (hi < x.toInt)) = false := by simp [h1, h2]
  rw [h3]
  dsimp only
  rw [hc_nth_eq, ho]
  dsimp only
  rw [ht, decide_eq_true (by omega : (0 : Int) ≤ (tgt : Int))]
  rfl) (k h hR)
theorem hs_ar_len (A : hs_A) (i m : Nat) : (hs_ar A i m).length = m := by simp [hs_ar]
theorem hxa_alen {i m t : Nat} (hI : hc_get tb pc = some (.arraylength, len, r1, r2)) (ht : Nat.ble 6 t = false) (hs : hc_get hs_sh i = some (0, t, [m])) (k : hxa d ret tb (pc + 1) l (.int (Int32.ofNat m) :: st) A P) : hxa d ret tb pc l (.ref (i + 1) :: st) A P := fun h hR => hx_step 0 (fun g _ => by
  unfold hc_step1
  simp only [hI]
  show hi_arraylength (0, fun _ => none) pc l (.ref (i + 1) :: st) hs_n h 0 0 = _
  unfold hi_arraylength
  dsimp only
  have hg : hc_get h i = some (.inl (t, hs_ar A i m)) := (hR i _ hs).trans (congrArg some (hs_cell0 A i t m))
  rw [hg]
  dsimp only
  rw [ht]
  dsimp only
  rw [hs_ar_len]
  rfl) (k h hR)
theorem hxa_zast {i m : Nat} {j x : Int32} (hI : hc_get tb pc = some (.bastore, len, r1, r2)) (hx : x = 0 ∨ x = 1) (hs : hc_get hs_sh i = some (0, 3, [m])) (h0 : ¬ j < 0) (h1 : j.toNatClampNeg < m) (k : hxa d ret tb (pc + 1) l st (A.1, hs_up A.2.1 i j.toNatClampNeg x, A.2.2) P) : hxa d ret tb pc l (.int x :: .int j :: .ref (i + 1) :: st) A P := fun h hR => by
  obtain ⟨h', hp, hR'⟩ := hs_setI (x := x) hR hs h1
  refine hx_step 0 (fun g _ => ?_) (k h' hR')
  unfold hc_step1
  simp only [hI]
  show hi_bastore pc l (.int x :: .int j :: .ref (i + 1) :: st) hs_n h 0 0 = _
  unfold hi_bastore
  dsimp only
  have hg : hc_get h i = some (.inl (3, hs_ar A i m)) := (hR i _ hs).trans (congrArg some (hs_cell0 A i 3 m))
  rw [hg, hc_arr_ne rfl]
  dsimp only
  have hb : (decide (x = 0) || decide (x = 1)) = true := by simp [hx]
  rw [hb]
  exact hs_ast hg (hs_el h0 (hs_ar_at h1)) hp
def hs_cpy (f : Nat → Nat → Int32) (i0 i1 : Nat) : Nat → Nat → Int32 := fun a b => if a = i1 then f i0 b else f a b
theorem hxa_copy {z i0 i1 m : Nat} {w : Int32} (hI : hc_get tb pc = some (.invokestatic z, len, r1, 8)) (hs0 : hc_get hs_sh i0 = some (0, 1, [m])) (hs1 : hc_get hs_sh i1 = some (0, 1, [m])) (h0 : ¬ w < 0) (h1 : w.toNatClampNeg = m) (hcat : Nat.ble (hc_cat st) 8 = true) (k : hxa d ret tb (pc + 3) l st (A.1, hs_cpy A.2.1 i0 i1, A.2.2) P) : hxa d ret tb pc l (.int w :: .int 0 :: .ref (i1 + 1) :: .int 0 :: .ref (i0 + 1) :: st) A P := fun h hR => by
  have hg0 : hc_get h i0 = some (.inl (1, hs_ar A i0 m)) := (hR i0 _ hs0).trans (congrArg some (hs_cell0 A i0 1 m))
  have hg1 : hc_get h i1 = some (.inl (1, hs_ar A i1 m)) := (hR i1 _ hs1).trans (congrArg some (hs_cell0 A i1 1 m))
  obtain ⟨h', hp⟩ := hc_put_some (e := .inl (1, hs_ar A i0 m)) hg1
  have hR' : hs_Rep h' (A.1, hs_cpy A.2.1 i0 i1, A.2.2) := by
    intro q sh hq
    rw [hc_get_put hp q]
    by_cases e : q = i1
    · subst e
      rw [if_pos rfl]
      cases hq.symm.trans hs1
      rw [hs_cell0]
      refine congrArg (fun z => some (Sum.inl (1, z))) ?_
      unfold hs_ar hs_cpy
      simp
    · rw [if_neg e, hR q sh hq]
      exact congrArg some (hs_cell_ne _ _ sh (fun _ => rfl) (fun k => by simp [hs_cpy, e]) (fun _ => rfl) (fun _ => rfl))
  refine hx_step 0 (fun g _ => ?_) (k h' hR')
  unfold hc_step1
  simp only [hI]
  show hi_invokestatic hm_pg (hx_call g d) r1 8 pc l (.int w :: .int 0 :: .ref (i1 + 1) :: .int 0 :: .ref (i0 + 1) :: st) hs_n h 0 0 = _
  unfold hi_invokestatic
  dsimp only
  rw [hg0, hg1, hc_arrS, hc_arrS]
  dsimp only
  have hall : (hs_ar A i0 m).all hc_isI = true := by
    rw [List.all_eq_true]
    intro v hv
    unfold hs_ar at hv
    obtain ⟨j, -, rfl⟩ := List.mem_map.mp hv
    rfl
  have hc : (decide ((0 : Int32) = 0) && (decide ((0 : Int32) = 0) && (!decide (w < 0) && (Nat.beq w.toNatClampNeg (hs_ar A i0 m).length && (Nat.beq (hs_ar A i0 m).length (hs_ar A i1 m).length && ((hs_ar A i0 m).all hc_isI && Nat.ble (hc_cat st) 8)))))) = true := by
    rw [hall, hcat, hs_ar_len, hs_ar_len, h1, Nat.beq_refl, decide_eq_false h0]
    rfl
  rw [hc]
  dsimp only
  rw [hp]
  rfl
end HXE
