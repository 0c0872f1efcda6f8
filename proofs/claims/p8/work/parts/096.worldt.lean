/-! the world's reads and writes -/
def hs_val (A : hs_A) (i k c : Nat) : Value := match c with
  | 0 => .int (A.1 i k)
  | c + 1 => if c + 1 = 100000 then .ref (A.2.2.2 i k) else .ref (c + 1)
def hs_fs (A : hs_A) (i : Nat) (ks : List Nat) : List Value := (List.range ks.length).map (fun k => hs_val A i k (ks.getD k 0))
def hs_ar (A : hs_A) (i len : Nat) : List Value := (List.range len).map (fun j => .int (A.2.1 i j))
def hs_al (A : hs_A) (i len : Nat) : List Value := (List.range len).map (fun j => .long (A.2.2.1 i j))
theorem hs_cell3 (A : hs_A) (i ci : Nat) (ks : List Nat) : hs_cell A i (3, ci, ks) = .inr (ci, hs_fs A i ks) := by
  unfold hs_cell hs_fs hs_val
  rfl
theorem hs_cell0 (A : hs_A) (i t len : Nat) : hs_cell A i (0, t, [len]) = .inl (t, hs_ar A i len) := rfl
theorem hs_cell1 (A : hs_A) (i t len : Nat) : hs_cell A i (1, t, [len]) = .inl (t, hs_al A i len) := rfl
theorem hs_cell2 (A : hs_A) (i t : Nat) (rs : List Nat) : hs_cell A i (2, t, rs) = .inl (t, rs.map (fun r => .ref r)) := rfl
theorem hs_fs_at {A : hs_A} {i k c : Nat} {ks : List Nat} (hk : hc_nth ks k = some c) : hc_nth (hs_fs A i ks) k = some (hs_val A i k c) := by
  rw [hc_nth_eq] at hk ⊢
  have hlt := (List.getElem?_eq_some_iff.mp hk).1
  unfold hs_fs
  rw [List.getElem?_map, List.getElem?_range hlt, Option.map_some, List.getD_eq_getElem?_getD, hk]
  rfl
theorem hs_ar_at {A : hs_A} {i j len : Nat} (hj : j < len) : hc_nth (hs_ar A i len) j = some (.int (A.2.1 i j)) := by
  rw [hc_nth_eq]
  unfold hs_ar
  rw [List.getElem?_map, List.getElem?_range hj]
  rfl
theorem hs_al_at {A : hs_A} {i j len : Nat} (hj : j < len) : hc_nth (hs_al A i len) j = some (.long (A.2.2.1 i j)) := by
  rw [hc_nth_eq]
  unfold hs_al
  rw [List.getElem?_map, List.getElem?_range hj]
  rfl
theorem hc_put_some {h : hc_H} {i : Nat} {x e : hc_C} (hg : hc_get h i = some x) : ∃ h', hc_put h i e = some h' := by
  unfold hc_get at hg
  unfold hc_put
  split at hg
  · cases hg
  next ch h1 =>
    split at hg
    · cases hg
    next y h2 =>
      rw [h1]
      dsimp only
      rw [h2]
      exact ⟨_, rfl⟩
theorem hs_fs_set {A : hs_A} {i k : Nat} {x : Int32} {ks : List Nat} (hk : hc_nth ks k = some 0) : hc_set (hs_fs A i ks) k (.int x) = hs_fs (hs_up A.1 i k x, A.2) i ks := by
  rw [hc_nth_eq] at hk
  rw [hc_set_eq]
  have hlt := (List.getElem?_eq_some_iff.mp hk).1
  apply List.ext_getElem?
  intro j
  rw [List.getElem?_set]
  unfold hs_fs
  rw [List.length_map, List.length_range]
  by_cases e : k = j
  · subst e
    rw [if_pos rfl, if_pos hlt, List.getElem?_map, List.getElem?_range hlt, Option.map_some, List.getD_eq_getElem?_getD, hk]
    show _ = some (hs_val _ i k 0)
    unfold hs_val hs_up
    simp
  · rw [if_neg e, List.getElem?_map, List.getElem?_map]
    by_cases hj : j < ks.length
    · rw [List.getElem?_range hj, Option.map_some, Option.map_some]
      unfold hs_val hs_up
      have e' : ¬ j = k := fun q => e q.symm
      simp [e']
    · rw [List.getElem?_eq_none (by rw [List.length_range]; omega)]
      rfl
theorem hs_ar_set {A : hs_A} {i j len : Nat} {x : Int32} (hj : j < len) : hc_set (hs_ar A i len) j (.int x) = hs_ar (A.1, hs_up A.2.1 i j x, A.2.2) i len := by
  rw [hc_set_eq]
  apply List.ext_getElem?
  intro q
  rw [List.getElem?_set]
  unfold hs_ar
  rw [List.length_map, List.length_range, List.getElem?_map, List.getElem?_map]
  by_cases e : j = q
  · subst e
    rw [if_pos rfl, if_pos hj, List.getElem?_range hj]
    simp [hs_up]
  · rw [if_neg e]
    by_cases hq : q < len
    · rw [List.getElem?_range hq]
      have e' : ¬ q = j := fun z => e z.symm
      simp [hs_up, e']
    · rw [List.getElem?_eq_none (by rw [List.length_range]; omega)]
      rfl
theorem hs_cell_ne (A B : hs_A) {i : Nat} (sh : Nat × Nat × List Nat) (h1 : ∀ k, A.1 i k = B.1 i k) (h2 : ∀ k, A.2.1 i k = B.2.1 i k) (h3 : ∀ k, A.2.2.1 i k = B.2.2.1 i k) (h4 : ∀ k, A.2.2.2 i k = B.2.2.2 i k) : hs_cell A i sh = hs_cell B i sh := by
  unfold hs_cell
  simp only [h1, h2, h3, h4]
theorem hs_putI {h : hc_H} {A : hs_A} {i ci k : Nat} {x : Int32} {ks : List Nat} (hR : hs_Rep h A) (hs : hc_get hs_sh i = some (3, ci, ks)) (hk : hc_nth ks k = some 0) : ∃ h', hc_put h i (.inr (ci, hc_set (hs_fs A i ks) k (.int x))) = some h' ∧ hs_Rep h' (hs_up A.1 i k x, A.2) := by
  obtain ⟨h', hp⟩ := hc_put_some (e := .inr (ci, hc_set (hs_fs A i ks) k (.int x))) (hR i _ hs)
  refine ⟨h', hp, fun j sh hj => ?_⟩
  rw [hc_get_put hp j]
  by_cases e : j = i
  · subst e
    rw [if_pos rfl]
    cases hj.symm.trans hs
    rw [hs_cell3, hs_fs_set hk]
  · rw [if_neg e, hR j sh hj]
    exact congrArg some (hs_cell_ne _ _ sh (fun k => by simp [hs_up, e]) (fun _ => rfl) (fun _ => rfl) (fun _ => rfl))
theorem hs_setI {h : hc_H} {A : hs_A} {i t j len : Nat} {x : Int32} (hR : hs_Rep h A) (hs : hc_get hs_sh i = some (0, t, [len])) (hj : j < len) : ∃ h', hc_put h i (.inl (t, hc_set (hs_ar A i len) j (.int x))) = some h' ∧ hs_Rep h' (A.1, hs_up A.2.1 i j x, A.2.2) := by
  obtain ⟨h', hp⟩ := hc_put_some (e := .inl (t, hc_set (hs_ar A i len) j (.int x))) (hR i _ hs)
  refine ⟨h', hp, fun q sh hq => ?_⟩
  rw [hc_get_put hp q]
  by_cases e : q = i
  · subst e
    rw [if_pos rfl]
    cases hq.symm.trans hs
    rw [hs_cell0, hs_ar_set hj]
  · rw [if_neg e, hR q sh hq]
    exact congrArg some (hs_cell_ne _ _ sh (fun _ => rfl) (fun k => by simp [hs_up, e]) (fun _ => rfl) (fun _ => rfl))
