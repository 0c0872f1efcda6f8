/-! new int[N][K]: the outer array and N rows behind it -/
def hv_mH (hp : hv_H) (n N K : Nat) : hv_H := fun j => if j = n then some (.inl (5, N, fun i => if i < N then .ref (n + 1 + i + 1) else .null)) else if n < j ∧ j < n + 1 + N then some (.inl (1, K, fun _ => .int 0)) else hp j
theorem hv_outer (G : hv_G) (c : ClassId) (N n : Nat) : ∀ i : Nat, Jvm.Free.Multi.outerC c N (G.1.1 + n) i = arrV c N (fun j => hv_v G (if j < i then .ref (n + 1 + j + 1) else .null))
  | 0 => by
    show ({ cls := c, slots := Array.replicate N .null, vm := .none } : Cell) = _
    rw [arrV_new]
    refine congrArg (arrV c N) (funext fun j => ?_)
    simp [hv_v]
  | i + 1 => by
    show (Jvm.Free.Multi.outerC c N (G.1.1 + n) i).setSlot i (.ref (G.1.1 + n + 1 + i)) = _
    rw [hv_outer G c N n i, arrV_store]
    refine congrArg (arrV c N) (funext fun j => ?_)
    by_cases e : j = i
    · subst e
      simp only [updV, if_true, Nat.lt_succ_self]
      show Value.ref _ = Value.ref _
      congr 1
      show _ = G.1.1 + (n + 1 + j)
      omega
    · by_cases h : j < i
      · simp [updV, e, h, Nat.lt_succ_of_lt h]
      · simp [updV, e, h, show ¬ j < i + 1 by omega]
section HWM
variable {G : hv_G} {p : Program} {l : Launch} {e : Env} {R : Room} {s : State} {m : MethodId} {args : Array Value} {below : List Frame} {meth : Method} {c : Code} {nL : Nat} {Q : State → Prop} {n : Nat} {hp : hv_H} {cells slots pc : Nat} {lv : List (Nat × Value)} {st : List Value} {Ts : List Cond} {own : String} {cc : ByteArray}
theorem hw_mna (X : hv_X G p s m args c Ts own cc nL) {ix N K : Nat} {a b : Int32} (hd : decode cc pc = .ok (.multianewarray ix 2, 4)) (hw1 : Cond.classLink own ix ("[" ++ (FieldType.array .int).toString) ∈ Ts) (hw2 : Cond.arrayOver (.array .int) ∈ Ts) (hw3 : Cond.arrayClass .int ∈ Ts) (ha : ¬ a < 0) (hb' : ¬ b < 0) (hN : a.toNatClampNeg = N) (hK' : b.toNatClampNeg = K) (g1 : N * 4 ≤ 536870912) (g2 : K * 4 ≤ 536870912) (hc : cells + (1 + N) ≤ R.cells) (hs : slots + (N + N * K) ≤ R.slots)
    (k : hv_W G p l e R s m args below meth c nL Q (n + 1 + N) (hv_mH hp n N K) (cells + 1 + N) (slots + N + N * K) (pc + 4) lv (.ref (n + 1) :: st)) : hv_W G p l e R s m args below meth c nL Q n hp cells slots pc lv (.int b :: .int a :: st) := by
  intro H locs ls h1 h2 h3 h4
  subst hN
  subst hK'
  obtain ⟨hx, hb, hml, hown, hts, hK, hB, hbB, hxK, hX⟩ := X
  intro T hT Xs
  obtain ⟨vm₁, cA, comp, -, fA, fC, hO, -, X', step⟩ := Xs.multianewarray2F hx hown (hts _ hw1) (hts _ hw2) (hts _ hw3) (g := F0 m pc ls (.int b :: .int a :: st.map (hv_v G))) rfl (by rw [hb]; exact hd) rfl ha hb' g1 g2 (by omega) rfl rfl hc hs
  have hcI : comp = G.2.2.2 1 := by
    have hR : s.vm.findClass ("[" ++ (FieldType.int).toString) = some (G.2.2.2 1) := (hK.2 1 _ (hv_tys_at rfl)).2
    exact Option.some.inj (fC.symm.trans hR)
  have hcA : cA = G.2.2.2 5 := by
    have hR : s.vm.findClass ("[" ++ (FieldType.array .int).toString) = some (G.2.2.2 5) := (hK.2 5 _ (hv_tys_at rfl)).2
    exact Option.some.inj (fA.symm.trans hR)
  subst hcI
  subst hcA
  generalize hF : Jvm.Free.Multi.fill (T.setVm vm₁) (G.2.2.2 5) (G.2.2.2 1) a.toNatClampNeg b.toNatClampNeg (defaultValue .int) a.toNatClampNeg = F at X' step
  have hTh : (T.setVm vm₁).heap = H := hT
  obtain ⟨f1, f2, -, -⟩ := Jvm.Free.Multi.fill_facts (T.setVm vm₁) (G.2.2.2 5) (G.2.2.2 1) a.toNatClampNeg b.toNatClampNeg (defaultValue .int) a.toNatClampNeg
  rw [hF, hTh] at f1 f2
  have hold : ∀ x : Nat, x < H.size → F.heap[x]? = H[x]? := fun x hx => by
    have := Jvm.Free.Multi.fill_old (T.setVm vm₁) (G.2.2.2 5) (G.2.2.2 1) a.toNatClampNeg b.toNatClampNeg (defaultValue .int) (a := x) (by rw [hTh]; exact hx) a.toNatClampNeg
    rw [hF, hTh] at this
    exact this
  have hrow : ∀ j : Nat, j < a.toNatClampNeg → F.heap[H.size + 1 + j]? = some (arrV (G.2.2.2 1) b.toNatClampNeg (fun _ => .int 0)) := fun j hj => by
    have := Jvm.Free.Multi.fill_inner (T.setVm vm₁) (G.2.2.2 5) (G.2.2.2 1) a.toNatClampNeg b.toNatClampNeg (defaultValue .int) a.toNatClampNeg j hj
    rw [hF, hTh] at this
    rw [this]
    exact congrArg some (arrV_new _ _ _)
  have hsz : H.size = G.1.1 + n := h1.1
  rw [hsz, hv_outer] at f2
  have hP : hv_P G (n + 1 + a.toNatClampNeg) (hv_mH hp n a.toNatClampNeg b.toNatClampNeg) F.heap := by
    refine ⟨by rw [f1, hsz]; omega, fun i x hi => ?_⟩
    unfold hv_mH at hi
    by_cases e1 : i = n
    · subst e1
      rw [if_pos rfl] at hi
      cases hi
      exact f2
    · rw [if_neg e1] at hi
      by_cases e2 : n < i ∧ i < n + 1 + a.toNatClampNeg
      · rw [if_pos e2] at hi
        cases hi
        have := hrow (i - n - 1) (by omega)
        rw [show H.size + 1 + (i - n - 1) = G.1.1 + i by rw [hsz]; omega] at this
        exact this
      · rw [if_neg e2] at hi
        exact (h1.2 i x hi).kept (hold _ (h1.2 i x hi).lt)
  have hk := k F.heap locs ls hP (hv_low' h2 (by rw [hsz]; omega) hold) h3 h4
  obtain ⟨t, a1, b1⟩ := hk F rfl X'
  refine ⟨t, step t ?_, b1⟩
  have hTz : T.heap.size = G.1.1 + n := by rw [hT]; exact hsz
  rw [hTz]
  exact a1
end HWM
