/-! the pile of what waits, and the code of a term -/
def hN (W : Nat → Int32) : Nat → Nat → Nat → Prop
  | 0, o, g => o = 0 ∧ g = 0
  | n + 1, o, g => ((W n).toInt = 6 ∧ g = 0 ∧ ∃ o' g', o = o' + 1 ∧ hN W n o' g') ∨ (((W n).toInt = 8 ∨ (W n).toInt = 9) ∧ g = 1 ∧ hN W n o 0) ∨ (((W n).toInt = 10 ∨ (W n).toInt = 15) ∧ ((g = 2 ∧ hN W n o 0) ∨ (g = 3 ∧ hN W n o 1)))
theorem hN_le (W : Nat → Int32) : ∀ (n o g : Nat), hN W n o g → o ≤ n ∧ g ≤ 3 ∧ (g = 0 → n ≤ 3 * o) ∧ (g = 1 → n ≤ 3 * o + 1) ∧ n ≤ 3 * o + 2 := by
  intro n
  induction n with
  | zero => intro o g h; obtain ⟨rfl, rfl⟩ := h; omega
  | succ n ih =>
    intro o g h
    rcases h with ⟨-, rfl, o', g', rfl, h⟩ | ⟨-, rfl, h⟩ | ⟨-, ⟨rfl, h⟩ | ⟨rfl, h⟩⟩
    · have := ih _ _ h
      omega
    · have := ih _ _ h
      omega
    · have := ih _ _ h
      omega
    · have := ih _ _ h
      omega
theorem hN_ext {W W' : Nat → Int32} : ∀ (n o g : Nat), (∀ i, i < n → W' i = W i) → hN W n o g → hN W' n o g := by
  intro n
  induction n with
  | zero => intro o g _ h; exact h
  | succ n ih =>
    intro o g hw h
    have e := hw n (by omega)
    have hw' : ∀ i, i < n → W' i = W i := fun i hi => hw i (by omega)
    rcases h with ⟨h0, h1, o', g', h2, h⟩ | ⟨h0, h1, h⟩ | ⟨h0, ⟨h1, h⟩ | ⟨h1, h⟩⟩
    · exact Or.inl ⟨by rw [e]; exact h0, h1, o', g', h2, ih _ _ hw' h⟩
    · exact Or.inr (Or.inl ⟨by rw [e]; exact h0, h1, ih _ _ hw' h⟩)
    · exact Or.inr (Or.inr ⟨by rw [e]; exact h0, Or.inl ⟨h1, ih _ _ hw' h⟩⟩)
    · exact Or.inr (Or.inr ⟨by rw [e]; exact h0, Or.inr ⟨h1, ih _ _ hw' h⟩⟩)
def hWe (K I : Nat → Int32) : Nat → Nat → Nat → Nat → Prop
  | 0, _, h, h' => h = h'
  | n + 1, c, h, h' => ((K c).toInt = 0 ∧ hWe K I n (c + 1) (h + 1) h') ∨ ((K c).toInt = 1 ∧ (0 ≤ (I c).toInt ∧ (I c).toInt ≤ 8) ∧ hWe K I n (c + 1) (h + 1) h') ∨ ((2 ≤ (K c).toInt ∧ (K c).toInt ≤ 5) ∧ 2 ≤ h ∧ hWe K I n (c + 1) (h - 1) h')
theorem hWe_W {K I : Nat → Int32} : ∀ (n c h h' : Nat), hWe K I n c h h' → hW K I n c h := by
  intro n
  induction n with
  | zero => intro c h h' _; exact True.intro
  | succ n ih =>
    intro c h h' w
    rcases w with ⟨a, w⟩ | ⟨a, b, w⟩ | ⟨a, b, w⟩
    · exact Or.inl ⟨a, ih _ _ _ w⟩
    · exact Or.inr (Or.inl ⟨a, b, ih _ _ _ w⟩)
    · exact Or.inr (Or.inr ⟨a, b, ih _ _ _ w⟩)
theorem hWe_snoc {K I K' I' : Nat → Int32} : ∀ (n c h h' h2 : Nat), (∀ i, i < n → K' (c + i) = K (c + i) ∧ I' (c + i) = I (c + i)) → hWe K I n c h h' → hWe K' I' 1 (c + n) h' h2 → hWe K' I' (n + 1) c h h2 := by
  intro n
  induction n with
  | zero =>
    intro c h h' h2 _ w w2
    have : h = h' := w
    subst this
    exact w2
  | succ n ih =>
    intro c h h' h2 he w w2
    have e := he 0 (by omega)
    have he' : ∀ i, i < n → K' (c + 1 + i) = K (c + 1 + i) ∧ I' (c + 1 + i) = I (c + 1 + i) := fun i hi => by
      have := he (i + 1) (by omega)
      have e2 : c + (i + 1) = c + 1 + i := by omega
      rw [e2] at this
      exact this
    have w2' : hWe K' I' 1 (c + 1 + n) h' h2 := by
      have e2 : c + (n + 1) = c + 1 + n := by omega
      rw [e2] at w2
      exact w2
    have ec : c + 0 = c := rfl
    rw [ec] at e
    rcases w with ⟨a, w⟩ | ⟨a, b, w⟩ | ⟨a, b, w⟩
    · exact Or.inl ⟨by rw [e.1]; exact a, ih _ _ _ _ he' w w2'⟩
    · exact Or.inr (Or.inl ⟨by rw [e.1]; exact a, by rw [e.2]; exact b, ih _ _ _ _ he' w w2'⟩)
    · exact Or.inr (Or.inr ⟨by rw [e.1]; exact a, b, ih _ _ _ _ he' w w2'⟩)
theorem hWe_ext {K I K' I' : Nat → Int32} : ∀ (n c h h' : Nat), (∀ i, i < n → K' (c + i) = K (c + i) ∧ I' (c + i) = I (c + i)) → hWe K I n c h h' → hWe K' I' n c h h' := by
  intro n
  induction n with
  | zero => intro c h h' _ w; exact w
  | succ n ih =>
    intro c h h' he w
    have e := he 0 (by omega)
    have he' : ∀ i, i < n → K' (c + 1 + i) = K (c + 1 + i) ∧ I' (c + 1 + i) = I (c + 1 + i) := fun i hi => by
      have := he (i + 1) (by omega)
      have e2 : c + (i + 1) = c + 1 + i := by omega
      rw [e2] at this
      exact this
    have ec : c + 0 = c := rfl
    rw [ec] at e
    rcases w with ⟨a, w⟩ | ⟨a, b, w⟩ | ⟨a, b, w⟩
    · exact Or.inl ⟨by rw [e.1]; exact a, ih _ _ _ he' w⟩
    · exact Or.inr (Or.inl ⟨by rw [e.1]; exact a, by rw [e.2]; exact b, ih _ _ _ he' w⟩)
    · exact Or.inr (Or.inr ⟨by rw [e.1]; exact a, b, ih _ _ _ he' w⟩)
def hQ (s f : Int) (o g e : Nat) (A : hs_A) : Prop := hN (A.2.1 392) (A.1 367 41).toInt.toNat o g ∧ 0 ≤ (A.1 367 41).toInt ∧ (0 ≤ s ∧ 420 * s ≤ f ∧ f ≤ (A.1 367 37).toInt) ∧ hWe (A.2.1 390) (A.2.1 391) ((A.1 367 37).toInt - f).toNat f.toNat 0 ((A.1 367 41).toInt.toNat - o + e) ∧ (A.1 367 37).toInt + (A.1 367 41).toInt - o ≤ 420 * s + (A.1 367 11).toInt
/-- the code below n stands, and the other rows -/
def hK (n : Nat) (A A' : hs_A) : Prop := (∀ c, ¬ c = 390 → ¬ c = 391 → ¬ c = 392 → A'.2.1 c = A.2.1 c) ∧ ∀ j, j < n → A'.2.1 390 j = A.2.1 390 j ∧ A'.2.1 391 j = A.2.1 391 j
theorem hK.refl (n : Nat) (A : hs_A) : hK n A A := ⟨fun _ _ _ _ => rfl, fun _ _ => ⟨rfl, rfl⟩⟩
theorem hK.trans {n n' : Nat} {A A' A2 : hs_A} (h : hK n A A') (h2 : hK n' A' A2) (hn : n ≤ n') : hK n A A2 := ⟨fun c a b e => (h2.1 c a b e).trans (h.1 c a b e), fun j hj => ⟨((h2.2 j (by omega)).1).trans (h.2 j hj).1, ((h2.2 j (by omega)).2).trans (h.2 j hj).2⟩⟩
theorem hK.eq {n : Nat} {A A' : hs_A} (h : A'.2.1 = A.2.1) : hK n A A' := by
  unfold hK
  rw [h]
  exact ⟨fun _ _ _ _ => rfl, fun _ _ => ⟨rfl, rfl⟩⟩
theorem hK.w {n j : Nat} {x : Int32} {A A' : hs_A} (h : A'.2.1 = hs_up A.2.1 392 j x) : hK n A A' := by
  unfold hK
  rw [h]
  refine ⟨fun c _ _ hc => ?_, fun i _ => ⟨hup2 (by omega), hup2 (by omega)⟩⟩
  funext b
  exact hup2 (fun e => hc e.1)
theorem hK.em {n : Nat} {c k v : Int32} {A A' : hs_A} (h : A'.2.1 = hs_up (hs_up A.2.1 390 c.toNatClampNeg k) 391 c.toNatClampNeg v) (h0 : 0 ≤ c.toInt) (hn : (n : Int) ≤ c.toInt) : hK n A A' ∧ A'.2.1 392 = A.2.1 392 := by
  have hc := hn_cn h0
  have key : ∀ q b, ¬ (q = 390 ∨ q = 391) ∨ b < n → A'.2.1 q b = A.2.1 q b := by
    intro q b hq'
    rw [h]
    rw [hup2 (by omega), hup2 (by omega)]
  refine ⟨⟨fun q a b _ => ?_, fun i hi => ⟨key _ _ (Or.inr hi), key _ _ (Or.inr hi)⟩⟩, ?_⟩
  · funext i
    exact key _ _ (Or.inl (by omega))
  · funext i
    exact key _ _ (Or.inl (by omega))
section HQ
variable {s f : Int} {o g e : Nat} {A A' : hs_A}
theorem hQ.w (h : hQ s f o g e A) : (o : Int) ≤ (A.1 367 41).toInt ∧ (A.1 367 41).toInt ≤ 3 * o + 2 := by
  have := hN_le _ _ _ _ h.1
  have h1 := h.2.1
  omega
theorem hQ.mv (h : hQ s f o g e A) (h41 : (A'.1 367 41).toInt = (A.1 367 41).toInt) (h37 : (A'.1 367 37).toInt = (A.1 367 37).toInt) (ha : A'.2.1 = A.2.1) (ht : (A.1 367 11).toInt ≤ (A'.1 367 11).toInt) : hQ s f o g e A' := by
  unfold hQ
  rw [h41, h37, ha]
  exact ⟨h.1, h.2.1, h.2.2.1, h.2.2.2.1, by have := h.2.2.2.2; omega⟩
theorem hQ.init (hs : 0 ≤ s) (h0 : 420 * s ≤ (A.1 367 37).toInt) (h1 : (A.1 367 37).toInt ≤ 420 * s + (A.1 367 11).toInt) (hw : (A.1 367 41).toInt = 0) : hQ s (A.1 367 37).toInt 0 0 0 A := by
  unfold hQ
  rw [hw]
  refine ⟨⟨rfl, rfl⟩, by omega, ⟨hs, h0, by omega⟩, ?_, by omega⟩
  have : ((A.1 367 37).toInt - (A.1 367 37).toInt).toNat = 0 := by omega
  rw [this]
  rfl
theorem hQ.code {c k v : Int32} (h : hQ s f o g e A) (hc : A.1 367 37 = c) (ha : A'.2.1 = hs_up (hs_up A.2.1 390 c.toNatClampNeg k) 391 c.toNatClampNeg v) {h2 : Nat} (h0 : 0 ≤ f) (w : ∀ (K I : Nat → Int32), K c.toNatClampNeg = k → I c.toNatClampNeg = v → hWe K I 1 c.toNatClampNeg ((A.1 367 41).toInt.toNat - o + e) h2) (h37 : (A'.1 367 37).toInt = (A.1 367 37).toInt + 1) : hWe (A'.2.1 390) (A'.2.1 391) ((A'.1 367 37).toInt - f).toNat f.toNat 0 h2 := by
  have hfc := h.2.2.1.2.2
  have hcc : c.toInt = (A.1 367 37).toInt := by rw [hc]
  have hn := hn_cn (j := c) (by omega)
  have e1 : ((A'.1 367 37).toInt - f).toNat = ((A.1 367 37).toInt - f).toNat + 1 := by omega
  have e2 : f.toNat + ((A.1 367 37).toInt - f).toNat = c.toNatClampNeg := by omega
  rw [e1]
  refine hWe_snoc _ _ _ _ _ (fun i hi => ?_) h.2.2.2.1 ?_
  · rw [ha]
    exact ⟨by rw [hup2 (by omega), hup2 (by omega)], by rw [hup2 (by omega), hup2 (by omega)]⟩
  · rw [e2]
    refine w _ _ ?_ ?_
    · rw [ha, hup2 (by omega), hup1]
    · rw [ha, hup1]
theorem hQ.unit {c k v : Int32} (h : hQ s f o g 0 A) (hc : A.1 367 37 = c) (ha : A'.2.1 = hs_up (hs_up A.2.1 390 c.toNatClampNeg k) 391 c.toNatClampNeg v) (h37 : (A'.1 367 37).toInt = (A.1 367 37).toInt + 1) (h41 : (A'.1 367 41).toInt = (A.1 367 41).toInt) (ht : (A'.1 367 11).toInt = (A.1 367 11).toInt + 1) (hk : k.toInt = 0 ∨ (k.toInt = 1 ∧ 0 ≤ v.toInt ∧ v.toInt ≤ 8)) : hQ s f o g 1 A' := by
  have hs := h.2.2.1
  have hcc : c.toInt = (A.1 367 37).toInt := by rw [hc]
  have h92 := (hK.em (n := 0) ha (by omega) (by omega)).2
  refine ⟨by rw [h41, h92]; exact h.1, by rw [h41]; exact h.2.1, ⟨hs.1, hs.2.1, by omega⟩, ?_, by have := h.2.2.2.2; omega⟩
  refine h.code hc ha (by omega) (fun K I eK eI => ?_) h37
  rw [h41]
  rcases hk with hk | ⟨hk, hv⟩
  · exact Or.inl ⟨by rw [eK]; exact hk, rfl⟩
  · exact Or.inr (Or.inl ⟨by rw [eK]; exact hk, by rw [eI]; exact hv, rfl⟩)
theorem hQ.op {c k v : Int32} {g' : Nat} (h : hQ s f o g 1 A) (hc : A.1 367 37 = c) (ha : A'.2.1 = hs_up (hs_up A.2.1 390 c.toNatClampNeg k) 391 c.toNatClampNeg v) (h37 : (A'.1 367 37).toInt = (A.1 367 37).toInt + 1) (h41 : (A'.1 367 41).toInt = (A.1 367 41).toInt - 1) (ht : (A'.1 367 11).toInt = (A.1 367 11).toInt) (hk : 2 ≤ k.toInt ∧ k.toInt ≤ 5) (hw : 0 < (A.1 367 41).toInt) (hn : hN (A.2.1 392) ((A.1 367 41).toInt - 1).toNat o g') : hQ s f o g' 1 A' := by
  have hs := h.2.2.1
  have hcc : c.toInt = (A.1 367 37).toInt := by rw [hc]
  have h92 := (hK.em (n := 0) ha (by omega) (by omega)).2
  have hle := hN_le _ _ _ _ hn
  refine ⟨by rw [h41, h92]; exact hn, by omega, ⟨hs.1, hs.2.1, by omega⟩, ?_, by have := h.2.2.2.2; omega⟩
  refine h.code hc ha (by omega) (fun K I eK eI => ?_) h37
  rw [h41]
  exact Or.inr (Or.inr ⟨by rw [eK]; exact hk, by omega, by show _ = _; omega⟩)
theorem hQ.push {x j : Int32} {g2 : Nat} (h : hQ s f o g 1 A) (hj : A.1 367 41 = j) (ha : A'.2.1 = hs_up A.2.1 392 j.toNatClampNeg x) (h37 : (A'.1 367 37).toInt = (A.1 367 37).toInt) (h41 : (A'.1 367 41).toInt = (A.1 367 41).toInt + 1) (ht : (A'.1 367 11).toInt = (A.1 367 11).toInt + 1) (hx : ((x.toInt = 8 ∨ x.toInt = 9) ∧ g = 0 ∧ g2 = 1) ∨ ((x.toInt = 10 ∨ x.toInt = 15) ∧ ((g = 0 ∧ g2 = 2) ∨ (g = 1 ∧ g2 = 3)))) : hQ s f o g2 0 A' := by
  have hw := h.2.1
  have hjj : j.toInt = (A.1 367 41).toInt := by rw [hj]
  have hn := hn_cn (j := j) (by omega)
  have hle := hN_le _ _ _ _ h.1
  have e1 : (A'.1 367 41).toInt.toNat = (A.1 367 41).toInt.toNat + 1 := by omega
  have eW : (A'.2.1 392) (A.1 367 41).toInt.toNat = x := by
    have : (A.1 367 41).toInt.toNat = j.toNatClampNeg := by omega
    rw [ha, this, hup1]
  have hN' : hN (A'.2.1 392) (A.1 367 41).toInt.toNat o g := hN_ext _ _ _ (fun i hi => by rw [ha, hup2 (by omega)]) h.1
  have e390 : A'.2.1 390 = A.2.1 390 := by rw [ha]; funext i; exact hup2 (by omega)
  have e391 : A'.2.1 391 = A.2.1 391 := by rw [ha]; funext i; exact hup2 (by omega)
  refine ⟨?_, by omega, by rw [h37]; exact h.2.2.1, ?_, by have := h.2.2.2.2; omega⟩
  · rw [e1]
    rcases hx with ⟨a, rfl, rfl⟩ | ⟨a, ⟨rfl, rfl⟩ | ⟨rfl, rfl⟩⟩
    · exact Or.inr (Or.inl ⟨by rw [eW]; exact a, rfl, hN'⟩)
    · exact Or.inr (Or.inr ⟨by rw [eW]; exact a, Or.inl ⟨rfl, hN'⟩⟩)
    · exact Or.inr (Or.inr ⟨by rw [eW]; exact a, Or.inr ⟨rfl, hN'⟩⟩)
  · rw [e390, e391, h37]
    have : (A'.1 367 41).toInt.toNat - o + 0 = (A.1 367 41).toInt.toNat - o + 1 := by omega
    rw [this]
    exact h.2.2.2.1
theorem hQ.opn {x j : Int32} (h : hQ s f o g 0 A) (hj : A.1 367 41 = j) (ha : A'.2.1 = hs_up A.2.1 392 j.toNatClampNeg x) (h37 : (A'.1 367 37).toInt = (A.1 367 37).toInt) (h41 : (A'.1 367 41).toInt = (A.1 367 41).toInt + 1) (ht : (A.1 367 11).toInt ≤ (A'.1 367 11).toInt) (hx : x.toInt = 6) : hQ s f (o + 1) 0 0 A' := by
  have hw := h.2.1
  have hjj : j.toInt = (A.1 367 41).toInt := by rw [hj]
  have hn := hn_cn (j := j) (by omega)
  have hle := hN_le _ _ _ _ h.1
  have e1 : (A'.1 367 41).toInt.toNat = (A.1 367 41).toInt.toNat + 1 := by omega
  have eW : (A'.2.1 392) (A.1 367 41).toInt.toNat = x := by
    have : (A.1 367 41).toInt.toNat = j.toNatClampNeg := by omega
    rw [ha, this, hup1]
  have hN' : hN (A'.2.1 392) (A.1 367 41).toInt.toNat o g := hN_ext _ _ _ (fun i hi => by rw [ha, hup2 (by omega)]) h.1
  have e390 : A'.2.1 390 = A.2.1 390 := by rw [ha]; funext i; exact hup2 (by omega)
  have e391 : A'.2.1 391 = A.2.1 391 := by rw [ha]; funext i; exact hup2 (by omega)
  refine ⟨?_, by omega, by rw [h37]; exact h.2.2.1, ?_, by have := h.2.2.2.2; omega⟩
  · rw [e1]
    exact Or.inl ⟨by rw [eW]; exact hx, rfl, o, g, rfl, hN'⟩
  · rw [e390, e391, h37]
    have : (A'.1 367 41).toInt.toNat - (o + 1) + 0 = (A.1 367 41).toInt.toNat - o + 0 := by omega
    rw [this]
    exact h.2.2.2.1
theorem hQ.close (h : hQ s f (o + 1) 0 1 A) (ha : A'.2.1 = A.2.1) (h37 : (A'.1 367 37).toInt = (A.1 367 37).toInt) (h41 : (A'.1 367 41).toInt = (A.1 367 41).toInt - 1) (ht : (A.1 367 11).toInt ≤ (A'.1 367 11).toInt) : ∃ g', hQ s f o g' 1 A' := by
  have hw := h.w
  obtain ⟨n, hn⟩ : ∃ n, (A.1 367 41).toInt.toNat = n + 1 := ⟨(A.1 367 41).toInt.toNat - 1, by omega⟩
  have h1 := h.1
  rw [hn] at h1
  rcases h1 with ⟨-, -, o', g', e, h1⟩ | ⟨-, z, -⟩ | ⟨-, ⟨z, -⟩ | ⟨z, -⟩⟩
  · have eo : o' = o := by omega
    subst eo
    have e1 : (A'.1 367 41).toInt.toNat = n := by omega
    refine ⟨g', by rw [ha, e1]; exact h1, by omega, by rw [h37]; exact h.2.2.1, ?_, by have := h.2.2.2.2; omega⟩
    rw [ha, h37]
    have : (A'.1 367 41).toInt.toNat - o' + 1 = (A.1 367 41).toInt.toNat - (o' + 1) + 1 := by omega
    rw [this]
    exact h.2.2.2.1
  · cases z
  · cases z
  · cases z
theorem hQ.fin (h : hQ s f 0 0 1 A) : (A.1 367 41).toInt = 0 ∧ hWe (A.2.1 390) (A.2.1 391) ((A.1 367 37).toInt - f).toNat f.toNat 0 1 := by
  have hw := h.2.1
  have hle := hN_le _ _ _ _ h.1
  have e : (A.1 367 41).toInt.toNat = 0 := by omega
  have h4 := h.2.2.2.1
  rw [e] at h4
  exact ⟨by omega, h4⟩
/-- what the top of the pile is -/
theorem hQ.top {j z : Int32} (h : hQ s f o g 1 A) (hw : 0 < (A.1 367 41).toInt) (hj : j.toInt = (A.1 367 41).toInt - 1) (e : A.2.1 392 j.toNatClampNeg = z) : (z.toInt = 6 ∧ g = 0) ∨ ((z.toInt = 8 ∨ z.toInt = 9) ∧ g = 1 ∧ hN (A.2.1 392) ((A.1 367 41).toInt - 1).toNat o 0) ∨ ((z.toInt = 10 ∨ z.toInt = 15) ∧ ∃ g', g' ≤ 1 ∧ hN (A.2.1 392) ((A.1 367 41).toInt - 1).toNat o g') := by
  have hn := hn_cn (j := j) (by omega)
  obtain ⟨n, hnn⟩ : ∃ n, (A.1 367 41).toInt.toNat = n + 1 := ⟨(A.1 367 41).toInt.toNat - 1, by omega⟩
  have h1 := h.1
  rw [hnn] at h1
  have e1 : ((A.1 367 41).toInt - 1).toNat = n := by omega
  have e2 : j.toNatClampNeg = n := by omega
  rw [e2] at e
  rw [e1]
  rcases h1 with ⟨a, b, -⟩ | ⟨a, b, h1⟩ | ⟨a, ⟨b, h1⟩ | ⟨b, h1⟩⟩
  · exact Or.inl ⟨by rw [← e]; exact a, b⟩
  · exact Or.inr (Or.inl ⟨by rw [← e]; exact a, b, h1⟩)
  · exact Or.inr (Or.inr ⟨by rw [← e]; exact a, 0, by omega, h1⟩)
  · exact Or.inr (Or.inr ⟨by rw [← e]; exact a, 1, by omega, h1⟩)
end HQ
