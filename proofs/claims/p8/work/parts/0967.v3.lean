/-! FRAMES OF WORLDS: what the certificates say of two worlds -/
def uf_W (W : Nat) (A A' : hs_A) : Prop :=
  (∀ i c ks k, hc_get hs_sh i = some (3, c, ks) → hc_nth ks k = some 0 → Nat.testBit W (ug_o (ug_g i) k) = false → A'.1 i k = A.1 i k) ∧
  (∀ i t m j, hc_get hs_sh i = some (0, t, [m]) → j < m → Nat.testBit W (ug_g i) = false → A'.2.1 i j = A.2.1 i j) ∧
  (∀ i t m j, hc_get hs_sh i = some (1, t, [m]) → j < m → Nat.testBit W (ug_g i) = false → A'.2.2.1 i j = A.2.2.1 i j) ∧
  (∀ i c ks k, hc_get hs_sh i = some (3, c, ks) → hc_nth ks k = some 100000 → Nat.testBit W (ug_o (ug_g i) k) = false → A'.2.2.2 i k = A.2.2.2 i k)
theorem uf_W.rfl {W : Nat} {A : hs_A} : uf_W W A A := ⟨fun _ _ _ _ _ _ _ => Eq.refl _, fun _ _ _ _ _ _ _ => Eq.refl _, fun _ _ _ _ _ _ _ => Eq.refl _, fun _ _ _ _ _ _ _ => Eq.refl _⟩
theorem uf_W.trans {W : Nat} {A A' A'' : hs_A} (a : uf_W W A A') (b : uf_W W A' A'') : uf_W W A A'' := ⟨fun i c ks k h1 h2 h3 => (b.1 i c ks k h1 h2 h3).trans (a.1 i c ks k h1 h2 h3), fun i t m j h1 h2 h3 => (b.2.1 i t m j h1 h2 h3).trans (a.2.1 i t m j h1 h2 h3), fun i t m j h1 h2 h3 => (b.2.2.1 i t m j h1 h2 h3).trans (a.2.2.1 i t m j h1 h2 h3), fun i c ks k h1 h2 h3 => (b.2.2.2 i c ks k h1 h2 h3).trans (a.2.2.2 i c ks k h1 h2 h3)⟩
theorem uf_W.le {W W' : Nat} {A A' : hs_A} (a : uf_W W A A') (e : ug_wle W W' = true) : uf_W W' A A' := ⟨fun i c ks k h1 h2 h3 => a.1 i c ks k h1 h2 (ug_wle_ok e h3), fun i t m j h1 h2 h3 => a.2.1 i t m j h1 h2 (ug_wle_ok e h3), fun i t m j h1 h2 h3 => a.2.2.1 i t m j h1 h2 (ug_wle_ok e h3), fun i c ks k h1 h2 h3 => a.2.2.2 i c ks k h1 h2 (ug_wle_ok e h3)⟩
set_option maxRecDepth 100000 in
theorem uf_410 : ∀ j, j < 6 → hc_get hs_sh (410 + j) = none := by decide +kernel
theorem uf_lt {i : Nat} {sh : Nat × Nat × List Nat} (h : hc_get hs_sh i = some sh) : i < 410 := by
  have b := ug_bound h
  have b2 : i < 32 * 13 := b
  by_cases q : i < 410
  · exact q
  · have e := uf_410 (i - 410) (by omega)
    rw [show 410 + (i - 410) = i by omega, h] at e
    cases e
theorem uf_val {A : hs_A} {i k : Nat} : hs_val A i k 100000 = .ref (A.2.2.2 i k) := by
  unfold hs_val
  simp
theorem uf_of {W : Nat} {A A' : hs_A} {h h' : hc_H} (hR : hs_Rep h A) (hR' : hs_Rep h' A') (w : ug_W W h h') : uf_W W A A' := by
  refine ⟨fun i c ks k hs hk hw => ?_, fun i t m j hs hj hw => ?_, fun i t m j hs hj hw => ?_, fun i c ks k hs hk hw => ?_⟩
  · have g := hR i _ hs
    have g' := hR' i _ hs
    rw [hs_cell3] at g g'
    obtain ⟨fs', e1, e2⟩ := (w i (uf_lt hs)).2 _ _ k g hw
    rw [g'] at e1
    cases e1
    rw [hs_fs_at hk, hs_fs_at hk] at e2
    have a3 : Value.int (A'.1 i k) = Value.int (A.1 i k) := Option.some.inj e2
    injection a3
  · have g := hR i _ hs
    have g' := hR' i _ hs
    rw [hs_cell0] at g g'
    have e1 := (w i (uf_lt hs)).1 _ _ g hw
    rw [g'] at e1
    have e2 : hs_ar A' i m = hs_ar A i m := by injection e1 with e; injection e with e; injection e
    have a1 := hs_ar_at (A := A) (i := i) hj
    rw [← e2, hs_ar_at hj] at a1
    have a3 : Value.int (A'.2.1 i j) = Value.int (A.2.1 i j) := Option.some.inj a1
    injection a3
  · have g := hR i _ hs
    have g' := hR' i _ hs
    rw [hs_cell1] at g g'
    have e1 := (w i (uf_lt hs)).1 _ _ g hw
    rw [g'] at e1
    have e2 : hs_al A' i m = hs_al A i m := by injection e1 with e; injection e with e; injection e
    have a1 := hs_al_at (A := A) (i := i) hj
    rw [← e2, hs_al_at hj] at a1
    have a3 : Value.long (A'.2.2.1 i j) = Value.long (A.2.2.1 i j) := Option.some.inj a1
    injection a3
  · have g := hR i _ hs
    have g' := hR' i _ hs
    rw [hs_cell3] at g g'
    obtain ⟨fs', e1, e2⟩ := (w i (uf_lt hs)).2 _ _ k g hw
    rw [g'] at e1
    cases e1
    rw [hs_fs_at hk, hs_fs_at hk, uf_val, uf_val] at e2
    have a3 : Value.ref (A'.2.2.2 i k) = Value.ref (A.2.2.2 i k) := Option.some.inj e2
    injection a3
theorem uf_vis {A A' : hs_A} (h : hs_vis A A') : uf_W 0 A A' := by
  obtain ⟨hh, h1, h2⟩ := h
  exact uf_of h1 h2 ug_W.rfl
/-- the refs that change -/
def uf_H (A : hs_A) : Prop := (A.2.2.2 0 3 = 3 ∨ A.2.2.2 0 3 = 12) ∧ (A.2.2.2 0 4 = 3 ∨ A.2.2.2 0 4 = 12) ∧ (A.2.2.2 20 2 = 3 ∨ A.2.2.2 20 2 = 12) ∧ (A.2.2.2 323 5 = 7 ∨ A.2.2.2 323 5 = 16)
noncomputable def uf_rk (m : List Nat) (r : Nat) : Bool := match r with
  | 0 => false
  | j + 1 => Nat.ble (j + 1) 410 && m.any (fun y => Nat.beq (ug_g j) y)
noncomputable def uf_rt (a : ug_T) (r : Nat) : Bool := match a with
  | some (.inl m) => uf_rk m r
  | _ => false
theorem uf_rk_ok {m : List Nat} {r : Nat} (h : uf_rk m r = true) : ug_V (some (.inl m)) (.ref r) := by
  match r, h with
  | j + 1, h =>
    have h1 : (Nat.ble (j + 1) 410 && m.any (fun y => Nat.beq (ug_g j) y)) = true := h
    have h2 := Bool.and_eq_true_iff.mp h1
    obtain ⟨y, hy, e⟩ := List.any_eq_true.mp h2.2
    refine ⟨Nat.le_of_ble_eq_true h2.1, ?_⟩
    rw [Nat.eq_of_beq_eq_true e]
    exact hy
def uf_vr (i k : Nat) : Bool := (Nat.beq i 0 && (Nat.beq k 3 || Nat.beq k 4)) || ((Nat.beq i 20 && Nat.beq k 2) || (Nat.beq i 323 && Nat.beq k 5))
noncomputable def uf_c3 (i : Nat) (ks : List Nat) (k : Nat) : Bool := match ks.getD k 0 with
  | 0 => true
  | c + 1 => match Nat.beq (c + 1) 100000 with
    | true => uf_vr i k
    | false => uf_rk (ug_F (ug_g i) k) (c + 1)
noncomputable def uf_ck (i : Nat) : Bool := match hc_get hs_sh i with
  | none => false
  | some sh => match sh.1 with
    | 0 => ug_le ug_z (ug_E (ug_g i)) && Nat.beq sh.2.2.length 1
    | 1 => ug_le ug_j (ug_E (ug_g i)) && Nat.beq sh.2.2.length 1
    | 2 => sh.2.2.all (fun r => uf_rt (ug_E (ug_g i)) r)
    | _ => Nat.beq sh.1 3 && (List.range sh.2.2.length).all (fun k => uf_c3 i sh.2.2 k)
set_option maxRecDepth 1000000 in
theorem uf_cks : ∀ i, i < 410 → uf_ck i = true := by decide +kernel
set_option maxRecDepth 1000000 in
theorem uf_var : uf_rk (ug_F (ug_g 0) 3) 3 = true ∧ uf_rk (ug_F (ug_g 0) 3) 12 = true ∧ uf_rk (ug_F (ug_g 0) 4) 3 = true ∧ uf_rk (ug_F (ug_g 0) 4) 12 = true ∧ uf_rk (ug_F (ug_g 20) 2) 3 = true ∧ uf_rk (ug_F (ug_g 20) 2) 12 = true ∧ uf_rk (ug_F (ug_g 323) 5) 7 = true ∧ uf_rk (ug_F (ug_g 323) 5) 16 = true := by decide +kernel
theorem uf_H.v {A : hs_A} (hH : uf_H A) {i k : Nat} (h : uf_vr i k = true) : ug_V (some (.inl (ug_F (ug_g i) k))) (.ref (A.2.2.2 i k)) := by
  obtain ⟨v1, v2, v3, v4, v5, v6, v7, v8⟩ := uf_var
  unfold uf_vr at h
  simp only [Bool.or_eq_true, Bool.and_eq_true] at h
  obtain ⟨a, b, c, e⟩ := hH
  rcases h with ⟨h1, h2 | h2⟩ | ⟨h1, h2⟩ | ⟨h1, h2⟩
  · obtain rfl := Nat.eq_of_beq_eq_true h1
    obtain rfl := Nat.eq_of_beq_eq_true h2
    rcases a with a | a
    · rw [a]; exact uf_rk_ok v1
    · rw [a]; exact uf_rk_ok v2
  · obtain rfl := Nat.eq_of_beq_eq_true h1
    obtain rfl := Nat.eq_of_beq_eq_true h2
    rcases b with b | b
    · rw [b]; exact uf_rk_ok v3
    · rw [b]; exact uf_rk_ok v4
  · obtain rfl := Nat.eq_of_beq_eq_true h1
    obtain rfl := Nat.eq_of_beq_eq_true h2
    rcases c with c | c
    · rw [c]; exact uf_rk_ok v5
    · rw [c]; exact uf_rk_ok v6
  · obtain rfl := Nat.eq_of_beq_eq_true h1
    obtain rfl := Nat.eq_of_beq_eq_true h2
    rcases e with e | e
    · rw [e]; exact uf_rk_ok v7
    · rw [e]; exact uf_rk_ok v8
theorem uf_mapR {f : Nat → Value} {n k : Nat} {v : Value} (h : hc_nth ((List.range n).map f) k = some v) : k < n ∧ v = f k := by
  rw [hc_nth_eq, List.getElem?_map] at h
  by_cases q : k < n
  · rw [List.getElem?_range q] at h
    have h' : some (f k) = some v := h
    cases h'
    exact ⟨q, rfl⟩
  · rw [List.getElem?_eq_none (by simp; omega)] at h
    cases h
theorem uf_Hh {A : hs_A} {h : hc_H} (hR : hs_Rep h A) (hH : uf_H A) : ug_H h := by
  intro i hi
  have ck := uf_cks i hi
  unfold uf_ck at ck
  split at ck
  · cases ck
  next sh hsh =>
    have g := hR i sh hsh
    obtain ⟨s1, s2, s3⟩ := sh
    dsimp only at ck
    split at ck
    ·
      have c1 := Bool.and_eq_true_iff.mp ck
      have gl : hc_get h i = some (.inl (s2, (List.range (s3.headD 0)).map (fun j => .int (A.2.1 i j)))) := g
      refine ⟨fun t fs e => ?_, fun t a e k v hv => ?_⟩
      · rw [gl] at e; cases e
      · rw [gl] at e; cases e
        obtain ⟨_, rfl⟩ := uf_mapR hv
        exact ug_V.le (a := ug_z) True.intro c1.1
    ·
      have c1 := Bool.and_eq_true_iff.mp ck
      have gl : hc_get h i = some (.inl (s2, (List.range (s3.headD 0)).map (fun j => .long (A.2.2.1 i j)))) := g
      refine ⟨fun t fs e => ?_, fun t a e k v hv => ?_⟩
      · rw [gl] at e; cases e
      · rw [gl] at e; cases e
        obtain ⟨_, rfl⟩ := uf_mapR hv
        exact ug_V.le (a := ug_j) True.intro c1.1
    ·
      have gl : hc_get h i = some (.inl (s2, s3.map (fun r => .ref r))) := g
      refine ⟨fun t fs e => ?_, fun t a e k v hv => ?_⟩
      · rw [gl] at e; cases e
      · rw [gl] at e; cases e
        rw [hc_nth_eq, List.getElem?_map] at hv
        cases hq : s3[k]? with
        | none => rw [hq] at hv; cases hv
        | some r =>
          rw [hq] at hv
          have hv' : some (Value.ref r) = some v := hv
          cases hv'
          have c1 := List.all_eq_true.mp ck r (List.mem_of_getElem? hq)
          unfold uf_rt at c1
          split at c1
          next m hm => rw [hm]; exact uf_rk_ok c1
          · cases c1
    next n0 n1 n2 =>
      have c1 := Bool.and_eq_true_iff.mp ck
      have e3 : s1 = 3 := Nat.eq_of_beq_eq_true c1.1
      subst e3
      have gl : hc_get h i = some (.inr (s2, hs_fs A i s3)) := by rw [← hs_cell3]; exact g
      refine ⟨fun t fs e k v hv => ?_, fun t a e => ?_⟩
      · rw [gl] at e; cases e
        unfold hs_fs at hv
        obtain ⟨hk, rfl⟩ := uf_mapR hv
        have c2 := List.all_eq_true.mp c1.2 k (List.mem_range.mpr hk)
        unfold uf_c3 at c2
        split at c2
        next h0 =>
          rw [h0]
          exact True.intro
        next c hc =>
          rw [hc]
          split at c2
          next hb =>
            have hb2 : c.succ = 100000 := Nat.eq_of_beq_eq_true hb
            rw [hb2, uf_val]
            exact hH.v c2
          next hb =>
            have hne : ¬ c + 1 = 100000 := fun q => by rw [q] at hb; cases hb
            have ev : hs_val A i k (c + 1) = .ref (c + 1) := by
              show (if c + 1 = 100000 then Value.ref (A.2.2.2 i k) else .ref (c + 1)) = _
              rw [if_neg hne]
            show ug_V _ (hs_val A i k (c + 1))
            rw [ev]
            exact uf_rk_ok c2
      · rw [gl] at e; cases e
set_option maxRecDepth 1000000 in
theorem uf_g1 : ∀ j, j < 410 → ((ug_F (ug_g 0) 3).any (fun y => Nat.beq (ug_g j) y) || ((ug_F (ug_g 0) 4).any (fun y => Nat.beq (ug_g j) y) || (ug_F (ug_g 20) 2).any (fun y => Nat.beq (ug_g j) y))) = true → (j = 2 ∨ j = 11) := by decide +kernel
set_option maxRecDepth 1000000 in
theorem uf_g2 : ∀ j, j < 410 → (ug_F (ug_g 323) 5).any (fun y => Nat.beq (ug_g j) y) = true → (j = 6 ∨ j = 15) := by decide +kernel
theorem uf_any {m : List Nat} {x : Nat} (h : x ∈ m) : m.any (fun y => Nat.beq x y) = true := List.any_eq_true.mpr ⟨x, h, Nat.beq_refl x⟩
theorem uf_vf {m : List Nat} {r : Nat} (h : ug_V (some (.inl m)) (.ref r)) : ∃ j, r = j + 1 ∧ j < 410 ∧ ug_g j ∈ m := by
  match r, h with
  | j + 1, h => exact ⟨j, rfl, h.1, h.2⟩
theorem uf_fld {A : hs_A} {h : hc_H} (hR : hs_Rep h A) (hh : ug_H h) {i c k : Nat} {ks : List Nat} (hs : hc_get hs_sh i = some (3, c, ks)) (hk : hc_nth ks k = some 100000) : ∃ j, A.2.2.2 i k = j + 1 ∧ j < 410 ∧ ug_g j ∈ ug_F (ug_g i) k := by
  have g := hR i _ hs
  rw [hs_cell3] at g
  have e := hs_fs_at (A := A) (i := i) hk
  rw [uf_val] at e
  exact uf_vf ((hh i (uf_lt hs)).1 _ _ g k _ e)
theorem uf_Hof {A : hs_A} {h : hc_H} (hR : hs_Rep h A) (hh : ug_H h) : uf_H A := by
  obtain ⟨j1, a1, b1, c1⟩ := uf_fld hR hh (i := 0) (k := 3) (by rfl) (by rfl)
  obtain ⟨j2, a2, b2, c2⟩ := uf_fld hR hh (i := 0) (k := 4) (by rfl) (by rfl)
  obtain ⟨j3, a3, b3, c3⟩ := uf_fld hR hh (i := 20) (k := 2) (by rfl) (by rfl)
  obtain ⟨j4, a4, b4, c4⟩ := uf_fld hR hh (i := 323) (k := 5) (by rfl) (by rfl)
  have d1 := uf_g1 j1 b1 (by rw [uf_any c1]; rfl)
  have d2 := uf_g1 j2 b2 (by rw [uf_any c2, Bool.true_or, Bool.or_true])
  have d3 := uf_g1 j3 b3 (by rw [uf_any c3, Bool.or_true, Bool.or_true])
  have d4 := uf_g2 j4 b4 (uf_any c4)
  exact ⟨by omega, by omega, by omega, by omega⟩
/-- a contract, and what its certificate says -/
theorem uf_C {g d j : Nat} {X : ug_X} {e : hc_M} {as : List Value} {A : hs_A} {P : Option Value → hs_A → Prop} (hX : hc_get ug_C j = some X) (he : hc_get hm_pg X.1 = some e) (ha : ug_L X.2.1 as) (hH : uf_H A) (w : hpC g d X.1 e as A P) : hpC g d X.1 e as A (fun r A' => P r A' ∧ uf_W X.2.2.2.1 A A' ∧ uf_H A') := by
  intro h hR R hc
  obtain ⟨r, h', e1, A', hR', hp⟩ := w h hR R hc
  have q := ug_call g d j X e as hs_n h R hX he ha (uf_Hh hR hH) hc
  subst e1
  exact ⟨r, h', rfl, A', hR', hp, uf_of hR hR' q.2.1, uf_Hof hR' q.1⟩
theorem uf_X {d j : Nat} {X : ug_X} {e : hc_M} {as : List Value} {A : hs_A} {P : Option Value → hs_A → Prop} (hX : hc_get ug_C j = some X) (he : hc_get hm_pg X.1 = some e) (ha : ug_L X.2.1 as) (hH : uf_H A) (w : hxC d X.1 e as A P) : hxC d X.1 e as A (fun r A' => P r A' ∧ uf_W X.2.2.2.1 A A' ∧ uf_H A') := by
  intro h hR
  obtain ⟨F, r, h', hc, A', hR', hp⟩ := w h hR
  have q := ug_call F d j X e as hs_n h _ hX he ha (uf_Hh hR hH) (hc F (Nat.le_refl _))
  exact ⟨F, r, h', hc, A', hR', hp, uf_of hR hR' q.2.1, uf_Hof hR' q.1⟩
set_option maxRecDepth 1000000 in
theorem uf_r0 : ug_V (some (.inl [0])) (.ref 1) := uf_rk_ok (by decide +kernel)
set_option maxRecDepth 1000000 in
theorem uf_r1 : ug_V (some (.inl [80])) (.ref 368) := uf_rk_ok (by decide +kernel)
theorem uf_nil : ug_L [] [] := True.intro
theorem uf_int {x : Int32} {as : List ug_T} {vs : List Value} (h : ug_L as vs) : ug_L (ug_z :: as) (.int x :: vs) := ⟨True.intro, h⟩
