/-! FRAMES OF WORLDS: what the certificates say of two worlds -/
def uf_W (W : Nat) (A A' : hs_A) : Prop :=
  (∀ i c ks k, hc_get hs_sh i = some (3, c, ks) → hc_nth ks k = some 0 → Nat.testBit W (ug_o (ug_g i) k) = false → A'.1 i k = A.1 i k) ∧
  (∀ i t m j, hc_get hs_sh i = some (0, t, [m]) → j < m → Nat.testBit W (ug_g i) = false → A'.2.1 i j = A.2.1 i j) ∧
  (∀ i t m j, hc_get hs_sh i = some (1, t, [m]) → j < m → Nat.testBit W (ug_g i) = false → A'.2.2.1 i j = A.2.2.1 i j) ∧
  (∀ i c ks k, hc_get hs_sh i = some (3, c, ks) → hc_nth ks k = some 100000 → Nat.testBit W (ug_o (ug_g i) k) = false → A'.2.2.2 i k = A.2.2.2 i k)
theorem uf_W.rfl {W : Nat} {A : hs_A} : uf_W W A A := ⟨fun _ _ _ _ _ _ _ => Eq.refl _, fun _ _ _ _ _ _ _ => Eq.refl _, fun _ _ _ _ _ _ _ => Eq.refl _, fun _ _ _ _ _ _ _ => Eq.refl _⟩
theorem uf_W.trans {W : Nat} {A A' A'' : hs_A} (a : uf_W W A A') (b : uf_W W A' A'') : uf_W W A A'' := ⟨fun i c ks k h1 h2 h3 => (b.1 i c ks k h1 h2 h3).trans (a.1 i c ks k h1 h2 h3), fun i t m j h1 h2 h3 => (b.2.1 i t m j h1 h2 h3).trans (a.2.1 i t m j h1 h2 h3), fun i t m j h1 h2 h3 => (b.2.2.1 i t m j h1 h2 h3).trans (a.2.2.1 i t m j h1 h2 h3), fun i c ks k h1 h2 h3 => (b.2.2.2 i c ks k h1 h2 h3).trans (a.2.2.2 i c ks k h1 h2 h3)⟩
theorem uf_W.le {W W' : Nat} {A A' : hs_A} (a : uf_W W A A') (e : ug_wle W W' = true) : uf_W W' A A' := ⟨fun i c ks k h1 h2 h3 => a.1 i c ks k h1 h2 (ug_wle_ok e h3), fun i t m j h1 h2 h3 => a.2.1 i t m j h1 h2 (ug_wle_ok e h3), fun i t m j h1 h2 h3 => a.2.2.1 i t m j h1 h2 (ug_wle_ok e h3), fun i c ks k h1 h2 h3 => a.2.2.2 i c ks k h1 h2 (ug_wle_ok e h3)⟩
set_option maxRecDepth 100000 in
theorem uf_410 : ∀ j, j < 6 → hc_get hs_sh (410 + j) = none := by decide +kernel
theorem uf_lt {i : Nat} {sh : Nat × Nat × List Nat} (h : hc_get hs_sh i = some sh) : i < 410 := by
  have b := ug_bound h
  have b2 : i < 32 * 13 := b
  by_cases q : i < 410
  · exact q
  · have e := uf_410 (i - 410) (by omega)
    rw [show 410 + (i - 410) = i by omega, h] at e
    cases e
theorem uf_val {A : hs_A} {i k : Nat} : hs_val A i k 100000 = .ref (A.2.2.2 i k) := by
  unfold hs_val
  simp
theorem uf_of {W : Nat} {A A' : hs_A} {h h' : hc_H} (hR : hs_Rep h A) (hR' : hs_Rep h' A') (w : ug_W W h h') : uf_W W A A' := by
  refine ⟨fun i c ks k hs hk hw => ?_, fun i t m j hs hj hw => ?_, fun i t m j hs hj hw => ?_, fun i c ks k hs hk hw => ?_⟩
  · have g := hR i _ hs
    have g' := hR' i _ hs
    rw [hs_cell3] at g g'
    obtain ⟨fs', e1, e2⟩ := (w i (uf_lt hs)).2 _ _ k g hw
    rw [g'] at e1
    cases e1
    rw [hs_fs_at hk, hs_fs_at hk] at e2
    have a3 : Value.int (A'.1 i k) = Value.int (A.1 i k) := Option.some.inj e2
    injection a3
  · have g := hR i _ hs
    have g' := hR' i _ hs
    rw [hs_cell0] at g g'
    have e1 := (w i (uf_lt hs)).1 _ _ g hw
    rw [g'] at e1
    have e2 : hs_ar A' i m = hs_ar A i m := by injection e1 with e; injection e with e; injection e
    have a1 := hs_ar_at (A := A) (i := i) hj
    rw [← e2, hs_ar_at hj] at a1
    have a3 : Value.int (A'.2.1 i j) = Value.int (A.2.1 i j) := Option.some.inj a1
    injection a3
  · have g := hR i _ hs
    have g' := hR' i _ hs
    rw [hs_cell1] at g g'
    have e1 := (w i (uf_lt hs)).1 _ _ g hw
    rw [g'] at e1
    have e2 : hs_al A' i m = hs_al A i m := by injection e1 with e; injection e with e; injection e
    have a1 := hs_al_at (A := A) (i := i) hj
    rw [← e2, hs_al_at hj] at a1
    have a3 : Value.long (A'.2.2.1 i j) = Value.long (A.2.2.1 i j) := Option.some.inj a1
    injection a3
  · have g := hR i _ hs
    have g' := hR' i _ hs
    rw [hs_cell3] at g g'
    obtain ⟨fs', e1, e2⟩ := (w i (uf_lt hs)).2 _ _ k g hw
    rw [g'] at e1
    cases e1
    rw [hs_fs_at hk, hs_fs_at hk, uf_val, uf_val] at e2
    have a3 : Value.ref (A'.2.2.2 i k) = Value.ref (A.2.2.2 i k) := Option.some.inj e2
    injection a3
theorem uf_vis {A A' : hs_A} (h : hs_vis A A') : uf_W 0 A A' := by
  obtain ⟨hh, h1, h2⟩ := h
  exact uf_of h1 h2 ug_W.rfl
/-- the refs that change -/
def uf_H (A : hs_A) : Prop := (A.2.2.2 0 3 = 3 ∨ A.2.2.2 0 3 = 12) ∧ (A.2.2.2 0 4 = 3 ∨ A.2.2.2 0 4 = 12) ∧ (A.2.2.2 20 2 = 3 ∨ A.2.2.2 20 2 = 12) ∧ (A.2.2.2 323 5 = 7 ∨ A.2.2.2 323 5 = 16)
noncomputable def uf_rk (m : List Nat) (r : Nat) : Bool := match r with
  | 0 => false
  | j + 1 => Nat.ble (j + 1) 410 && m.any (fun y => Nat.beq (ug_g j) y)
noncomputable def uf_rt (a : ug_T) (r : Nat) : Bool := match a with
  | some (.inl m) => uf_rk m r
  | _ => false
theorem uf_rk_ok {m : List Nat} {r : Nat} (h : uf_rk m r = true) : ug_V (some (.inl m)) (.ref r) := by
  match r, h with
  | j + 1, h =>
    have h1 : (Nat.ble (j + 1) 410 && m.any (fun y => Nat.beq (ug_g j) y)) = true := h
    have h2 := Bool.and_eq_true_iff.mp h1
    obtain ⟨y, hy, e⟩ := List.any_eq_true.mp h2.2
    refine ⟨Nat.le_of_ble_eq_true h2.1, ?_⟩
    rw [Nat.eq_of_beq_eq_true e]
    exact hy
def uf_vr (i k : Nat) : Bool := (Nat.beq i 0 && (Nat.beq k 3 || Nat.beq k 4)) || ((Nat.beq i 20 && Nat.beq k 2) || (Nat.beq i 323 && Nat.beq k 5))
noncomputable def uf_c3 (i : Nat) (ks : List Nat) (k : Nat) : Bool := match ks.getD k 0 with
  | 0 => true
  | c + 1 => match Nat.beq (c + 1) 100000 with
    | true => uf_vr i k
    | false => uf_rk (ug_F (ug_g i) k) (c + 1)
noncomputable def uf_ck (i : Nat) : Bool := match hc_get hs_sh i with
  | none => false
  | some sh => match sh.1 with
    | 0 => ug_le ug_z (ug_E (ug_g i)) && Nat.beq sh.2.2.length 1
    | 1 => ug_le ug_j (ug_E (ug_g i)) && Nat.beq sh.2.2.length 1
    | 2 => sh.2.2.all (fun r => uf_rt (ug_E (ug_g i)) r)
    | _ => Nat.beq sh.1 3 && (List.range sh.2.2.length).all (fun k => uf_c3 i sh.2.2 k)
set_option maxRecDepth 1000000 in
theorem uf_cks : ∀ i, i < 410 → uf_ck i = true := by decide +kernel
set_option maxRecDepth 1000000 in
theorem uf_var : uf_rk (ug_F (ug_g 0) 3) 3 = true ∧ uf_rk (ug_F (ug_g 0) 3) 12 = true ∧ uf_rk (ug_F (ug_g 0) 4) 3 = true ∧ uf_rk (ug_F (ug_g 0) 4) 12 = true ∧ uf_rk (ug_F (ug_g 20) 2) 3 = true ∧ uf_rk (ug_F (ug_g 20) 2) 12 = true ∧ uf_rk (ug_F (ug_g 323) 5) 7 = true ∧ uf_rk (ug_F (ug_g 323) 5) 16 = true := by decide +kernel
theorem uf_H.v {A : hs_A} (hH : uf_H A) {i k : Nat} (h : uf_vr i k = true) : ug_V (some (.inl (ug_F (ug_g i) k))) (.ref (A.2.2.2 i k)) := by
  obtain ⟨v1, v2, v3, v4, v5, v6, v7, v8⟩ := uf_var
  unfold uf_vr at h
  simp only [Bool.or_eq_true, Bool.and_eq_true] at h
  obtain ⟨a, b, c, e⟩ := hH
  rcases h with ⟨h1, h2 | h2⟩ | ⟨h1, h2⟩ | ⟨h1, h2⟩
  · obtain rfl := Nat.eq_of_beq_eq_true h1
    obtain rfl := Nat.eq_of_beq_eq_true h2
    rcases a with a | a
    · rw [a]; exact uf_rk_ok v1
    · rw [a]; exact uf_rk_ok v2
  · obtain rfl := Nat.eq_of_beq_eq_true h1
    obtain rfl := Nat.eq_of_beq_eq_true h2
    rcases b with b | b
    · rw [b]; exact uf_rk_ok v3
    · rw [b]; exact uf_rk_ok v4
  · obtain rfl := Nat.eq_of_beq_eq_true h1
    obtain rfl := Nat.eq_of_beq_eq_true h2
    rcases c with c | c
    · rw [c]; exact uf_rk_ok v5
    · rw [c]; exact uf_rk_ok v6
  · obtain rfl := Nat.eq_of_beq_eq_true h1
    obtain rfl := Nat.eq_of_beq_eq_true h2
    rcases e with e | e
    · rw [e]; exact uf_rk_ok v7
    · rw [e]; exact uf_rk_ok v8
theorem uf_mapR {f : Nat → Value} {n k : Nat} {v : Value} (h : hc_nth ((List.range n).map f) k = some v) : k < n ∧ v = f k := by
  rw [hc_nth_eq, List.getElem?_map] at h
  by_cases q : k < n
  · rw [List.getElem?_range q] at h
    have h' : some (f k) = some v := h
    cases h'
    exact ⟨q, rfl⟩
  · rw [List.getElem?_eq_none (by simp; omega)] at h
    cases h
theorem uf_Hh {A : hs_A} {h : hc_H} (hR : hs_Rep h A) (hH : uf_H A) : ug_H h := by
  intro i hi
  have ck := uf_cks i hi
  unfold uf_ck at ck
  split at ck
  · cases ck
  next sh hsh =>
    have g := hR i sh hsh
    obtain ⟨s1, s2, s3⟩ := sh
    dsimp only at ck
    split at ck
    ·
      have c1 := Bool.and_eq_true_iff.mp ck
      have gl : hc_get h i = some (.inl (s2, (List.range (s3.headD 0)).map (fun j => .int (A.2.1 i j)))) := g
      refine ⟨fun t fs e => ?_, fun t a e k v hv => ?_⟩
      · rw [gl] at e; cases e
      · rw [gl] at e; cases e
        obtain ⟨_, rfl⟩ := uf_mapR hv
        exact ug_V.le (a := ug_z) True.intro c1.1
    ·
      have c1 := Bool.and_eq_true_iff.mp ck
      have gl : hc_get h i = some (.inl (s2, (List.range (s3.headD 0)).map (fun j => .long (A.2.2.1 i j)))) := g
      refine ⟨fun t fs e => ?_, fun t a e k v hv => ?_⟩
      · rw [gl] at e; cases e
      · rw [gl] at e; cases e
        obtain ⟨_, rfl⟩ := uf_mapR hv
        exact ug_V.le (a := ug_j) True.intro c1.1
    ·
      have gl : hc_get h i = some (.inl (s2, s3.map (fun r => .ref r))) := g
      refine ⟨fun t fs e => ?_, fun t a e k v hv => ?_⟩
      · rw [gl] at e; cases e
      · rw [gl] at e; cases e
        rw [hc_nth_eq, List.getElem?_map] at hv
        cases hq : s3[k]? with
        | none => rw [hq] at hv; cases hv
        | some r =>
          rw [hq] at hv
          have hv' : some (Value.ref r) = some v := hv
          cases hv'
          have c1 := List.all_eq_true.mp ck r (List.mem_of_getElem? hq)
          unfold uf_rt at c1
          split at c1
          next m hm => rw [hm]; exact uf_rk_ok c1
          · cases c1
    next n0 n1 n2 =>
      have c1 := Bool.and_eq_true_iff.mp ck
      have e3 : s1 = 3 := Nat.eq_of_beq_eq_true c1.1
      subst e3
      have gl : hc_get h i = some (.inr (s2, hs_fs A i s3)) := by rw [← hs_cell3]; exact g
      refine ⟨fun t fs e k v hv => ?_, fun t a e => ?_⟩
      · rw [gl] at e; cases e
        unfold hs_fs at hv
        obtain ⟨hk, rfl⟩ := uf_mapR hv
        have c2 := List.all_eq_true.mp c1.2 k (List.mem_range.mpr hk)
        unfold uf_c3 at c2
        split at c2
        next h0 =>
          rw [h0]
          exact True.intro
        next c hc =>
          rw [hc]
          split at c2
          next hb =>
            have hb2 : c.succ = 100000 := Nat.eq_of_beq_eq_true hb
            rw [hb2, uf_val]
            exact hH.v c2
          next hb =>
            have hne : ¬ c + 1 = 100000 := fun q => by rw [q] at hb; cases hb
            have ev : hs_val A i k (c + 1) = .ref (c + 1) := by
              show (if c + 1 = 100000 then Value.ref (A.2.2.2 i k) else .ref (c + 1)) = _
              rw [if_neg hne]
            show ug_V _ (hs_val A i k (c + 1))
            rw [ev]
            exact uf_rk_ok c2
      · rw [gl] at e; cases e
set_option maxRecDepth 1000000 in
theorem uf_g1 : ∀ j, j < 410 → ((ug_F (ug_g 0) 3).any (fun y => Nat.beq (ug_g j) y) || ((ug_F (ug_g 0) 4).any (fun y => Nat.beq (ug_g j) y) || (ug_F (ug_g 20) 2).any (fun y => Nat.beq (ug_g j) y))) = true → (j = 2 ∨ j = 11) := by decide +kernel
set_option maxRecDepth 1000000 in
theorem uf_g2 : ∀ j, j < 410 → (ug_F (ug_g 323) 5).any (fun y => Nat.beq (ug_g j) y) = true → (j = 6 ∨ j = 15) := by decide +kernel
theorem uf_any {m : List Nat} {x : Nat} (h : x ∈ m) : m.any (fun y => Nat.beq x y) = true := List.any_eq_true.mpr ⟨x, h, Nat.beq_refl x⟩
theorem uf_vf {m : List Nat} {r : Nat} (h : ug_V (some (.inl m)) (.ref r)) : ∃ j, r = j + 1 ∧ j < 410 ∧ ug_g j ∈ m := by
  match r, h with
  | j + 1, h => exact ⟨j, rfl, h.1, h.2⟩
theorem uf_fld {A : hs_A} {h : hc_H} (hR : hs_Rep h A) (hh : ug_H h) {i c k : Nat} {ks : List Nat} (hs : hc_get hs_sh i = some (3, c, ks)) (hk : hc_nth ks k = some 100000) : ∃ j, A.2.2.2 i k = j + 1 ∧ j < 410 ∧ ug_g j ∈ ug_F (ug_g i) k := by
  have g := hR i _ hs
  rw [hs_cell3] at g
  have e := hs_fs_at (A := A) (i := i) hk
  rw [uf_val] at e
  exact uf_vf ((hh i (uf_lt hs)).1 _ _ g k _ e)
theorem uf_Hof {A : hs_A} {h : hc_H} (hR : hs_Rep h A) (hh : ug_H h) : uf_H A := by
  obtain ⟨j1, a1, b1, c1⟩ := uf_fld hR hh (i := 0) (k := 3) (by rfl) (by rfl)
  obtain ⟨j2, a2, b2, c2⟩ := uf_fld hR hh (i := 0) (k := 4) (by rfl) (by rfl)
  obtain ⟨j3, a3, b3, c3⟩ := uf_fld hR hh (i := 20) (k := 2) (by rfl) (by rfl)
  obtain ⟨j4, a4, b4, c4⟩ := uf_fld hR hh (i := 323) (k := 5) (by rfl) (by rfl)
  have d1 := uf_g1 j1 b1 (by rw [uf_any c1]; rfl)
  have d2 := uf_g1 j2 b2 (by rw [uf_any c2, Bool.true_or, Bool.or_true])
  have d3 := uf_g1 j3 b3 (by rw [uf_any c3, Bool.or_true, Bool.or_true])
  have d4 := uf_g2 j4 b4 (uf_any c4)
  exact ⟨by omega, by omega, by omega, by omega⟩
/-- a contract, and what its certificate says -/
theorem uf_C {g d j : Nat} {X : ug_X} {e : hc_M} {as : List Value} {A : hs_A} {P : Option Value → hs_A → Prop} (hX : hc_get ug_C j = some X) (he : hc_get hm_pg X.1 = some e) (ha : ug_L X.2.1 as) (hH : uf_H A) (w : hpC g d X.1 e as A P) : hpC g d X.1 e as A (fun r A' => P r A' ∧ uf_W X.2.2.2.1 A A' ∧ uf_H A') := by
  intro h hR R hc
  obtain ⟨r, h', e1, A', hR', hp⟩ := w h hR R hc
  have q := ug_call g d j X e as hs_n h R hX he ha (uf_Hh hR hH) hc
  subst e1
  exact ⟨r, h', rfl, A', hR', hp, uf_of hR hR' q.2.1, uf_Hof hR' q.1⟩
theorem uf_X {d j : Nat} {X : ug_X} {e : hc_M} {as : List Value} {A : hs_A} {P : Option Value → hs_A → Prop} (hX : hc_get ug_C j = some X) (he : hc_get hm_pg X.1 = some e) (ha : ug_L X.2.1 as) (hH : uf_H A) (w : hxC d X.1 e as A P) : hxC d X.1 e as A (fun r A' => P r A' ∧ uf_W X.2.2.2.1 A A' ∧ uf_H A') := by
  intro h hR
  obtain ⟨F, r, h', hc, A', hR', hp⟩ := w h hR
  have q := ug_call F d j X e as hs_n h _ hX he ha (uf_Hh hR hH) (hc F (Nat.le_refl _))
  exact ⟨F, r, h', hc, A', hR', hp, uf_of hR hR' q.2.1, uf_Hof hR' q.1⟩
set_option maxRecDepth 1000000 in
theorem uf_r0 : ug_V (some (.inl [0])) (.ref 1) := uf_rk_ok (by decide +kernel)
set_option maxRecDepth 1000000 in
theorem uf_r1 : ug_V (some (.inl [80])) (.ref 368) := uf_rk_ok (by decide +kernel)
theorem uf_nil : ug_L [] [] := True.intro
theorem uf_int {x : Int32} {as : List ug_T} {vs : List Value} (h : ug_L as vs) : ug_L (ug_z :: as) (.int x :: vs) := ⟨True.intro, h⟩
/-! WHAT A LAW TELLS: codes over a pile; branches -/
def hgv_ap (k : Nat) (a b : Int32) : Int32 := if k = 2 then a + b else if k = 3 then a - b else if k = 4 then a * b else a / b
def hgw_st (x : Nat → Int32) (p : Nat × Int) (s : List Int32) : Option (List Int32) :=
  if p.1 = 0 then some (Int32.ofInt p.2 :: s)
  else if p.1 = 1 then some (x p.2.toNat :: s)
  else match s with
    | b :: a :: r => if p.1 = 5 ∧ b = 0 then none else some (hgv_ap p.1 a b :: r)
    | _ => none
def hgw_ev (x : Nat → Int32) : hg_C → List Int32 → Option (List Int32)
  | [], s => some s
  | p :: l, s => match hgw_st x p s with
    | none => none
    | some s' => hgw_ev x l s'
def hgw_top : Option (List Int32) → Int32
  | some (v :: _) => v
  | _ => 0
def hgw_law (x : Nat → Int32) : hg_B → hg_C → Int32
  | [], tm => hgw_top (hgw_ev x tm [])
  | q :: r, tm => match hgw_ev x (q.1 ++ q.2.1) [] with
    | some (v :: u :: _) => if u.toInt < v.toInt then hgw_top (hgw_ev x q.2.2 []) else hgw_law x r tm
    | _ => 0
/-- heights: from h to h', never above B ahead of a number -/
def hgw_wf (B : Nat) : hg_C → Nat → Nat → Prop
  | [], h, h' => h = h'
  | p :: l, h, h' => ((p.1 = 0 ∨ p.1 = 1 ∧ 0 ≤ p.2 ∧ p.2 ≤ 8) ∧ h ≤ B ∧ hgw_wf B l (h + 1) h') ∨ ((2 ≤ p.1 ∧ p.1 ≤ 5) ∧ 2 ≤ h ∧ hgw_wf B l (h - 1) h')
def hgw_wb : hg_B → Prop
  | [] => True
  | q :: r => (hgw_wf 14 q.1 0 1 ∧ hgw_wf 14 q.2.1 0 1 ∧ hgw_wf 14 q.2.2 0 1) ∧ hgw_wb r
def hgw_wl (l : hg_L) : Prop := hgw_wb l.1 ∧ hgw_wf 14 l.2 0 1
section HWV
variable {x : Nat → Int32} {B : Nat}
theorem hgw_wf_app : ∀ {a b : hg_C} {h h1 h2 : Nat}, hgw_wf B a h h1 → hgw_wf B b h1 h2 → hgw_wf B (a ++ b) h h2
  | [], b, h, h1, h2, e, w => by
    have e' : h = h1 := e
    subst e'
    exact w
  | p :: a, b, h, h1, h2, e, w => by
    rcases e with ⟨e1, e2, e3⟩ | ⟨e1, e2, e3⟩
    · exact Or.inl ⟨e1, e2, hgw_wf_app e3 w⟩
    · exact Or.inr ⟨e1, e2, hgw_wf_app e3 w⟩
theorem hgw_wf_up : ∀ {a : hg_C} {h h1 : Nat}, hgw_wf B a h h1 → hgw_wf (B + 1) a (h + 1) (h1 + 1)
  | [], h, h1, e => congrArg Nat.succ (show h = h1 from e)
  | p :: a, h, h1, e => by
    rcases e with ⟨e1, e2, e3⟩ | ⟨e1, e2, e3⟩
    · exact Or.inl ⟨e1, by omega, hgw_wf_up e3⟩
    · refine Or.inr ⟨e1, by omega, ?_⟩
      have q := hgw_wf_up e3
      rw [show h - 1 + 1 = h + 1 - 1 by omega] at q
      exact q
theorem hgw_wf_le : ∀ {a : hg_C} {h h1 : Nat}, hgw_wf B a h h1 → hgw_wf (B + 1) a h h1
  | [], h, h1, e => e
  | p :: a, h, h1, e => by
    rcases e with ⟨e1, e2, e3⟩ | ⟨e1, e2, e3⟩
    · exact Or.inl ⟨e1, by omega, hgw_wf_le e3⟩
    · exact Or.inr ⟨e1, e2, hgw_wf_le e3⟩
theorem hgw_wf_ab {a b : hg_C} (ha : hgw_wf 14 a 0 1) (hb : hgw_wf 14 b 0 1) : hgw_wf 15 (a ++ b) 0 2 := hgw_wf_app (hgw_wf_le ha) (hgw_wf_up hb)
/-- a code that goes its way: its pile is as high as it says, what lay below stays -/
theorem hgw_ev_len : ∀ {c : hg_C} {s s' : List Int32} {h : Nat}, hgw_wf B c s.length h → hgw_ev x c s = some s' → s'.length = h
  | [], s, s', h, w, e => by
    have w' : s.length = h := w
    have e' : some s = some s' := e
    cases e'
    exact w'
  | p :: c, s, s', h, w, e => by
    have e' : (match hgw_st x p s with
      | none => none
      | some s' => hgw_ev x c s') = some s' := e
    split at e'
    · cases e'
    next s1 hs =>
      refine hgw_ev_len (s := s1) ?_ e'
      unfold hgw_st at hs
      rcases w with ⟨w1, w2, w3⟩ | ⟨w1, w2, w3⟩
      · split at hs
        · cases hs; exact w3
        · split at hs
          · cases hs; exact w3
          · omega
      · rw [if_neg (by omega), if_neg (by omega)] at hs
        split at hs
        next b a r =>
          split at hs
          · cases hs
          · cases hs
            exact w3
        · cases hs
theorem hgw_ev_app : ∀ {a b : hg_C} {s : List Int32}, hgw_ev x (a ++ b) s = match hgw_ev x a s with
    | none => none
    | some s' => hgw_ev x b s'
  | [], b, s => rfl
  | p :: a, b, s => by
    show (match hgw_st x p s with
      | none => none
      | some s' => hgw_ev x (a ++ b) s') = match (match hgw_st x p s with
      | none => none
      | some s' => hgw_ev x a s') with
      | none => none
      | some s' => hgw_ev x b s'
    cases hgw_st x p s with
    | none => rfl
    | some s' => exact hgw_ev_app
theorem hgw_ev_ext : ∀ {c : hg_C} {s t : List Int32} {h : Nat}, hgw_wf B c s.length h → hgw_ev x c (s ++ t) = (hgw_ev x c s).map (fun u => u ++ t)
  | [], s, t, h, _ => rfl
  | p :: c, s, t, h, w => by
    show (match hgw_st x p (s ++ t) with
      | none => none
      | some s' => hgw_ev x c s') = (match hgw_st x p s with
      | none => none
      | some s' => hgw_ev x c s').map (fun u => u ++ t)
    rcases w with ⟨w1, w2, w3⟩ | ⟨w1, w2, w3⟩
    · by_cases k0 : p.1 = 0
      · have e1 : hgw_st x p (s ++ t) = some ((Int32.ofInt p.2 :: s) ++ t) := by unfold hgw_st; rw [if_pos k0]; rfl
        have e2 : hgw_st x p s = some (Int32.ofInt p.2 :: s) := by unfold hgw_st; rw [if_pos k0]
        rw [e1, e2]
        exact hgw_ev_ext w3
      · have k1 : p.1 = 1 := by omega
        have e1 : hgw_st x p (s ++ t) = some ((x p.2.toNat :: s) ++ t) := by unfold hgw_st; rw [if_neg k0, if_pos k1]; rfl
        have e2 : hgw_st x p s = some (x p.2.toNat :: s) := by unfold hgw_st; rw [if_neg k0, if_pos k1]
        rw [e1, e2]
        exact hgw_ev_ext w3
    · match s, w2, w3 with
      | [], w2, _ => exact absurd w2 (by show ¬ 2 ≤ 0; omega)
      | [_], w2, _ => exact absurd w2 (by show ¬ 2 ≤ 1; omega)
      | b :: a :: r, _, w3 =>
        have e0 : ∀ r' : List Int32, hgw_st x p (b :: a :: r') = if p.1 = 5 ∧ b = 0 then none else some (hgv_ap p.1 a b :: r') := fun r' => by unfold hgw_st; rw [if_neg (by omega), if_neg (by omega)]
        have e1 := e0 (r ++ t)
        have e2 := e0 r
        show (match hgw_st x p (b :: a :: (r ++ t)) with
          | none => none
          | some s' => hgw_ev x c s') = _
        rw [e1, e2]
        by_cases q : p.1 = 5 ∧ b = 0
        · rw [if_pos q, if_pos q]; rfl
        · rw [if_neg q, if_neg q]
          exact hgw_ev_ext (s := hgv_ap p.1 a b :: r) w3
/-- both sides of <, one behind the other -/
theorem hgw_ev_two {a b : hg_C} (ha : hgw_wf 14 a 0 1) (hb : hgw_wf 14 b 0 1) : hgw_ev x (a ++ b) [] = match hgw_ev x a [], hgw_ev x b [] with
    | some (u :: _), some (v :: _) => some [v, u]
    | _, _ => none := by
  rw [hgw_ev_app]
  cases e1 : hgw_ev x a [] with
  | none => rfl
  | some s1 =>
    have l1 := hgw_ev_len (s := []) ha e1
    match s1, l1 with
    | [u], _ =>
      have e2 := hgw_ev_ext (x := x) (c := b) (s := []) (t := [u]) hb
      show hgw_ev x b [u] = _
      rw [show ([u] : List Int32) = [] ++ [u] from rfl, e2]
      cases e3 : hgw_ev x b [] with
      | none => rfl
      | some s2 =>
        have l2 := hgw_ev_len (s := []) hb e3
        match s2, l2 with
        | [v], _ => rfl
end HWV
/-! the codes that a text tells are of the right heights -/
def hgv_nw : List Nat → Nat
  | [] => 0
  | y :: w => if y = 31 then hgv_nw w else hgv_nw w + 1
def hgv_wo : List Nat → Prop
  | [] => True
  | y :: r => (y = 31 ∨ (26 ≤ y ∧ y < 28 ∧ hg_t0 r) ∨ (28 ≤ y ∧ y ≤ 29 ∧ hg_t1 r)) ∧ hgv_wo r
theorem hgv_nw_le : ∀ (w : List Nat), hgv_wo w → hgv_nw w ≤ 2 * hg_ct w + 2 ∧ (hg_t1 w → hgv_nw w ≤ 2 * hg_ct w + 1) ∧ (hg_t0 w → hgv_nw w ≤ 2 * hg_ct w)
  | [], _ => ⟨Nat.zero_le _, fun _ => Nat.zero_le _, fun _ => Nat.zero_le _⟩
  | y :: w, h => by
    obtain ⟨a, b, c⟩ := hgv_nw_le w h.2
    by_cases q : y = 31
    · have e1 : hgv_nw (y :: w) = hgv_nw w := by
        show (if y = 31 then hgv_nw w else hgv_nw w + 1) = _
        rw [if_pos q]
      have e2 : hg_ct (y :: w) = hg_ct w + 1 := by
        show (if y = 31 then hg_ct w + 1 else hg_ct w) = _
        rw [if_pos q]
      rw [e1, e2]
      exact ⟨by omega, fun _ => by omega, fun _ => by omega⟩
    · have e1 : hgv_nw (y :: w) = hgv_nw w + 1 := by
        show (if y = 31 then hgv_nw w else hgv_nw w + 1) = _
        rw [if_neg q]
      have e2 : hg_ct (y :: w) = hg_ct w := by
        show (if y = 31 then hg_ct w + 1 else hg_ct w) = _
        rw [if_neg q]
      rw [e1, e2]
      rcases h.1 with h1 | ⟨h1, h2, h3⟩ | ⟨h1, h2, h3⟩
      · exact absurd h1 q
      · have := c h3
        exact ⟨by omega, fun _ => by omega, fun t => absurd (show y = 31 from t) q⟩
      · have := b h3
        refine ⟨by omega, fun t => ?_, fun t => absurd (show y = 31 from t) q⟩
        have t' : y = 31 ∨ y < 28 := t
        omega
/-- what comes out keeps the heights -/
theorem hgv_fl_wf {st : Bool} : ∀ (w : List Nat) (o : hg_C), hgv_wo w → hgw_wf 14 o 0 (hgv_nw w + 1) → hgw_wf 14 (hg_fl st o w).1 0 (hgv_nw (hg_fl st o w).2 + 1) ∧ hgv_wo (hg_fl st o w).2
  | [], o, h, e => ⟨e, h⟩
  | y :: w, o, h, e => by
    by_cases q : y = 31 ∨ (st = true ∧ y < 28)
    · rw [hg_fl_stop q]
      exact ⟨e, h⟩
    · rw [hg_fl_pop q]
      have q31 : ¬ y = 31 := fun t => q (Or.inl t)
      have e1 : hgv_nw (y :: w) = hgv_nw w + 1 := by
        show (if y = 31 then hgv_nw w else hgv_nw w + 1) = _
        rw [if_neg q31]
      rw [e1] at e
      refine hgv_fl_wf w _ h.2 (hgw_wf_app e (Or.inr ⟨?_, by omega, rfl⟩))
      show 2 ≤ y - 24 ∧ y - 24 ≤ 5
      rcases h.1 with h1 | ⟨h1, h2, h3⟩ | ⟨h1, h2, h3⟩ <;> omega
theorem hgv_fl_t1 : ∀ (w : List Nat) (o : hg_C), hg_t1 (hg_fl true o w).2
  | [], o => trivial
  | y :: w, o => by
    by_cases q : y = 31 ∨ (true = true ∧ y < 28)
    · rw [hg_fl_stop q]
      rcases q with q | q
      · exact Or.inl q
      · exact Or.inr q.2
    · rw [hg_fl_pop q]
      exact hgv_fl_t1 w _
/-- what holds of all that was told so far -/
def hgw_iv (s : hq_S) (e : hg_S) : Prop :=
  ((∀ k, k < 4 → hgw_wl (e.1.2.2.2 k)) ∧ hgw_wb e.2.1.2.1) ∧
  (s.1 = 12 → e.2.2.1 = [] ∧ e.2.2.2 = []) ∧
  (s.1 = 13 → e.2.2.1 = [] ∧ e.2.2.2 = []) ∧
  (s.1 = 14 → hgw_wf 14 e.2.2.1 0 (hgv_nw e.2.2.2) ∧ hgv_wo e.2.2.2 ∧ hg_ct e.2.2.2 = s.2.2.2.1 ∧ s.2.2.2.1 ≤ 6) ∧
  (s.1 = 15 → hgw_wf 14 e.2.2.1 0 (hgv_nw e.2.2.2 + 1) ∧ hgv_wo e.2.2.2 ∧ hg_ct e.2.2.2 = s.2.2.2.1 ∧ s.2.2.2.1 ≤ 6) ∧
  (s.1 = 14 ∨ s.1 = 15 → (s.2.2.1 = 1 → hgw_wf 14 e.2.1.2.2.1 0 1) ∧ (s.2.2.1 = 2 → hgw_wf 14 e.2.1.2.2.1 0 1 ∧ hgw_wf 14 e.2.1.2.2.2 0 1))
theorem hgw_wb_app : ∀ {l : hg_B} {q : hg_C × hg_C × hg_C}, hgw_wb l → hgw_wf 14 q.1 0 1 → hgw_wf 14 q.2.1 0 1 → hgw_wf 14 q.2.2 0 1 → hgw_wb (l ++ [q])
  | [], q, _, a, b, c => ⟨⟨a, b, c⟩, trivial⟩
  | p :: l, q, h, a, b, c => ⟨h.1, hgw_wb_app h.2 a b c⟩
section HGWI
variable {K V : Nat → Int} {E : Nat → Nat → Bool} {t ifs ctx dp : Nat} {r : List Nat × Nat × Nat × Option (Nat × Nat)} {s s' : hq_S} {e : hg_S}
/-- a unit -/
theorem hgw_iv_un (hV : hg_V K V) (hl : (∀ k, k < 4 → hgw_wl (e.1.2.2.2 k)) ∧ hgw_wb e.2.1.2.1) (hw : hgw_wf 14 e.2.2.1 0 (hgv_nw e.2.2.2) ∧ hgv_wo e.2.2.2 ∧ hg_ct e.2.2.2 = dp ∧ dp ≤ 6) (hc : (ctx = 1 → hgw_wf 14 e.2.1.2.2.1 0 1) ∧ (ctx = 2 → hgw_wf 14 e.2.1.2.2.1 0 1 ∧ hgw_wf 14 e.2.1.2.2.2 0 1)) (hd : hq_unit K t ifs ctx dp r = .inl s') : hgw_iv s' (hg_un K V t e) := by
  obtain ⟨d, k, o, w⟩ := e
  obtain ⟨w1, w2, w3, w4⟩ := hw
  have w1' : hgw_wf 14 o 0 (hgv_nw w) := w1
  have w3' : hg_ct w = dp := w3
  have w2' : hgv_wo w := w2
  have hn := (hgv_nw_le w w2').1
  unfold hq_unit at hd
  split at hd
  next q =>
    obtain ⟨-, rfl⟩ := hq_go_inl hd
    by_cases h21 : K t = 21
    · rw [hg_un21 h21]
      exact ⟨hl, fun z => (by simp at z), fun z => (by simp at z), fun z => (by simp at z), fun _ => ⟨hgw_wf_app w1' (Or.inl ⟨Or.inl rfl, by omega, rfl⟩), w2', w3', w4⟩, fun _ => hc⟩
    · have hv : 11 ≤ K t ∧ K t ≤ 19 := by omega
      rw [hg_unv hv]
      exact ⟨hl, fun z => (by simp at z), fun z => (by simp at z), fun z => (by simp at z), fun _ => ⟨hgw_wf_app w1' (Or.inl ⟨Or.inr ⟨rfl, by show 0 ≤ K t - 11; omega, by show K t - 11 ≤ 8; omega⟩, by omega, rfl⟩), w2', w3', w4⟩, fun _ => hc⟩
  · split at hd
    next h31 =>
      split at hd
      next h6 =>
        obtain ⟨-, rfl⟩ := hq_go_inl hd
        rw [hg_un31 h31]
        refine ⟨hl, fun z => (by simp at z), fun z => (by simp at z), fun _ => ⟨?_, ⟨Or.inl rfl, w2'⟩, ?_, ?_⟩, fun z => (by simp at z), fun _ => hc⟩
        · show hgw_wf 14 o 0 (if 31 = 31 then hgv_nw w else hgv_nw w + 1)
          rw [if_pos rfl]
          exact w1'
        · show (if 31 = 31 then hg_ct w + 1 else hg_ct w) = dp + 1
          rw [if_pos rfl, w3']
        · show dp + 1 ≤ 6
          omega
      · cases hd
    · cases hd
theorem hgw_dl_iv (hV : hg_V K V) (hs15 : s.1 ≤ 15) (h : hgw_iv s e) (hd : hq_dl K V E t s = .inl s') : hgw_iv s' (hg_dl K V t s e) := by
  obtain ⟨hl, h12, h13, h14, h15, hc⟩ := h
  have keep : ∀ {s' : hq_S} {e' : hg_S}, s'.1 ≤ 11 → e'.1.2.2.2 = e.1.2.2.2 → e'.2.1 = e.2.1 → hgw_iv s' e' := fun {s' e'} a b c => ⟨⟨fun k hk => by rw [b]; exact hl.1 k hk, by rw [c]; exact hl.2⟩, fun z => absurd z (by omega), fun z => absurd z (by omega), fun z => absurd z (by omega), fun z => absurd z (by omega), fun z => absurd z (by omega)⟩
  obtain ⟨n, ifs, ctx, dp, ns, nm, sn, oo⟩ := s
  have hn15 : n ≤ 15 := hs15
  have hn : n = 0 ∨ n = 1 ∨ n = 2 ∨ n = 3 ∨ n = 4 ∨ n = 5 ∨ n = 6 ∨ n = 7 ∨ n = 8 ∨ n = 9 ∨ n = 10 ∨ n = 11 ∨ n = 12 ∨ n = 13 ∨ n = 14 ∨ n = 15 := by omega
  rcases hn with rfl | rfl | rfl | rfl | rfl | rfl | rfl | rfl | rfl | rfl | rfl | rfl | rfl | rfl | rfl | rfl
  · by_cases k22 : K t = 22
    · rw [hqd0_end k22] at hd; cases hd
    · by_cases k0 : K t = 0
      · rw [hqd0_house k0] at hd
        split at hd
        · obtain ⟨-, rfl⟩ := hq_go_inl hd
          rw [hg_d0n (by omega)]; exact keep (by dsimp only; omega) rfl rfl
        · cases hd
      · by_cases k1 : K t = 1
        · rw [hqd0_sends k1] at hd
          split at hd
          · obtain ⟨-, rfl⟩ := hq_go_inl hd
            rw [hg_d0n (by omega)]; exact keep (by dsimp only; omega) rfl rfl
          · cases hd
        · by_cases k6 : K t = 6
          · rw [hqd0_grief k6] at hd
            obtain ⟨-, rfl⟩ := hq_go_inl hd
            rw [hg_d0n (by omega)]; exact keep (by dsimp only; omega) rfl rfl
          · by_cases k7 : K t = 7
            · rw [hqd0_seed k7] at hd
              obtain ⟨-, rfl⟩ := hq_go_inl hd
              rw [hg_d0n (by omega)]; exact keep (by dsimp only; omega) rfl rfl
            · by_cases hk : 2 ≤ K t ∧ K t ≤ 5
              · rw [hqd0_law hk] at hd
                obtain ⟨-, rfl⟩ := hq_go_inl hd
                rw [hg_d0l hk]
                exact ⟨⟨hl.1, trivial⟩, fun _ => ⟨rfl, rfl⟩, fun z => (by simp at z), fun z => (by simp at z), fun z => (by simp at z), fun z => (by simp at z)⟩
              · rw [hqd0_else k22 (by omega)] at hd; cases hd
  · obtain ⟨-, -, rfl⟩ := hq_must_inl (show hq_must K 20 t _ = _ from hd); exact keep (by dsimp only; omega) rfl rfl
  · obtain ⟨-, -, rfl⟩ := hq_must_inl (show hq_must K 21 t _ = _ from hd); exact keep (by dsimp only; omega) rfl rfl
  · obtain ⟨-, -, rfl⟩ := hq_must_inl (show hq_must K 21 t _ = _ from hd); exact keep (by dsimp only; omega) rfl rfl
  · obtain ⟨-, -, rfl⟩ := hq_must_inl (show hq_must K 24 t _ = _ from hd); exact keep (by dsimp only; omega) rfl rfl
  · obtain ⟨-, -, rfl⟩ := hq_must_inl (show hq_must K 21 t _ = _ from hd); exact keep (by dsimp only; omega) rfl rfl
  · obtain ⟨-, -, rfl⟩ := hq_must_inl (show hq_must K 21 t _ = _ from hd); exact keep (by dsimp only; omega) rfl rfl
  · obtain ⟨-, -, rfl⟩ := hq_must_inl (show hq_must K 24 t _ = _ from hd); exact keep (by dsimp only; omega) rfl rfl
  · obtain ⟨-, -, rfl⟩ := hq_must_inl (show hq_must K 21 t _ = _ from hd); exact keep (by dsimp only; omega) rfl rfl
  · obtain ⟨-, -, rfl⟩ := hq_must_inl (show hq_must K 24 t _ = _ from hd); exact keep (by dsimp only; omega) rfl rfl
  · obtain ⟨-, -, rfl⟩ := hq_must_inl (show hq_must K 21 t _ = _ from hd); exact keep (by dsimp only; omega) rfl rfl
  · obtain ⟨-, -, rfl⟩ := hq_must_inl (show hq_must K 24 t _ = _ from hd); exact keep (by dsimp only; omega) rfl rfl
  · obtain ⟨-, -, rfl⟩ := hq_must_inl (show hq_must K 25 t _ = _ from hd)
    exact ⟨hl, fun z => (by simp at z), fun _ => h12 rfl, fun z => (by simp at z), fun z => (by simp at z), fun z => (by simp at z)⟩
  · obtain ⟨o0, w0⟩ := h13 rfl
    by_cases hk : K t = 8
    · rw [hqd13_if hk] at hd
      split at hd
      · obtain ⟨-, rfl⟩ := hq_go_inl hd
        rw [hg_d13i hk]
        refine ⟨hl, fun z => (by simp at z), fun z => (by simp at z), fun _ => ?_, fun z => (by simp at z), fun _ => ⟨fun z => (by simp at z), fun z => (by simp at z)⟩⟩
        rw [o0, w0]
        exact ⟨rfl, trivial, rfl, Nat.zero_le _⟩
      · cases hd
    · rw [hqd13_un hk] at hd
      rw [hg_d13u hk]
      refine hgw_iv_un hV hl ?_ ⟨fun z => (by simp at z), fun z => (by simp at z)⟩ hd
      rw [o0, w0]
      exact ⟨rfl, trivial, rfl, Nat.zero_le _⟩
  · exact hgw_iv_un hV hl (h14 rfl) (hc (Or.inl rfl)) hd
  · obtain ⟨d, k, o, w⟩ := e
    obtain ⟨w1, w2, w3, w4⟩ := h15 rfl
    have w1' : hgw_wf 14 o 0 (hgv_nw w + 1) := w1
    have w2' : hgv_wo w := w2
    have w3' : hg_ct w = dp := w3
    have hcc := hc (Or.inr rfl)
    by_cases hop : 26 ≤ K t ∧ K t ≤ 29
    · rw [hqd15_op hop] at hd
      obtain ⟨-, rfl⟩ := hq_go_inl hd
      obtain ⟨o1, v1, e1⟩ : ∃ o1 v1, hg_fl (decide (28 ≤ (K t).toNat)) o w = (o1, v1) := ⟨_, _, rfl⟩
      have f1 := hgv_fl_wf (st := decide (28 ≤ (K t).toNat)) w o w2' w1'
      rw [e1] at f1
      rw [hg_dop (x := (K t).toNat) (by omega) (by omega) (by omega) e1]
      refine ⟨hl, fun z => (by simp at z), fun z => (by simp at z), fun _ => ⟨?_, ⟨?_, f1.2⟩, ?_, w4⟩, fun z => (by simp at z), fun _ => hcc⟩
      · show hgw_wf 14 o1 0 (if (K t).toNat = 31 then hgv_nw v1 else hgv_nw v1 + 1)
        rw [if_neg (by omega)]
        exact f1.1
      · by_cases h28 : 28 ≤ (K t).toNat
        · rw [decide_eq_true h28] at e1
          have := hgv_fl_t1 w o
          rw [e1] at this
          exact Or.inr (Or.inr ⟨h28, by omega, this⟩)
        · rw [decide_eq_false h28] at e1
          have := (hg_ct_fl w o).2
          rw [e1] at this
          exact Or.inr (Or.inl ⟨by omega, by omega, this⟩)
      · show hg_ct ((K t).toNat :: v1) = dp
        rw [hg_ct_op (by omega), hg_ct_st e1]
        exact w3'
    · obtain ⟨o1, v1, e1⟩ : ∃ o1 v1, hg_fl false o w = (o1, v1) := ⟨_, _, rfl⟩
      have f1 := hgv_fl_wf (st := false) w o w2' w1'
      rw [e1] at f1
      match dp, w3', w4, hd with
      | 0, w3', w4, hd =>
        rw [hqd15_out hop] at hd
        rw [hg_dout hop e1]
        have hv1 := hg_ct0 e1 w3'
        subst hv1
        have f2 : hgw_wf 14 o1 0 1 := f1.1
        match ctx, hcc, hd with
        | 0, hcc, hd =>
          obtain ⟨-, -, rfl⟩ := hq_must_inl (show hq_must K 30 t _ = _ from hd)
          exact ⟨hl, fun z => (by simp at z), fun z => (by simp at z), fun _ => ⟨rfl, trivial, rfl, Nat.zero_le _⟩, fun z => (by simp at z), fun _ => ⟨fun _ => f2, fun z => (by simp at z)⟩⟩
        | 1, hcc, hd =>
          obtain ⟨-, -, rfl⟩ := hq_must_inl (show hq_must K 9 t _ = _ from hd)
          exact ⟨hl, fun z => (by simp at z), fun z => (by simp at z), fun _ => ⟨rfl, trivial, rfl, Nat.zero_le _⟩, fun z => (by simp at z), fun _ => ⟨fun z => (by simp at z), fun _ => ⟨hcc.1 rfl, f2⟩⟩⟩
        | 2, hcc, hd =>
          obtain ⟨-, -, rfl⟩ := hq_must_inl (show hq_must K 10 t _ = _ from hd)
          exact ⟨⟨hl.1, hgw_wb_app hl.2 (hcc.2 rfl).1 (hcc.2 rfl).2 f2⟩, fun z => (by simp at z), fun _ => ⟨rfl, rfl⟩, fun z => (by simp at z), fun z => (by simp at z), fun z => (by simp at z)⟩
        | c + 3, hcc, hd =>
          obtain ⟨-, -, rfl⟩ := hq_must_inl (show hq_must K 24 t _ = _ from hd)
          refine ⟨⟨fun q hq => ?_, hl.2⟩, fun z => (by simp at z), fun z => (by simp at z), fun z => (by simp at z), fun z => (by simp at z), fun z => (by simp at z)⟩
          show hgw_wl (if q = k.1 then (k.2.1, o1) else d.2.2.2 q)
          by_cases z : q = k.1
          · rw [if_pos z]
            exact ⟨hl.2, f2⟩
          · rw [if_neg z]
            exact hl.1 q hq
      | dp + 1, w3', w4, hd =>
        rw [hqd15_cl hop] at hd
        obtain ⟨-, -, rfl⟩ := hq_must_inl hd
        obtain ⟨r3, rfl, c3⟩ := hg_ctS e1 w3'
        rw [hg_dcl hop e1]
        have f2 : hgw_wf 14 o1 0 ((if 31 = 31 then hgv_nw r3 else hgv_nw r3 + 1) + 1) := f1.1
        rw [if_pos rfl] at f2
        have w4' : dp + 1 ≤ 6 := w4
        exact ⟨hl, fun z => (by simp at z), fun z => (by simp at z), fun z => (by simp at z), fun _ => ⟨f2, f1.2.2, c3, by show dp ≤ 6; omega⟩, fun _ => hcc⟩
theorem hgw_q_iv (hV : hg_V K V) : ∀ {t : Nat} {s : hq_S}, hq_q K V E t = some s → hgw_iv s (hg_q K V E t)
  | 0, s, h => by
    cases h
    refine ⟨⟨fun k _ => ⟨trivial, Or.inl ⟨Or.inl rfl, Nat.zero_le _, rfl⟩⟩, trivial⟩, fun z => (by simp at z), fun z => (by simp at z), fun z => (by simp at z), fun z => (by simp at z), fun z => (by simp at z)⟩
  | t + 1, s, h => by
    have h' : (match hq_q K V E t with
      | none => none
      | some s => match hq_dl K V E t s with
        | .inl s' => some s'
        | .inr _ => none) = some s := h
    split at h'
    · cases h'
    next s1 hs1 =>
      split at h'
      next s2 hd =>
        cases h'
        rw [hg_next hs1]
        exact hgw_dl_iv hV (hq_q_inv hs1).1.2.2.2.2 (hgw_q_iv hV hs1) hd
      · cases h'
end HGWI
/-! A LAW UNDER WAY IN THE CLASS: the steps l from i on, the pile s, what comes of it -/
def hgx (x : Nat → Int32) (p q : Int32) : Nat → Int32 := fun i => if i = 3 then p else if i = 6 then q else x i
def hgw_pl (a : Nat → Int32) : List Int32 → Prop
  | [] => True
  | v :: r => a r.length = v ∧ hgw_pl a r
def hgw_cd (x : Nat → Int32) (c3 : hg_C) (br : hg_B) (tm : hg_C) : Option (List Int32) → Int32
  | some (v :: u :: _) => if u.toInt < v.toInt then hgw_top (hgw_ev x c3 []) else hgw_law x br tm
  | _ => 0
def hgw_ok (x : Nat → Int32) (l : hg_C) (i : Nat) (s : List Int32) (res : Int32) : Prop := ∃ c : hg_C,
  (hgw_wf 15 c s.length 2 ∧ ∃ (c3 tm : hg_C) (br : hg_B) (tg : Nat), l = c ++ (6, (tg : Int)) :: (c3 ++ (7, 0) :: (hg_br tg br ++ (tm ++ [(7, 0)]))) ∧ tg = i + c.length + 1 + (c3.length + 1) ∧ hgw_wf 14 c3 0 1 ∧ hgw_wb br ∧ hgw_wf 14 tm 0 1 ∧ res = hgw_cd x c3 br tm (hgw_ev x c s)) ∨
  (hgw_wf 15 c s.length 1 ∧ ∃ R : hg_C, l = c ++ (7, 0) :: R ∧ res = hgw_top (hgw_ev x c s))
section HGOK
variable {x : Nat → Int32} {l : hg_C} {i : Nat} {s : List Int32} {res : Int32}
theorem hgw_pl.mv {a a' : Nat → Int32} : ∀ {s : List Int32}, hgw_pl a s → (∀ j, j < s.length → a' j = a j) → hgw_pl a' s
  | [], _, _ => trivial
  | v :: r, h, e => by
    have hl : (v :: r).length = r.length + 1 := rfl
    exact ⟨by rw [e r.length (by omega)]; exact h.1, hgw_pl.mv h.2 (fun j hj => e j (by omega))⟩
theorem hgw_ok.law {br : hg_B} {tm : hg_C} (h : hgw_wb br) (ht : hgw_wf 14 tm 0 1) : hgw_ok x (hg_law i (br, tm)) i [] (hgw_law x br tm) := by
  cases br with
  | nil => exact ⟨tm, Or.inr ⟨hgw_wf_le ht, [], rfl, rfl⟩⟩
  | cons q r =>
    obtain ⟨a, b, c⟩ := q
    obtain ⟨⟨h1, h2, h3⟩, h4⟩ := h
    refine ⟨a ++ b, Or.inl ⟨hgw_wf_ab h1 h2, c, tm, r, i + a.length + b.length + c.length + 2, ?_, ?_, h3, h4, ht, ?_⟩⟩
    · show (a ++ (b ++ ((6, ((i + a.length + b.length + c.length + 2 : Nat) : Int)) :: (c ++ ((7, 0) :: hg_br (i + a.length + b.length + c.length + 2) r))))) ++ (tm ++ [(7, 0)]) = _
      simp only [List.append_assoc, List.cons_append]
    · rw [List.length_append]
      omega
    · show (match hgw_ev x (a ++ b) [] with
        | some (v :: u :: _) => if u.toInt < v.toInt then hgw_top (hgw_ev x c []) else hgw_law x r tm
        | _ => 0) = hgw_cd x c r tm (hgw_ev x (a ++ b) [])
      cases hgw_ev x (a ++ b) [] with
      | none => rfl
      | some s1 =>
        match s1 with
        | [] => rfl
        | [_] => rfl
        | v :: u :: _ => rfl
/-- one step of a code -/
theorem hgw_step {B : Nat} {p : Nat × Int} {c : hg_C} {h : Nat} (w : hgw_wf B (p :: c) s.length h) :
    (p.1 = 0 ∧ s.length ≤ B ∧ hgw_wf B c (Int32.ofInt p.2 :: s).length h ∧ hgw_ev x (p :: c) s = hgw_ev x c (Int32.ofInt p.2 :: s)) ∨
    (p.1 = 1 ∧ (0 ≤ p.2 ∧ p.2 ≤ 8) ∧ s.length ≤ B ∧ hgw_wf B c (x p.2.toNat :: s).length h ∧ hgw_ev x (p :: c) s = hgw_ev x c (x p.2.toNat :: s)) ∨
    ((2 ≤ p.1 ∧ p.1 ≤ 5) ∧ ∃ b a r, s = b :: a :: r ∧ ((p.1 = 5 ∧ b = 0 ∧ hgw_ev x (p :: c) s = none) ∨ (¬ (p.1 = 5 ∧ b = 0) ∧ hgw_wf B c (hgv_ap p.1 a b :: r).length h ∧ hgw_ev x (p :: c) s = hgw_ev x c (hgv_ap p.1 a b :: r)))) := by
  have e : hgw_ev x (p :: c) s = match hgw_st x p s with
    | none => none
    | some s' => hgw_ev x c s' := rfl
  rcases w with ⟨w1, w2, w3⟩ | ⟨w1, w2, w3⟩
  · by_cases k0 : p.1 = 0
    · refine Or.inl ⟨k0, w2, w3, ?_⟩
      rw [e]; unfold hgw_st; rw [if_pos k0]
    · have k1 : p.1 = 1 ∧ 0 ≤ p.2 ∧ p.2 ≤ 8 := by omega
      refine Or.inr (Or.inl ⟨k1.1, k1.2, w2, w3, ?_⟩)
      rw [e]; unfold hgw_st; rw [if_neg k0, if_pos k1.1]
  · match s, w2, w3, e with
    | [], w2, _, _ => exact absurd w2 (by show ¬ 2 ≤ 0; omega)
    | [_], w2, _, _ => exact absurd w2 (by show ¬ 2 ≤ 1; omega)
    | b :: a :: r, _, w3, e =>
      refine Or.inr (Or.inr ⟨w1, b, a, r, rfl, ?_⟩)
      have e1 : hgw_st x p (b :: a :: r) = if p.1 = 5 ∧ b = 0 then none else some (hgv_ap p.1 a b :: r) := by unfold hgw_st; rw [if_neg (by omega), if_neg (by omega)]
      rw [e, e1]
      by_cases q : p.1 = 5 ∧ b = 0
      · rw [if_pos q]; exact Or.inl ⟨q.1, q.2, rfl⟩
      · rw [if_neg q]; exact Or.inr ⟨q, w3, rfl⟩
/-- what the next step of a law is -/
theorem hgw_ok.cases (h : hgw_ok x l i s res) : ∃ (k : Nat) (v : Int) (l' : hg_C), l = (k, v) :: l' ∧ (
    (k = 0 ∧ s.length ≤ 15 ∧ hgw_ok x l' (i + 1) (Int32.ofInt v :: s) res) ∨
    (k = 1 ∧ (0 ≤ v ∧ v ≤ 8) ∧ s.length ≤ 15 ∧ hgw_ok x l' (i + 1) (x v.toNat :: s) res) ∨
    ((2 ≤ k ∧ k ≤ 5) ∧ ∃ b a r, s = b :: a :: r ∧ ((k = 5 ∧ b = 0 ∧ res = 0) ∨ (¬ (k = 5 ∧ b = 0) ∧ hgw_ok x l' (i + 1) (hgv_ap k a b :: r) res))) ∨
    (k = 6 ∧ ∃ (b a : Int32) (m L2 : hg_C), s = [b, a] ∧ l' = m ++ L2 ∧ v = ((i + 1 + m.length : Nat) : Int) ∧ ((a.toInt < b.toInt ∧ hgw_ok x l' (i + 1) [] res) ∨ (b.toInt ≤ a.toInt ∧ hgw_ok x L2 (i + 1 + m.length) [] res))) ∨
    (k = 7 ∧ ∃ (b : Int32) (r : List Int32), s = b :: r ∧ res = b)) := by
  obtain ⟨c, h⟩ := h
  cases c with
  | nil =>
    rcases h with ⟨w, c3, tm, br, tg, e1, e2, w3, w4, w5, e3⟩ | ⟨w, R, e1, e3⟩
    · have w' : s.length = 2 := w
      match s, w' with
      | [b, a], _ =>
        refine ⟨6, (tg : Int), _, e1, Or.inr (Or.inr (Or.inr (Or.inl ⟨rfl, b, a, c3 ++ [(7, 0)], hg_law tg (br, tm), rfl, ?_, ?_, ?_⟩)))⟩
        · show _ = (c3 ++ [(7, 0)]) ++ (hg_br tg br ++ (tm ++ [(7, 0)]))
          rw [List.append_assoc]
          rfl
        · rw [hg_ln, e2]
          show (((i + 0 + 1 + (c3.length + 1) : Nat)) : Int) = _
          omega
        · have e4 : res = if a.toInt < b.toInt then hgw_top (hgw_ev x c3 []) else hgw_law x br tm := e3
          by_cases q : a.toInt < b.toInt
          · rw [if_pos q] at e4
            exact Or.inl ⟨q, c3, Or.inr ⟨hgw_wf_le w3, _, rfl, e4⟩⟩
          · rw [if_neg q] at e4
            refine Or.inr ⟨by omega, ?_⟩
            have e5 : tg = i + 1 + (c3 ++ [(7, 0)]).length := by
              rw [hg_ln, e2]
              show i + 0 + 1 + (c3.length + 1) = _
              omega
            rw [← e5, e4]
            exact hgw_ok.law w4 w5
    · have w' : s.length = 1 := w
      match s, w' with
      | [b], _ => exact ⟨7, 0, R, e1, Or.inr (Or.inr (Or.inr (Or.inr ⟨rfl, b, [], rfl, e3⟩)))⟩
  | cons p c =>
    obtain ⟨k, v⟩ := p
    rcases h with ⟨w, c3, tm, br, tg, e1, e2, w3, w4, w5, e3⟩ | ⟨w, R, e1, e3⟩
    · refine ⟨k, v, _, e1, ?_⟩
      have e2' : tg = i + 1 + c.length + 1 + (c3.length + 1) := by
        have : ((k, v) :: c).length = c.length + 1 := rfl
        omega
      have go : ∀ s', hgw_wf 15 c s'.length 2 → hgw_ev x ((k, v) :: c) s = hgw_ev x c s' → hgw_ok x (c ++ (6, (tg : Int)) :: (c3 ++ (7, 0) :: (hg_br tg br ++ (tm ++ [(7, 0)])))) (i + 1) s' res := fun s' a b => ⟨c, Or.inl ⟨a, c3, tm, br, tg, rfl, e2', w3, w4, w5, by rw [← b]; exact e3⟩⟩
      rcases hgw_step (x := x) w with ⟨a, b, c1, d⟩ | ⟨a, b, b2, c1, d⟩ | ⟨a, b, a1, r, es, q⟩
      · exact Or.inl ⟨a, b, go _ c1 d⟩
      · exact Or.inr (Or.inl ⟨a, b, b2, go _ c1 d⟩)
      · refine Or.inr (Or.inr (Or.inl ⟨a, b, a1, r, es, ?_⟩))
        rcases q with ⟨q1, q2, q3⟩ | ⟨q1, q2, q3⟩
        · exact Or.inl ⟨q1, q2, by rw [e3, q3]; rfl⟩
        · exact Or.inr ⟨q1, go _ q2 q3⟩
    · refine ⟨k, v, _, e1, ?_⟩
      have go : ∀ s', hgw_wf 15 c s'.length 1 → hgw_ev x ((k, v) :: c) s = hgw_ev x c s' → hgw_ok x (c ++ (7, 0) :: R) (i + 1) s' res := fun s' a b => ⟨c, Or.inr ⟨a, R, rfl, by rw [← b]; exact e3⟩⟩
      rcases hgw_step (x := x) w with ⟨a, b, c1, d⟩ | ⟨a, b, b2, c1, d⟩ | ⟨a, b, a1, r, es, q⟩
      · exact Or.inl ⟨a, b, go _ c1 d⟩
      · exact Or.inr (Or.inl ⟨a, b, b2, go _ c1 d⟩)
      · refine Or.inr (Or.inr (Or.inl ⟨a, b, a1, r, es, ?_⟩))
        rcases q with ⟨q1, q2, q3⟩ | ⟨q1, q2, q3⟩
        · exact Or.inl ⟨q1, q2, by rw [e3, q3]; rfl⟩
        · exact Or.inr ⟨q1, go _ q2 q3⟩
/-- a step taken apart -/
theorem hg_dec {y : Int32} {k : Nat} {v : Int} (h : y.toInt = 8 * v + (k : Int)) (hk : k < 8) : (y &&& Int32.ofNat 7).toInt = (k : Int) ∧ (y >>> (Int32.ofNat 3 &&& 31)).toInt = v := by
  have hy : y.toBitVec.toInt = 8 * v + (k : Int) := h
  have hc := BitVec.toInt_eq_toNat_cond y.toBitVec
  have hlt := y.toBitVec.isLt
  constructor
  · have hn : (y.toBitVec &&& 7#32).toNat = k := by
      rw [BitVec.toNat_and, show (7#32).toNat = 2 ^ 3 - 1 from rfl, Nat.and_two_pow_sub_one_eq_mod]
      omega
    show (y.toBitVec &&& 7#32).toInt = _
    rw [BitVec.toInt_eq_toNat_cond, hn, if_pos (by omega)]
  · show (y.toBitVec.sshiftRight 3).toInt = v
    rw [BitVec.toInt_sshiftRight, Int.shiftRight_eq_div_pow, hy]
    show (8 * v + (k : Int)) / 8 = v
    omega
end HGOK
theorem hofi {y : Int32} {v : Int} (h : y.toInt = v) : (Int32.ofInt v).toInt = v := by
  subst h
  rw [Int32.ofInt_toInt]
theorem hW14 {g d f : Nat} {A : hs_A} {V : Nat → Int} {T : Nat} {ns : List Nat} {D : hg_D} {zz q : Nat} {x : Nat → Int32} (hT : hTT T) (a1 a3 a4 : Int32) (hM : hcM V T A ns D [] zz) (hq : q < 4) (h1 : a1.toInt = (q : Int)) (hx : ∀ i, i < 9 → A.2.1 324 i = x i) (hw : hgw_wl (D.2.2.2 q)) {P : Option Value → hs_A → Prop} (hP : ∀ (r : Option Value) (A' : hs_A), (∃ z : Int32, r = some (.int z) ∧ z = hgw_law (hgx x a3 a4) (D.2.2.2 q).1 (D.2.2.2 q).2 ∧ A'.1 = A.1 ∧ A'.2.2 = A.2.2 ∧ (∀ i, ¬ i = 324 → ¬ i = T + 8 → A'.2.1 i = A.2.1 i) ∧ ∀ i, i < 9 → A'.2.1 324 i = hgx x a3 a4 i) → P r A') : hpa (f, g) d (some (.int)) hm_t14 0 [.ref (T + 5), .int a1, .ref 325, .int a3, .int a4, .retAddr 0, .retAddr 0, .retAddr 0, .retAddr 0, .retAddr 0, .retAddr 0] [] A P := by
  have k0 := hk_0
  have k1 := hk_1
  have k16 := hk_16
  have k2 := hk_2
  have k3 := hk_3
  have k4294967295 := hk_4294967295
  have k5 := hk_5
  have k6 := hk_6
  have k7 := hk_7
  have k9 := hk_9
  have hT9 : T ≤ 11 := by rcases hT with rfl | rfl <;> omega
  have hzz0 := hM.1.1
  have hiq : a1.toNatClampNeg = q := by have := hn_cn (j := a1) (by omega); omega
  obtain ⟨f0, b1, b2, b3, -⟩ := hM.2.1 q hq
  have hnil := hg_nil
  have L21 : ∀ (f : Nat) (x21_5 : Int32) (x21_6 : Int32) (x21_7 : Value) (x21_8 : Value) (x21_9 : Value) (x21_10 : Value) (A21 : hs_A) (l21 : hg_C) (i21 : Nat) (s21 : List Int32) (l5 : x21_5.toInt = (s21.length : Int)) (l6 : x21_6.toInt = (i21 : Int)) (sg21 : hg_seg (A.2.1 (T + 5)) i21 l21) (zl : i21 + l21.length ≤ zz) (ok21 : hgw_ok (hgx x a3 a4) l21 i21 s21 (hgw_law (hgx x a3 a4) (D.2.2.2 q).1 (D.2.2.2 q).2)) (pl21 : hgw_pl (A21.2.1 (T + 8)) s21) (FR21 : A21.1 = A.1 ∧ A21.2.2 = A.2.2 ∧ (∀ i, ¬ i = 324 → ¬ i = T + 8 → A21.2.1 i = A.2.1 i) ∧ ∀ i, i < 9 → A21.2.1 324 i = hgx x a3 a4 i), hpa (f, g) d (some (.int)) hm_t14 21 [.ref (T + 5), .int a1, .ref 325, .int a3, .int a4, .int x21_5, .int x21_6, x21_7, x21_8, x21_9, x21_10] [] A21 P := by
    intro f
    induction f with
    | zero => intros; exact hpa.zero
    | succ f ih21 =>
      intro x21_5 x21_6 x21_7 x21_8 x21_9 x21_10 A21 l21 i21 s21 l5 l6 sg21 zl ok21 pl21 FR21
      have xlt := Int32.toInt_lt x21_5
      have zlt := Int32.toInt_lt (A21.1 (T + 4) 4)
      have hzz : (A21.1 (T + 4) 4).toInt = (zz : Int) := by rw [FR21.1]; exact hM.1.1
      have FR21x := FR21.2.2.1 (T + 5) (by omega) (by omega)
      obtain ⟨k, v, l', rfl, hc⟩ := ok21.cases
      have hll : ((k, v) :: l').length = l'.length + 1 := rfl
      have sg1 := sg21.1
      have sg2 := sg21.2
      rcases hc with ⟨rfl, hs, ok⟩ | ⟨rfl, hv, hs, ok⟩ | ⟨hk, b, a, r, rfl, ok⟩ | ⟨rfl, b, a, m, L2, rfl, rfl, rfl, ok⟩ | ⟨rfl, b, r, rfl, ok⟩
      ·
        refine hpa_iloadS (by rfl) rfl ?_
        refine hpj_zlt (by rfl) rfl (fun q1 => False.elim (by omega)) (fun q1 => ?_)
        refine hpa_iload (by rfl) rfl ?_
        refine hpa_aload_n (by rfl) rfl ?_
        refine hpj_getK (by rfl) (hsT4 hT) (by rfl) rfl ?_
        refine hpj_cge (by rfl) rfl rfl (fun q2 => False.elim (by omega)) (fun q2 => ?_)
        refine hpa_aload_n (by rfl) rfl ?_
        refine hpa_get (v := .ref (T + 6)) (by rfl) (hsT4 hT) (by rfl) (hvT hT (by omega)) ?_
        refine hpa_iload (by rfl) rfl ?_
        refine hpx_iald (by rfl) (hsT5 hT) (fun h0v3 h1v3 v3 ev3 => ?_)
        rw [show (x21_6).toNatClampNeg = i21 by have := hn_cn (j := x21_6) (by omega); omega, FR21x] at ev3
        have tsv3 : v3.toInt = 8 * v + ((0 : Nat) : Int) := by rw [← ev3]; exact sg1
        obtain ⟨dav3, dbv3⟩ := hg_dec tsv3 (by omega)
        refine hpa_bipush (by rfl) rfl ?_
        refine hpa_iand (by rfl) ?_
        refine hpa_s1 (by rfl) (Or.inr ⟨_, rfl, rfl⟩) rfl ?_
        refine hpa_aload_n (by rfl) rfl ?_
        refine hpa_get (v := .ref (T + 6)) (by rfl) (hsT4 hT) (by rfl) (hvT hT (by omega)) ?_
        refine hpa_iload (by rfl) rfl ?_
        refine hpx_iald (by rfl) (hsT5 hT) (fun h0v4 h1v4 v4 ev4 => ?_)
        rw [show (x21_6).toNatClampNeg = i21 by have := hn_cn (j := x21_6) (by omega); omega, FR21x] at ev4
        have tsv4 : v4.toInt = 8 * v + ((0 : Nat) : Int) := by rw [← ev4]; exact sg1
        obtain ⟨dav4, dbv4⟩ := hg_dec tsv4 (by omega)
        refine hpa_iconst (by rfl) rfl ?_
        refine hpa_ishr (by rfl) ?_
        refine hpa_s1 (by rfl) (Or.inr ⟨_, rfl, rfl⟩) rfl ?_
        refine hpa_iload (by rfl) rfl ?_
        refine hpj_zeq (by rfl) rfl (fun q5 => ?_) (fun q5 => False.elim (by omega))
        refine hpa_iload (by rfl) rfl ?_
        refine hpa_bipush (by rfl) rfl ?_
        refine hpj_cge (by rfl) rfl hk_16 (fun q6 => False.elim (by omega)) (fun q6 => ?_)
        refine hpa_iload (by rfl) rfl ?_
        refine hpa_iconst (by rfl) rfl ?_
        refine hpj_cne (by rfl) rfl hk_1 (fun q7 => ?_) (fun q7 => False.elim (by omega))
        refine hpa_aload_n (by rfl) rfl ?_
        refine hpa_get (v := .ref (T + 9)) (by rfl) (hsT4 hT) (by rfl) (hvT hT (by omega)) ?_
        refine hpa_iload (by rfl) rfl ?_
        refine hpa_iload (by rfl) rfl ?_
        refine hpj_zne (by rfl) rfl (fun q8 => False.elim (by omega)) (fun q8 => ?_)
        refine hpa_iload (by rfl) rfl ?_
        refine hpa_goto (by rfl) ?_
        refine hpx_iast (by rfl) (hsT8 hT) (fun A9 h0A9 h1A9 eA9 fA9 gA9 => ?_)
        rw [show (x21_5).toNatClampNeg = (s21).length by have := hn_cn (j := x21_5) (by omega); omega] at fA9
        have plA9 : hgw_pl (A9.2.1 (T + 8)) ((Int32.ofInt v :: s21)) := ⟨by rw [fA9, hup1]; exact Int32.toInt_inj.mp (dbv4.trans (hofi dbv4).symm), pl21.mv (fun j hj => by rw [fA9, hup2 (by omega)])⟩
        have FRA9 : A9.1 = A.1 ∧ A9.2.2 = A.2.2 ∧ (∀ i, ¬ i = 324 → ¬ i = T + 8 → A9.2.1 i = A.2.1 i) ∧ ∀ i, i < 9 → A9.2.1 324 i = hgx x a3 a4 i := ⟨eA9.trans FR21.1, gA9.trans FR21.2.1, fun i h1 h2 => by rw [← FR21.2.2.1 i h1 h2, fA9]; funext j; exact hup2 (by omega), fun i hi => by rw [fA9, hup2 (by omega)]; exact FR21.2.2.2 i hi⟩
        refine hpj_iinc (by rfl) rfl rfl hk_1 (by omega) (by omega) (fun _ => rfl) (fun z10 ez10 => ?_)
        refine hpa_goto (by rfl) ?_
        refine hpj_iinc (by rfl) rfl rfl hk_1 (by omega) (by omega) (fun _ => rfl) (fun z11 ez11 => ?_)
        refine hpa_goto (by rfl) ?_
        exact ih21 z10 z11 (.int (v3 &&& (Int32.ofNat 7))) (.int (v4 >>> ((Int32.ofNat 3) &&& 31))) (x21_9) (x21_10) A9 l' (i21 + 1) ((Int32.ofInt v :: s21)) (by show _ = ((s21.length + 1 : Nat) : Int); omega) (by omega) sg2 (by omega) ok plA9 FRA9
      ·
        refine hpa_iloadS (by rfl) rfl ?_
        refine hpj_zlt (by rfl) rfl (fun q12 => False.elim (by omega)) (fun q12 => ?_)
        refine hpa_iload (by rfl) rfl ?_
        refine hpa_aload_n (by rfl) rfl ?_
        refine hpj_getK (by rfl) (hsT4 hT) (by rfl) rfl ?_
        refine hpj_cge (by rfl) rfl rfl (fun q13 => False.elim (by omega)) (fun q13 => ?_)
        refine hpa_aload_n (by rfl) rfl ?_
        refine hpa_get (v := .ref (T + 6)) (by rfl) (hsT4 hT) (by rfl) (hvT hT (by omega)) ?_
        refine hpa_iload (by rfl) rfl ?_
        refine hpx_iald (by rfl) (hsT5 hT) (fun h0v14 h1v14 v14 ev14 => ?_)
        rw [show (x21_6).toNatClampNeg = i21 by have := hn_cn (j := x21_6) (by omega); omega, FR21x] at ev14
        have tsv14 : v14.toInt = 8 * v + ((1 : Nat) : Int) := by rw [← ev14]; exact sg1
        obtain ⟨dav14, dbv14⟩ := hg_dec tsv14 (by omega)
        refine hpa_bipush (by rfl) rfl ?_
        refine hpa_iand (by rfl) ?_
        refine hpa_s1 (by rfl) (Or.inr ⟨_, rfl, rfl⟩) rfl ?_
        refine hpa_aload_n (by rfl) rfl ?_
        refine hpa_get (v := .ref (T + 6)) (by rfl) (hsT4 hT) (by rfl) (hvT hT (by omega)) ?_
        refine hpa_iload (by rfl) rfl ?_
        refine hpx_iald (by rfl) (hsT5 hT) (fun h0v15 h1v15 v15 ev15 => ?_)
        rw [show (x21_6).toNatClampNeg = i21 by have := hn_cn (j := x21_6) (by omega); omega, FR21x] at ev15
        have tsv15 : v15.toInt = 8 * v + ((1 : Nat) : Int) := by rw [← ev15]; exact sg1
        obtain ⟨dav15, dbv15⟩ := hg_dec tsv15 (by omega)
        refine hpa_iconst (by rfl) rfl ?_
        refine hpa_ishr (by rfl) ?_
        refine hpa_s1 (by rfl) (Or.inr ⟨_, rfl, rfl⟩) rfl ?_
        refine hpa_iload (by rfl) rfl ?_
        refine hpj_zeq (by rfl) rfl (fun q16 => False.elim (by omega)) (fun q16 => ?_)
        refine hpa_iload (by rfl) rfl ?_
        refine hpa_iconst (by rfl) rfl ?_
        refine hpj_cne (by rfl) rfl hk_1 (fun q17 => False.elim (by omega)) (fun q17 => ?_)
        refine hpa_iload (by rfl) rfl ?_
        refine hpa_bipush (by rfl) rfl ?_
        refine hpj_cge (by rfl) rfl hk_16 (fun q18 => False.elim (by omega)) (fun q18 => ?_)
        refine hpa_iload (by rfl) rfl ?_
        refine hpa_iconst (by rfl) rfl ?_
        refine hpj_cne (by rfl) rfl hk_1 (fun q19 => False.elim (by omega)) (fun q19 => ?_)
        refine hpa_iload (by rfl) rfl ?_
        refine hpa_bipush (by rfl) rfl ?_
        refine hpj_clt (by rfl) rfl hk_9 (fun q20 => ?_) (fun q20 => False.elim (by omega))
        refine hpa_aload_n (by rfl) rfl ?_
        refine hpa_get (v := .ref (T + 9)) (by rfl) (hsT4 hT) (by rfl) (hvT hT (by omega)) ?_
        refine hpa_iload (by rfl) rfl ?_
        refine hpa_iload (by rfl) rfl ?_
        refine hpj_zne (by rfl) rfl (fun q21 => ?_) (fun q21 => False.elim (by omega))
        refine hpa_aload_n (by rfl) rfl ?_
        refine hpa_iload (by rfl) rfl ?_
        refine hpx_iald (by rfl) (by rfl) (fun h0v22 h1v22 v22 ev22 => ?_)
        have lxv22 : v22 = hgx x a3 a4 v.toNat := by rw [← ev22, show ((v15 >>> ((Int32.ofNat 3) &&& 31))).toNatClampNeg = v.toNat by have := hn_cn (j := (v15 >>> ((Int32.ofNat 3) &&& 31))) (by omega); omega]; exact FR21.2.2.2 v.toNat (by omega)
        refine hpx_iast (by rfl) (hsT8 hT) (fun A23 h0A23 h1A23 eA23 fA23 gA23 => ?_)
        rw [show (x21_5).toNatClampNeg = (s21).length by have := hn_cn (j := x21_5) (by omega); omega] at fA23
        have plA23 : hgw_pl (A23.2.1 (T + 8)) ((hgx x a3 a4 v.toNat :: s21)) := ⟨by rw [fA23, hup1]; exact lxv22, pl21.mv (fun j hj => by rw [fA23, hup2 (by omega)])⟩
        have FRA23 : A23.1 = A.1 ∧ A23.2.2 = A.2.2 ∧ (∀ i, ¬ i = 324 → ¬ i = T + 8 → A23.2.1 i = A.2.1 i) ∧ ∀ i, i < 9 → A23.2.1 324 i = hgx x a3 a4 i := ⟨eA23.trans FR21.1, gA23.trans FR21.2.1, fun i h1 h2 => by rw [← FR21.2.2.1 i h1 h2, fA23]; funext j; exact hup2 (by omega), fun i hi => by rw [fA23, hup2 (by omega)]; exact FR21.2.2.2 i hi⟩
        refine hpj_iinc (by rfl) rfl rfl hk_1 (by omega) (by omega) (fun _ => rfl) (fun z24 ez24 => ?_)
        refine hpa_goto (by rfl) ?_
        refine hpj_iinc (by rfl) rfl rfl hk_1 (by omega) (by omega) (fun _ => rfl) (fun z25 ez25 => ?_)
        refine hpa_goto (by rfl) ?_
        exact ih21 z24 z25 (.int (v14 &&& (Int32.ofNat 7))) (.int (v15 >>> ((Int32.ofNat 3) &&& 31))) (x21_9) (x21_10) A23 l' (i21 + 1) ((hgx x a3 a4 v.toNat :: s21)) (by show _ = ((s21.length + 1 : Nat) : Int); omega) (by omega) sg2 (by omega) ok plA23 FRA23
      ·
        have hl2 : (b :: a :: r).length = r.length + 2 := rfl
        have hk4 : k = 2 ∨ k = 3 ∨ k = 4 ∨ k = 5 := by omega
        rcases hk4 with rfl | rfl | rfl | rfl
        ·
          rcases ok with ⟨o1, -, -⟩ | ⟨-, ok⟩
          · omega
          refine hpa_iloadS (by rfl) rfl ?_
          refine hpj_zlt (by rfl) rfl (fun q26 => False.elim (by omega)) (fun q26 => ?_)
          refine hpa_iload (by rfl) rfl ?_
          refine hpa_aload_n (by rfl) rfl ?_
          refine hpj_getK (by rfl) (hsT4 hT) (by rfl) rfl ?_
          refine hpj_cge (by rfl) rfl rfl (fun q27 => False.elim (by omega)) (fun q27 => ?_)
          refine hpa_aload_n (by rfl) rfl ?_
          refine hpa_get (v := .ref (T + 6)) (by rfl) (hsT4 hT) (by rfl) (hvT hT (by omega)) ?_
          refine hpa_iload (by rfl) rfl ?_
          refine hpx_iald (by rfl) (hsT5 hT) (fun h0v28 h1v28 v28 ev28 => ?_)
          rw [show (x21_6).toNatClampNeg = i21 by have := hn_cn (j := x21_6) (by omega); omega, FR21x] at ev28
          have tsv28 : v28.toInt = 8 * v + ((2 : Nat) : Int) := by rw [← ev28]; exact sg1
          obtain ⟨dav28, dbv28⟩ := hg_dec tsv28 (by omega)
          refine hpa_bipush (by rfl) rfl ?_
          refine hpa_iand (by rfl) ?_
          refine hpa_s1 (by rfl) (Or.inr ⟨_, rfl, rfl⟩) rfl ?_
          refine hpa_aload_n (by rfl) rfl ?_
          refine hpa_get (v := .ref (T + 6)) (by rfl) (hsT4 hT) (by rfl) (hvT hT (by omega)) ?_
          refine hpa_iload (by rfl) rfl ?_
          refine hpx_iald (by rfl) (hsT5 hT) (fun h0v29 h1v29 v29 ev29 => ?_)
          rw [show (x21_6).toNatClampNeg = i21 by have := hn_cn (j := x21_6) (by omega); omega, FR21x] at ev29
          have tsv29 : v29.toInt = 8 * v + ((2 : Nat) : Int) := by rw [← ev29]; exact sg1
          obtain ⟨dav29, dbv29⟩ := hg_dec tsv29 (by omega)
          refine hpa_iconst (by rfl) rfl ?_
          refine hpa_ishr (by rfl) ?_
          refine hpa_s1 (by rfl) (Or.inr ⟨_, rfl, rfl⟩) rfl ?_
          refine hpa_iload (by rfl) rfl ?_
          refine hpj_zeq (by rfl) rfl (fun q30 => False.elim (by omega)) (fun q30 => ?_)
          refine hpa_iload (by rfl) rfl ?_
          refine hpa_iconst (by rfl) rfl ?_
          refine hpj_cne (by rfl) rfl hk_1 (fun q31 => ?_) (fun q31 => False.elim (by omega))
          refine hpa_iload (by rfl) rfl ?_
          refine hpa_bipush (by rfl) rfl ?_
          refine hpj_cne (by rfl) rfl hk_7 (fun q32 => ?_) (fun q32 => False.elim (by omega))
          refine hpa_iload (by rfl) rfl ?_
          refine hpa_iconst (by rfl) rfl ?_
          refine hpj_clt (by rfl) rfl hk_2 (fun q33 => False.elim (by omega)) (fun q33 => ?_)
          refine hpa_iload (by rfl) rfl ?_
          refine hpa_iconst (by rfl) rfl ?_
          refine hpj_cne (by rfl) rfl hk_5 (fun q34 => ?_) (fun q34 => False.elim (by omega))
          refine hpj_iinc (by rfl) rfl rfl hk_4294967295 (by omega) (by omega) (fun _ => rfl) (fun z35 ez35 => ?_)
          refine hpa_aload_n (by rfl) rfl ?_
          refine hpa_get (v := .ref (T + 9)) (by rfl) (hsT4 hT) (by rfl) (hvT hT (by omega)) ?_
          refine hpa_iload (by rfl) rfl ?_
          refine hpa_iconst (by rfl) rfl ?_
          refine hpj_isub (by rfl) rfl hk_1 (by omega) (by omega) (fun z36 ez36 => ?_)
          refine hpx_iald (by rfl) (hsT8 hT) (fun h0v37 h1v37 v37 ev37 => ?_)
          have lpv37 : v37 = a := by rw [← ev37, show (z36).toNatClampNeg = r.length by have := hn_cn (j := z36) (by omega); omega]; exact pl21.2.1
          have lqv37 := congrArg Int32.toInt lpv37
          refine hpa_s1 (by rfl) (Or.inr ⟨_, rfl, rfl⟩) rfl ?_
          refine hpa_aload_n (by rfl) rfl ?_
          refine hpa_get (v := .ref (T + 9)) (by rfl) (hsT4 hT) (by rfl) (hvT hT (by omega)) ?_
          refine hpa_iload (by rfl) rfl ?_
          refine hpx_iald (by rfl) (hsT8 hT) (fun h0v38 h1v38 v38 ev38 => ?_)
          have lpv38 : v38 = b := by rw [← ev38, show (z35).toNatClampNeg = r.length + 1 by have := hn_cn (j := z35) (by omega); omega]; exact pl21.1
          have lqv38 := congrArg Int32.toInt lpv38
          refine hpa_s1 (by rfl) (Or.inr ⟨_, rfl, rfl⟩) rfl ?_
          refine hpa_iload (by rfl) rfl ?_
          refine hpa_tabIn (by rfl) (by omega) (by omega) (by rw [dav28]; rfl) (tgt := 224) (by rfl) ?_
          refine hpa_aload_n (by rfl) rfl ?_
          refine hpa_get (v := .ref (T + 9)) (by rfl) (hsT4 hT) (by rfl) (hvT hT (by omega)) ?_
          refine hpa_iload (by rfl) rfl ?_
          refine hpa_iconst (by rfl) rfl ?_
          refine hpj_isub (by rfl) rfl hk_1 (by omega) (by omega) (fun z39 ez39 => ?_)
          refine hpa_iload (by rfl) rfl ?_
          refine hpa_iload (by rfl) rfl ?_
          refine hpa_iadd (by rfl) ?_
          refine hpx_iast (by rfl) (hsT8 hT) (fun A40 h0A40 h1A40 eA40 fA40 gA40 => ?_)
          rw [show (z39).toNatClampNeg = (r).length by have := hn_cn (j := z39) (by omega); omega] at fA40
          have plA40 : hgw_pl (A40.2.1 (T + 8)) ((hgv_ap 2 a b :: r)) := ⟨by rw [fA40, hup1]; exact (by rw [lpv37, lpv38]; rfl), pl21.2.2.mv (fun j hj => by rw [fA40, hup2 (by omega)])⟩
          have FRA40 : A40.1 = A.1 ∧ A40.2.2 = A.2.2 ∧ (∀ i, ¬ i = 324 → ¬ i = T + 8 → A40.2.1 i = A.2.1 i) ∧ ∀ i, i < 9 → A40.2.1 324 i = hgx x a3 a4 i := ⟨eA40.trans FR21.1, gA40.trans FR21.2.1, fun i h1 h2 => by rw [← FR21.2.2.1 i h1 h2, fA40]; funext j; exact hup2 (by omega), fun i hi => by rw [fA40, hup2 (by omega)]; exact FR21.2.2.2 i hi⟩
          refine hpa_goto (by rfl) ?_
          refine hpj_iinc (by rfl) rfl rfl hk_1 (by omega) (by omega) (fun _ => rfl) (fun z41 ez41 => ?_)
          refine hpa_goto (by rfl) ?_
          exact ih21 z35 z41 (.int (v28 &&& (Int32.ofNat 7))) (.int (v29 >>> ((Int32.ofNat 3) &&& 31))) (.int v37) (.int v38) A40 l' (i21 + 1) ((hgv_ap 2 a b :: r)) (by show _ = ((r.length + 1 : Nat) : Int); omega) (by omega) sg2 (by omega) ok plA40 FRA40
        ·
          rcases ok with ⟨o1, -, -⟩ | ⟨-, ok⟩
          · omega
          refine hpa_iloadS (by rfl) rfl ?_
          refine hpj_zlt (by rfl) rfl (fun q42 => False.elim (by omega)) (fun q42 => ?_)
          refine hpa_iload (by rfl) rfl ?_
          refine hpa_aload_n (by rfl) rfl ?_
          refine hpj_getK (by rfl) (hsT4 hT) (by rfl) rfl ?_
          refine hpj_cge (by rfl) rfl rfl (fun q43 => False.elim (by omega)) (fun q43 => ?_)
          refine hpa_aload_n (by rfl) rfl ?_
          refine hpa_get (v := .ref (T + 6)) (by rfl) (hsT4 hT) (by rfl) (hvT hT (by omega)) ?_
          refine hpa_iload (by rfl) rfl ?_
          refine hpx_iald (by rfl) (hsT5 hT) (fun h0v44 h1v44 v44 ev44 => ?_)
          rw [show (x21_6).toNatClampNeg = i21 by have := hn_cn (j := x21_6) (by omega); omega, FR21x] at ev44
          have tsv44 : v44.toInt = 8 * v + ((3 : Nat) : Int) := by rw [← ev44]; exact sg1
          obtain ⟨dav44, dbv44⟩ := hg_dec tsv44 (by omega)
          refine hpa_bipush (by rfl) rfl ?_
          refine hpa_iand (by rfl) ?_
          refine hpa_s1 (by rfl) (Or.inr ⟨_, rfl, rfl⟩) rfl ?_
          refine hpa_aload_n (by rfl) rfl ?_
          refine hpa_get (v := .ref (T + 6)) (by rfl) (hsT4 hT) (by rfl) (hvT hT (by omega)) ?_
          refine hpa_iload (by rfl) rfl ?_
          refine hpx_iald (by rfl) (hsT5 hT) (fun h0v45 h1v45 v45 ev45 => ?_)
          rw [show (x21_6).toNatClampNeg = i21 by have := hn_cn (j := x21_6) (by omega); omega, FR21x] at ev45
          have tsv45 : v45.toInt = 8 * v + ((3 : Nat) : Int) := by rw [← ev45]; exact sg1
          obtain ⟨dav45, dbv45⟩ := hg_dec tsv45 (by omega)
          refine hpa_iconst (by rfl) rfl ?_
          refine hpa_ishr (by rfl) ?_
          refine hpa_s1 (by rfl) (Or.inr ⟨_, rfl, rfl⟩) rfl ?_
          refine hpa_iload (by rfl) rfl ?_
          refine hpj_zeq (by rfl) rfl (fun q46 => False.elim (by omega)) (fun q46 => ?_)
          refine hpa_iload (by rfl) rfl ?_
          refine hpa_iconst (by rfl) rfl ?_
          refine hpj_cne (by rfl) rfl hk_1 (fun q47 => ?_) (fun q47 => False.elim (by omega))
          refine hpa_iload (by rfl) rfl ?_
          refine hpa_bipush (by rfl) rfl ?_
          refine hpj_cne (by rfl) rfl hk_7 (fun q48 => ?_) (fun q48 => False.elim (by omega))
          refine hpa_iload (by rfl) rfl ?_
          refine hpa_iconst (by rfl) rfl ?_
          refine hpj_clt (by rfl) rfl hk_2 (fun q49 => False.elim (by omega)) (fun q49 => ?_)
          refine hpa_iload (by rfl) rfl ?_
          refine hpa_iconst (by rfl) rfl ?_
          refine hpj_cne (by rfl) rfl hk_5 (fun q50 => ?_) (fun q50 => False.elim (by omega))
          refine hpj_iinc (by rfl) rfl rfl hk_4294967295 (by omega) (by omega) (fun _ => rfl) (fun z51 ez51 => ?_)
          refine hpa_aload_n (by rfl) rfl ?_
          refine hpa_get (v := .ref (T + 9)) (by rfl) (hsT4 hT) (by rfl) (hvT hT (by omega)) ?_
          refine hpa_iload (by rfl) rfl ?_
          refine hpa_iconst (by rfl) rfl ?_
          refine hpj_isub (by rfl) rfl hk_1 (by omega) (by omega) (fun z52 ez52 => ?_)
          refine hpx_iald (by rfl) (hsT8 hT) (fun h0v53 h1v53 v53 ev53 => ?_)
          have lpv53 : v53 = a := by rw [← ev53, show (z52).toNatClampNeg = r.length by have := hn_cn (j := z52) (by omega); omega]; exact pl21.2.1
          have lqv53 := congrArg Int32.toInt lpv53
          refine hpa_s1 (by rfl) (Or.inr ⟨_, rfl, rfl⟩) rfl ?_
          refine hpa_aload_n (by rfl) rfl ?_
          refine hpa_get (v := .ref (T + 9)) (by rfl) (hsT4 hT) (by rfl) (hvT hT (by omega)) ?_
          refine hpa_iload (by rfl) rfl ?_
          refine hpx_iald (by rfl) (hsT8 hT) (fun h0v54 h1v54 v54 ev54 => ?_)
          have lpv54 : v54 = b := by rw [← ev54, show (z51).toNatClampNeg = r.length + 1 by have := hn_cn (j := z51) (by omega); omega]; exact pl21.1
          have lqv54 := congrArg Int32.toInt lpv54
          refine hpa_s1 (by rfl) (Or.inr ⟨_, rfl, rfl⟩) rfl ?_
          refine hpa_iload (by rfl) rfl ?_
          refine hpa_tabIn (by rfl) (by omega) (by omega) (by rw [dav44]; rfl) (tgt := 241) (by rfl) ?_
          refine hpa_aload_n (by rfl) rfl ?_
          refine hpa_get (v := .ref (T + 9)) (by rfl) (hsT4 hT) (by rfl) (hvT hT (by omega)) ?_
          refine hpa_iload (by rfl) rfl ?_
          refine hpa_iconst (by rfl) rfl ?_
          refine hpj_isub (by rfl) rfl hk_1 (by omega) (by omega) (fun z55 ez55 => ?_)
          refine hpa_iload (by rfl) rfl ?_
          refine hpa_iload (by rfl) rfl ?_
          refine hpa_isub (by rfl) ?_
          refine hpx_iast (by rfl) (hsT8 hT) (fun A56 h0A56 h1A56 eA56 fA56 gA56 => ?_)
          rw [show (z55).toNatClampNeg = (r).length by have := hn_cn (j := z55) (by omega); omega] at fA56
          have plA56 : hgw_pl (A56.2.1 (T + 8)) ((hgv_ap 3 a b :: r)) := ⟨by rw [fA56, hup1]; exact (by rw [lpv53, lpv54]; rfl), pl21.2.2.mv (fun j hj => by rw [fA56, hup2 (by omega)])⟩
          have FRA56 : A56.1 = A.1 ∧ A56.2.2 = A.2.2 ∧ (∀ i, ¬ i = 324 → ¬ i = T + 8 → A56.2.1 i = A.2.1 i) ∧ ∀ i, i < 9 → A56.2.1 324 i = hgx x a3 a4 i := ⟨eA56.trans FR21.1, gA56.trans FR21.2.1, fun i h1 h2 => by rw [← FR21.2.2.1 i h1 h2, fA56]; funext j; exact hup2 (by omega), fun i hi => by rw [fA56, hup2 (by omega)]; exact FR21.2.2.2 i hi⟩
          refine hpa_goto (by rfl) ?_
          refine hpj_iinc (by rfl) rfl rfl hk_1 (by omega) (by omega) (fun _ => rfl) (fun z57 ez57 => ?_)
          refine hpa_goto (by rfl) ?_
          exact ih21 z51 z57 (.int (v44 &&& (Int32.ofNat 7))) (.int (v45 >>> ((Int32.ofNat 3) &&& 31))) (.int v53) (.int v54) A56 l' (i21 + 1) ((hgv_ap 3 a b :: r)) (by show _ = ((r.length + 1 : Nat) : Int); omega) (by omega) sg2 (by omega) ok plA56 FRA56
        ·
          rcases ok with ⟨o1, -, -⟩ | ⟨-, ok⟩
          · omega
          refine hpa_iloadS (by rfl) rfl ?_
          refine hpj_zlt (by rfl) rfl (fun q58 => False.elim (by omega)) (fun q58 => ?_)
          refine hpa_iload (by rfl) rfl ?_
          refine hpa_aload_n (by rfl) rfl ?_
          refine hpj_getK (by rfl) (hsT4 hT) (by rfl) rfl ?_
          refine hpj_cge (by rfl) rfl rfl (fun q59 => False.elim (by omega)) (fun q59 => ?_)
          refine hpa_aload_n (by rfl) rfl ?_
          refine hpa_get (v := .ref (T + 6)) (by rfl) (hsT4 hT) (by rfl) (hvT hT (by omega)) ?_
          refine hpa_iload (by rfl) rfl ?_
          refine hpx_iald (by rfl) (hsT5 hT) (fun h0v60 h1v60 v60 ev60 => ?_)
          rw [show (x21_6).toNatClampNeg = i21 by have := hn_cn (j := x21_6) (by omega); omega, FR21x] at ev60
          have tsv60 : v60.toInt = 8 * v + ((4 : Nat) : Int) := by rw [← ev60]; exact sg1
          obtain ⟨dav60, dbv60⟩ := hg_dec tsv60 (by omega)
          refine hpa_bipush (by rfl) rfl ?_
          refine hpa_iand (by rfl) ?_
          refine hpa_s1 (by rfl) (Or.inr ⟨_, rfl, rfl⟩) rfl ?_
          refine hpa_aload_n (by rfl) rfl ?_
          refine hpa_get (v := .ref (T + 6)) (by rfl) (hsT4 hT) (by rfl) (hvT hT (by omega)) ?_
          refine hpa_iload (by rfl) rfl ?_
          refine hpx_iald (by rfl) (hsT5 hT) (fun h0v61 h1v61 v61 ev61 => ?_)
          rw [show (x21_6).toNatClampNeg = i21 by have := hn_cn (j := x21_6) (by omega); omega, FR21x] at ev61
          have tsv61 : v61.toInt = 8 * v + ((4 : Nat) : Int) := by rw [← ev61]; exact sg1
          obtain ⟨dav61, dbv61⟩ := hg_dec tsv61 (by omega)
          refine hpa_iconst (by rfl) rfl ?_
          refine hpa_ishr (by rfl) ?_
          refine hpa_s1 (by rfl) (Or.inr ⟨_, rfl, rfl⟩) rfl ?_
          refine hpa_iload (by rfl) rfl ?_
          refine hpj_zeq (by rfl) rfl (fun q62 => False.elim (by omega)) (fun q62 => ?_)
          refine hpa_iload (by rfl) rfl ?_
          refine hpa_iconst (by rfl) rfl ?_
          refine hpj_cne (by rfl) rfl hk_1 (fun q63 => ?_) (fun q63 => False.elim (by omega))
          refine hpa_iload (by rfl) rfl ?_
          refine hpa_bipush (by rfl) rfl ?_
          refine hpj_cne (by rfl) rfl hk_7 (fun q64 => ?_) (fun q64 => False.elim (by omega))
          refine hpa_iload (by rfl) rfl ?_
          refine hpa_iconst (by rfl) rfl ?_
          refine hpj_clt (by rfl) rfl hk_2 (fun q65 => False.elim (by omega)) (fun q65 => ?_)
          refine hpa_iload (by rfl) rfl ?_
          refine hpa_iconst (by rfl) rfl ?_
          refine hpj_cne (by rfl) rfl hk_5 (fun q66 => ?_) (fun q66 => False.elim (by omega))
          refine hpj_iinc (by rfl) rfl rfl hk_4294967295 (by omega) (by omega) (fun _ => rfl) (fun z67 ez67 => ?_)
          refine hpa_aload_n (by rfl) rfl ?_
          refine hpa_get (v := .ref (T + 9)) (by rfl) (hsT4 hT) (by rfl) (hvT hT (by omega)) ?_
          refine hpa_iload (by rfl) rfl ?_
          refine hpa_iconst (by rfl) rfl ?_
          refine hpj_isub (by rfl) rfl hk_1 (by omega) (by omega) (fun z68 ez68 => ?_)
          refine hpx_iald (by rfl) (hsT8 hT) (fun h0v69 h1v69 v69 ev69 => ?_)
          have lpv69 : v69 = a := by rw [← ev69, show (z68).toNatClampNeg = r.length by have := hn_cn (j := z68) (by omega); omega]; exact pl21.2.1
          have lqv69 := congrArg Int32.toInt lpv69
          refine hpa_s1 (by rfl) (Or.inr ⟨_, rfl, rfl⟩) rfl ?_
          refine hpa_aload_n (by rfl) rfl ?_
          refine hpa_get (v := .ref (T + 9)) (by rfl) (hsT4 hT) (by rfl) (hvT hT (by omega)) ?_
          refine hpa_iload (by rfl) rfl ?_
          refine hpx_iald (by rfl) (hsT8 hT) (fun h0v70 h1v70 v70 ev70 => ?_)
          have lpv70 : v70 = b := by rw [← ev70, show (z67).toNatClampNeg = r.length + 1 by have := hn_cn (j := z67) (by omega); omega]; exact pl21.1
          have lqv70 := congrArg Int32.toInt lpv70
          refine hpa_s1 (by rfl) (Or.inr ⟨_, rfl, rfl⟩) rfl ?_
          refine hpa_iload (by rfl) rfl ?_
          refine hpa_tabIn (by rfl) (by omega) (by omega) (by rw [dav60]; rfl) (tgt := 258) (by rfl) ?_
          refine hpa_aload_n (by rfl) rfl ?_
          refine hpa_get (v := .ref (T + 9)) (by rfl) (hsT4 hT) (by rfl) (hvT hT (by omega)) ?_
          refine hpa_iload (by rfl) rfl ?_
          refine hpa_iconst (by rfl) rfl ?_
          refine hpj_isub (by rfl) rfl hk_1 (by omega) (by omega) (fun z71 ez71 => ?_)
          refine hpa_iload (by rfl) rfl ?_
          refine hpa_iload (by rfl) rfl ?_
          refine hpa_imul (by rfl) ?_
          refine hpx_iast (by rfl) (hsT8 hT) (fun A72 h0A72 h1A72 eA72 fA72 gA72 => ?_)
          rw [show (z71).toNatClampNeg = (r).length by have := hn_cn (j := z71) (by omega); omega] at fA72
          have plA72 : hgw_pl (A72.2.1 (T + 8)) ((hgv_ap 4 a b :: r)) := ⟨by rw [fA72, hup1]; exact (by rw [lpv69, lpv70]; rfl), pl21.2.2.mv (fun j hj => by rw [fA72, hup2 (by omega)])⟩
          have FRA72 : A72.1 = A.1 ∧ A72.2.2 = A.2.2 ∧ (∀ i, ¬ i = 324 → ¬ i = T + 8 → A72.2.1 i = A.2.1 i) ∧ ∀ i, i < 9 → A72.2.1 324 i = hgx x a3 a4 i := ⟨eA72.trans FR21.1, gA72.trans FR21.2.1, fun i h1 h2 => by rw [← FR21.2.2.1 i h1 h2, fA72]; funext j; exact hup2 (by omega), fun i hi => by rw [fA72, hup2 (by omega)]; exact FR21.2.2.2 i hi⟩
          refine hpa_goto (by rfl) ?_
          refine hpj_iinc (by rfl) rfl rfl hk_1 (by omega) (by omega) (fun _ => rfl) (fun z73 ez73 => ?_)
          refine hpa_goto (by rfl) ?_
          exact ih21 z67 z73 (.int (v60 &&& (Int32.ofNat 7))) (.int (v61 >>> ((Int32.ofNat 3) &&& 31))) (.int v69) (.int v70) A72 l' (i21 + 1) ((hgv_ap 4 a b :: r)) (by show _ = ((r.length + 1 : Nat) : Int); omega) (by omega) sg2 (by omega) ok plA72 FRA72
        ·
          rcases ok with ⟨-, o2, o3⟩ | ⟨o1, ok⟩
          ·
            have hb0z : b.toInt = 0 := by rw [o2]; rfl
            refine hpa_iloadS (by rfl) rfl ?_
            refine hpj_zlt (by rfl) rfl (fun q74 => False.elim (by omega)) (fun q74 => ?_)
            refine hpa_iload (by rfl) rfl ?_
            refine hpa_aload_n (by rfl) rfl ?_
            refine hpj_getK (by rfl) (hsT4 hT) (by rfl) rfl ?_
            refine hpj_cge (by rfl) rfl rfl (fun q75 => False.elim (by omega)) (fun q75 => ?_)
            refine hpa_aload_n (by rfl) rfl ?_
            refine hpa_get (v := .ref (T + 6)) (by rfl) (hsT4 hT) (by rfl) (hvT hT (by omega)) ?_
            refine hpa_iload (by rfl) rfl ?_
            refine hpx_iald (by rfl) (hsT5 hT) (fun h0v76 h1v76 v76 ev76 => ?_)
            rw [show (x21_6).toNatClampNeg = i21 by have := hn_cn (j := x21_6) (by omega); omega, FR21x] at ev76
            have tsv76 : v76.toInt = 8 * v + ((5 : Nat) : Int) := by rw [← ev76]; exact sg1
            obtain ⟨dav76, dbv76⟩ := hg_dec tsv76 (by omega)
            refine hpa_bipush (by rfl) rfl ?_
            refine hpa_iand (by rfl) ?_
            refine hpa_s1 (by rfl) (Or.inr ⟨_, rfl, rfl⟩) rfl ?_
            refine hpa_aload_n (by rfl) rfl ?_
            refine hpa_get (v := .ref (T + 6)) (by rfl) (hsT4 hT) (by rfl) (hvT hT (by omega)) ?_
            refine hpa_iload (by rfl) rfl ?_
            refine hpx_iald (by rfl) (hsT5 hT) (fun h0v77 h1v77 v77 ev77 => ?_)
            rw [show (x21_6).toNatClampNeg = i21 by have := hn_cn (j := x21_6) (by omega); omega, FR21x] at ev77
            have tsv77 : v77.toInt = 8 * v + ((5 : Nat) : Int) := by rw [← ev77]; exact sg1
            obtain ⟨dav77, dbv77⟩ := hg_dec tsv77 (by omega)
            refine hpa_iconst (by rfl) rfl ?_
            refine hpa_ishr (by rfl) ?_
            refine hpa_s1 (by rfl) (Or.inr ⟨_, rfl, rfl⟩) rfl ?_
            refine hpa_iload (by rfl) rfl ?_
            refine hpj_zeq (by rfl) rfl (fun q78 => False.elim (by omega)) (fun q78 => ?_)
            refine hpa_iload (by rfl) rfl ?_
            refine hpa_iconst (by rfl) rfl ?_
            refine hpj_cne (by rfl) rfl hk_1 (fun q79 => ?_) (fun q79 => False.elim (by omega))
            refine hpa_iload (by rfl) rfl ?_
            refine hpa_bipush (by rfl) rfl ?_
            refine hpj_cne (by rfl) rfl hk_7 (fun q80 => ?_) (fun q80 => False.elim (by omega))
            refine hpa_iload (by rfl) rfl ?_
            refine hpa_iconst (by rfl) rfl ?_
            refine hpj_clt (by rfl) rfl hk_2 (fun q81 => False.elim (by omega)) (fun q81 => ?_)
            refine hpa_iload (by rfl) rfl ?_
            refine hpa_iconst (by rfl) rfl ?_
            refine hpj_cne (by rfl) rfl hk_5 (fun q82 => False.elim (by omega)) (fun q82 => ?_)
            refine hpa_aload_n (by rfl) rfl ?_
            refine hpa_get (v := .ref (T + 9)) (by rfl) (hsT4 hT) (by rfl) (hvT hT (by omega)) ?_
            refine hpa_iload (by rfl) rfl ?_
            refine hpa_iconst (by rfl) rfl ?_
            refine hpj_isub (by rfl) rfl hk_1 (by omega) (by omega) (fun z83 ez83 => ?_)
            refine hpx_iald (by rfl) (hsT8 hT) (fun h0v84 h1v84 v84 ev84 => ?_)
            have lpv84 : v84 = b := by rw [← ev84, show (z83).toNatClampNeg = r.length + 1 by have := hn_cn (j := z83) (by omega); omega]; exact pl21.1
            have lqv84 := congrArg Int32.toInt lpv84
            refine hpj_zne (by rfl) rfl (fun q85 => False.elim (by omega)) (fun q85 => ?_)
            refine hpa_iconst (by rfl) rfl ?_
            exact hpa_ireturn (by rfl) rfl (hP _ _ ⟨_, rfl, o3.symm, FR21⟩)
          ·
            have hb0 : ¬ b.toInt = 0 := fun w => o1 ⟨rfl, Int32.toInt_inj.mp w⟩
            refine hpa_iloadS (by rfl) rfl ?_
            refine hpj_zlt (by rfl) rfl (fun q86 => False.elim (by omega)) (fun q86 => ?_)
            refine hpa_iload (by rfl) rfl ?_
            refine hpa_aload_n (by rfl) rfl ?_
            refine hpj_getK (by rfl) (hsT4 hT) (by rfl) rfl ?_
            refine hpj_cge (by rfl) rfl rfl (fun q87 => False.elim (by omega)) (fun q87 => ?_)
            refine hpa_aload_n (by rfl) rfl ?_
            refine hpa_get (v := .ref (T + 6)) (by rfl) (hsT4 hT) (by rfl) (hvT hT (by omega)) ?_
            refine hpa_iload (by rfl) rfl ?_
            refine hpx_iald (by rfl) (hsT5 hT) (fun h0v88 h1v88 v88 ev88 => ?_)
            rw [show (x21_6).toNatClampNeg = i21 by have := hn_cn (j := x21_6) (by omega); omega, FR21x] at ev88
            have tsv88 : v88.toInt = 8 * v + ((5 : Nat) : Int) := by rw [← ev88]; exact sg1
            obtain ⟨dav88, dbv88⟩ := hg_dec tsv88 (by omega)
            refine hpa_bipush (by rfl) rfl ?_
            refine hpa_iand (by rfl) ?_
            refine hpa_s1 (by rfl) (Or.inr ⟨_, rfl, rfl⟩) rfl ?_
            refine hpa_aload_n (by rfl) rfl ?_
            refine hpa_get (v := .ref (T + 6)) (by rfl) (hsT4 hT) (by rfl) (hvT hT (by omega)) ?_
            refine hpa_iload (by rfl) rfl ?_
            refine hpx_iald (by rfl) (hsT5 hT) (fun h0v89 h1v89 v89 ev89 => ?_)
            rw [show (x21_6).toNatClampNeg = i21 by have := hn_cn (j := x21_6) (by omega); omega, FR21x] at ev89
            have tsv89 : v89.toInt = 8 * v + ((5 : Nat) : Int) := by rw [← ev89]; exact sg1
            obtain ⟨dav89, dbv89⟩ := hg_dec tsv89 (by omega)
            refine hpa_iconst (by rfl) rfl ?_
            refine hpa_ishr (by rfl) ?_
            refine hpa_s1 (by rfl) (Or.inr ⟨_, rfl, rfl⟩) rfl ?_
            refine hpa_iload (by rfl) rfl ?_
            refine hpj_zeq (by rfl) rfl (fun q90 => False.elim (by omega)) (fun q90 => ?_)
            refine hpa_iload (by rfl) rfl ?_
            refine hpa_iconst (by rfl) rfl ?_
            refine hpj_cne (by rfl) rfl hk_1 (fun q91 => ?_) (fun q91 => False.elim (by omega))
            refine hpa_iload (by rfl) rfl ?_
            refine hpa_bipush (by rfl) rfl ?_
            refine hpj_cne (by rfl) rfl hk_7 (fun q92 => ?_) (fun q92 => False.elim (by omega))
            refine hpa_iload (by rfl) rfl ?_
            refine hpa_iconst (by rfl) rfl ?_
            refine hpj_clt (by rfl) rfl hk_2 (fun q93 => False.elim (by omega)) (fun q93 => ?_)
            refine hpa_iload (by rfl) rfl ?_
            refine hpa_iconst (by rfl) rfl ?_
            refine hpj_cne (by rfl) rfl hk_5 (fun q94 => False.elim (by omega)) (fun q94 => ?_)
            refine hpa_aload_n (by rfl) rfl ?_
            refine hpa_get (v := .ref (T + 9)) (by rfl) (hsT4 hT) (by rfl) (hvT hT (by omega)) ?_
            refine hpa_iload (by rfl) rfl ?_
            refine hpa_iconst (by rfl) rfl ?_
            refine hpj_isub (by rfl) rfl hk_1 (by omega) (by omega) (fun z95 ez95 => ?_)
            refine hpx_iald (by rfl) (hsT8 hT) (fun h0v96 h1v96 v96 ev96 => ?_)
            have lpv96 : v96 = b := by rw [← ev96, show (z95).toNatClampNeg = r.length + 1 by have := hn_cn (j := z95) (by omega); omega]; exact pl21.1
            have lqv96 := congrArg Int32.toInt lpv96
            refine hpj_zne (by rfl) rfl (fun q97 => ?_) (fun q97 => False.elim (by omega))
            refine hpj_iinc (by rfl) rfl rfl hk_4294967295 (by omega) (by omega) (fun _ => rfl) (fun z98 ez98 => ?_)
            refine hpa_aload_n (by rfl) rfl ?_
            refine hpa_get (v := .ref (T + 9)) (by rfl) (hsT4 hT) (by rfl) (hvT hT (by omega)) ?_
            refine hpa_iload (by rfl) rfl ?_
            refine hpa_iconst (by rfl) rfl ?_
            refine hpj_isub (by rfl) rfl hk_1 (by omega) (by omega) (fun z99 ez99 => ?_)
            refine hpx_iald (by rfl) (hsT8 hT) (fun h0v100 h1v100 v100 ev100 => ?_)
            have lpv100 : v100 = a := by rw [← ev100, show (z99).toNatClampNeg = r.length by have := hn_cn (j := z99) (by omega); omega]; exact pl21.2.1
            have lqv100 := congrArg Int32.toInt lpv100
            refine hpa_s1 (by rfl) (Or.inr ⟨_, rfl, rfl⟩) rfl ?_
            refine hpa_aload_n (by rfl) rfl ?_
            refine hpa_get (v := .ref (T + 9)) (by rfl) (hsT4 hT) (by rfl) (hvT hT (by omega)) ?_
            refine hpa_iload (by rfl) rfl ?_
            refine hpx_iald (by rfl) (hsT8 hT) (fun h0v101 h1v101 v101 ev101 => ?_)
            have lpv101 : v101 = b := by rw [← ev101, show (z98).toNatClampNeg = r.length + 1 by have := hn_cn (j := z98) (by omega); omega]; exact pl21.1
            have lqv101 := congrArg Int32.toInt lpv101
            refine hpa_s1 (by rfl) (Or.inr ⟨_, rfl, rfl⟩) rfl ?_
            refine hpa_iload (by rfl) rfl ?_
            refine hpa_tabIn (by rfl) (by omega) (by omega) (by rw [dav88]; rfl) (tgt := 275) (by rfl) ?_
            refine hpa_aload_n (by rfl) rfl ?_
            refine hpa_get (v := .ref (T + 9)) (by rfl) (hsT4 hT) (by rfl) (hvT hT (by omega)) ?_
            refine hpa_iload (by rfl) rfl ?_
            refine hpa_iconst (by rfl) rfl ?_
            refine hpj_isub (by rfl) rfl hk_1 (by omega) (by omega) (fun z102 ez102 => ?_)
            refine hpa_iload (by rfl) rfl ?_
            refine hpa_iload (by rfl) rfl ?_
            refine hpa_idiv (by rfl) (fun w => hb0 (by rw [← lpv101, w]; rfl)) ?_
            refine hpx_iast (by rfl) (hsT8 hT) (fun A103 h0A103 h1A103 eA103 fA103 gA103 => ?_)
            rw [show (z102).toNatClampNeg = (r).length by have := hn_cn (j := z102) (by omega); omega] at fA103
            have plA103 : hgw_pl (A103.2.1 (T + 8)) ((hgv_ap 5 a b :: r)) := ⟨by rw [fA103, hup1]; exact (by rw [lpv100, lpv101]; rfl), pl21.2.2.mv (fun j hj => by rw [fA103, hup2 (by omega)])⟩
            have FRA103 : A103.1 = A.1 ∧ A103.2.2 = A.2.2 ∧ (∀ i, ¬ i = 324 → ¬ i = T + 8 → A103.2.1 i = A.2.1 i) ∧ ∀ i, i < 9 → A103.2.1 324 i = hgx x a3 a4 i := ⟨eA103.trans FR21.1, gA103.trans FR21.2.1, fun i h1 h2 => by rw [← FR21.2.2.1 i h1 h2, fA103]; funext j; exact hup2 (by omega), fun i hi => by rw [fA103, hup2 (by omega)]; exact FR21.2.2.2 i hi⟩
            refine hpa_goto (by rfl) ?_
            refine hpj_iinc (by rfl) rfl rfl hk_1 (by omega) (by omega) (fun _ => rfl) (fun z104 ez104 => ?_)
            refine hpa_goto (by rfl) ?_
            exact ih21 z98 z104 (.int (v88 &&& (Int32.ofNat 7))) (.int (v89 >>> ((Int32.ofNat 3) &&& 31))) (.int v100) (.int v101) A103 l' (i21 + 1) ((hgv_ap 5 a b :: r)) (by show _ = ((r.length + 1 : Nat) : Int); omega) (by omega) sg2 (by omega) ok plA103 FRA103
      ·
        have hl2 : ([b, a] : List Int32).length = 2 := rfl
        have hlm : (m ++ L2).length = m.length + L2.length := List.length_append
        rcases ok with ⟨ol, ok⟩ | ⟨ol, ok⟩
        ·
          refine hpa_iloadS (by rfl) rfl ?_
          refine hpj_zlt (by rfl) rfl (fun q105 => False.elim (by omega)) (fun q105 => ?_)
          refine hpa_iload (by rfl) rfl ?_
          refine hpa_aload_n (by rfl) rfl ?_
          refine hpj_getK (by rfl) (hsT4 hT) (by rfl) rfl ?_
          refine hpj_cge (by rfl) rfl rfl (fun q106 => False.elim (by omega)) (fun q106 => ?_)
          refine hpa_aload_n (by rfl) rfl ?_
          refine hpa_get (v := .ref (T + 6)) (by rfl) (hsT4 hT) (by rfl) (hvT hT (by omega)) ?_
          refine hpa_iload (by rfl) rfl ?_
          refine hpx_iald (by rfl) (hsT5 hT) (fun h0v107 h1v107 v107 ev107 => ?_)
          rw [show (x21_6).toNatClampNeg = i21 by have := hn_cn (j := x21_6) (by omega); omega, FR21x] at ev107
          have tsv107 : v107.toInt = 8 * ((i21 + 1 + m.length : Nat) : Int) + ((6 : Nat) : Int) := by rw [← ev107]; exact sg1
          obtain ⟨dav107, dbv107⟩ := hg_dec tsv107 (by omega)
          refine hpa_bipush (by rfl) rfl ?_
          refine hpa_iand (by rfl) ?_
          refine hpa_s1 (by rfl) (Or.inr ⟨_, rfl, rfl⟩) rfl ?_
          refine hpa_aload_n (by rfl) rfl ?_
          refine hpa_get (v := .ref (T + 6)) (by rfl) (hsT4 hT) (by rfl) (hvT hT (by omega)) ?_
          refine hpa_iload (by rfl) rfl ?_
          refine hpx_iald (by rfl) (hsT5 hT) (fun h0v108 h1v108 v108 ev108 => ?_)
          rw [show (x21_6).toNatClampNeg = i21 by have := hn_cn (j := x21_6) (by omega); omega, FR21x] at ev108
          have tsv108 : v108.toInt = 8 * ((i21 + 1 + m.length : Nat) : Int) + ((6 : Nat) : Int) := by rw [← ev108]; exact sg1
          obtain ⟨dav108, dbv108⟩ := hg_dec tsv108 (by omega)
          refine hpa_iconst (by rfl) rfl ?_
          refine hpa_ishr (by rfl) ?_
          refine hpa_s1 (by rfl) (Or.inr ⟨_, rfl, rfl⟩) rfl ?_
          refine hpa_iload (by rfl) rfl ?_
          refine hpj_zeq (by rfl) rfl (fun q109 => False.elim (by omega)) (fun q109 => ?_)
          refine hpa_iload (by rfl) rfl ?_
          refine hpa_iconst (by rfl) rfl ?_
          refine hpj_cne (by rfl) rfl hk_1 (fun q110 => ?_) (fun q110 => False.elim (by omega))
          refine hpa_iload (by rfl) rfl ?_
          refine hpa_bipush (by rfl) rfl ?_
          refine hpj_cne (by rfl) rfl hk_7 (fun q111 => ?_) (fun q111 => False.elim (by omega))
          refine hpa_iload (by rfl) rfl ?_
          refine hpa_iconst (by rfl) rfl ?_
          refine hpj_clt (by rfl) rfl hk_2 (fun q112 => False.elim (by omega)) (fun q112 => ?_)
          refine hpa_iload (by rfl) rfl ?_
          refine hpa_iconst (by rfl) rfl ?_
          refine hpj_cne (by rfl) rfl hk_5 (fun q113 => ?_) (fun q113 => False.elim (by omega))
          refine hpj_iinc (by rfl) rfl rfl hk_4294967295 (by omega) (by omega) (fun _ => rfl) (fun z114 ez114 => ?_)
          refine hpa_aload_n (by rfl) rfl ?_
          refine hpa_get (v := .ref (T + 9)) (by rfl) (hsT4 hT) (by rfl) (hvT hT (by omega)) ?_
          refine hpa_iload (by rfl) rfl ?_
          refine hpa_iconst (by rfl) rfl ?_
          refine hpj_isub (by rfl) rfl hk_1 (by omega) (by omega) (fun z115 ez115 => ?_)
          refine hpx_iald (by rfl) (hsT8 hT) (fun h0v116 h1v116 v116 ev116 => ?_)
          have lpv116 : v116 = a := by rw [← ev116, show (z115).toNatClampNeg = 0 by have := hn_cn (j := z115) (by omega); omega]; exact pl21.2.1
          have lqv116 := congrArg Int32.toInt lpv116
          refine hpa_s1 (by rfl) (Or.inr ⟨_, rfl, rfl⟩) rfl ?_
          refine hpa_aload_n (by rfl) rfl ?_
          refine hpa_get (v := .ref (T + 9)) (by rfl) (hsT4 hT) (by rfl) (hvT hT (by omega)) ?_
          refine hpa_iload (by rfl) rfl ?_
          refine hpx_iald (by rfl) (hsT8 hT) (fun h0v117 h1v117 v117 ev117 => ?_)
          have lpv117 : v117 = b := by rw [← ev117, show (z114).toNatClampNeg = 1 by have := hn_cn (j := z114) (by omega); omega]; exact pl21.1
          have lqv117 := congrArg Int32.toInt lpv117
          refine hpa_s1 (by rfl) (Or.inr ⟨_, rfl, rfl⟩) rfl ?_
          refine hpa_iload (by rfl) rfl ?_
          refine hpa_tabOut (by rfl) (by omega) (tgt := 292) (by rfl) ?_
          refine hpj_iinc (by rfl) rfl rfl hk_4294967295 (by omega) (by omega) (fun _ => rfl) (fun z118 ez118 => ?_)
          refine hpa_iload (by rfl) rfl ?_
          refine hpa_iload (by rfl) rfl ?_
          refine hpj_clt (by rfl) rfl rfl (fun q119 => ?_) (fun q119 => False.elim (by omega))
          refine hpj_iinc (by rfl) rfl rfl hk_1 (by omega) (by omega) (fun _ => rfl) (fun z120 ez120 => ?_)
          refine hpa_goto (by rfl) ?_
          exact ih21 z118 z120 (.int (v107 &&& (Int32.ofNat 7))) (.int (v108 >>> ((Int32.ofNat 3) &&& 31))) (.int v116) (.int v117) A21 (m ++ L2) (i21 + 1) [] (by show _ = (0 : Int); omega) (by omega) sg2 (by omega) ok trivial FR21
        ·
          refine hpa_iloadS (by rfl) rfl ?_
          refine hpj_zlt (by rfl) rfl (fun q121 => False.elim (by omega)) (fun q121 => ?_)
          refine hpa_iload (by rfl) rfl ?_
          refine hpa_aload_n (by rfl) rfl ?_
          refine hpj_getK (by rfl) (hsT4 hT) (by rfl) rfl ?_
          refine hpj_cge (by rfl) rfl rfl (fun q122 => False.elim (by omega)) (fun q122 => ?_)
          refine hpa_aload_n (by rfl) rfl ?_
          refine hpa_get (v := .ref (T + 6)) (by rfl) (hsT4 hT) (by rfl) (hvT hT (by omega)) ?_
          refine hpa_iload (by rfl) rfl ?_
          refine hpx_iald (by rfl) (hsT5 hT) (fun h0v123 h1v123 v123 ev123 => ?_)
          rw [show (x21_6).toNatClampNeg = i21 by have := hn_cn (j := x21_6) (by omega); omega, FR21x] at ev123
          have tsv123 : v123.toInt = 8 * ((i21 + 1 + m.length : Nat) : Int) + ((6 : Nat) : Int) := by rw [← ev123]; exact sg1
          obtain ⟨dav123, dbv123⟩ := hg_dec tsv123 (by omega)
          refine hpa_bipush (by rfl) rfl ?_
          refine hpa_iand (by rfl) ?_
          refine hpa_s1 (by rfl) (Or.inr ⟨_, rfl, rfl⟩) rfl ?_
          refine hpa_aload_n (by rfl) rfl ?_
          refine hpa_get (v := .ref (T + 6)) (by rfl) (hsT4 hT) (by rfl) (hvT hT (by omega)) ?_
          refine hpa_iload (by rfl) rfl ?_
          refine hpx_iald (by rfl) (hsT5 hT) (fun h0v124 h1v124 v124 ev124 => ?_)
          rw [show (x21_6).toNatClampNeg = i21 by have := hn_cn (j := x21_6) (by omega); omega, FR21x] at ev124
          have tsv124 : v124.toInt = 8 * ((i21 + 1 + m.length : Nat) : Int) + ((6 : Nat) : Int) := by rw [← ev124]; exact sg1
          obtain ⟨dav124, dbv124⟩ := hg_dec tsv124 (by omega)
          refine hpa_iconst (by rfl) rfl ?_
          refine hpa_ishr (by rfl) ?_
          refine hpa_s1 (by rfl) (Or.inr ⟨_, rfl, rfl⟩) rfl ?_
          refine hpa_iload (by rfl) rfl ?_
          refine hpj_zeq (by rfl) rfl (fun q125 => False.elim (by omega)) (fun q125 => ?_)
          refine hpa_iload (by rfl) rfl ?_
          refine hpa_iconst (by rfl) rfl ?_
          refine hpj_cne (by rfl) rfl hk_1 (fun q126 => ?_) (fun q126 => False.elim (by omega))
          refine hpa_iload (by rfl) rfl ?_
          refine hpa_bipush (by rfl) rfl ?_
          refine hpj_cne (by rfl) rfl hk_7 (fun q127 => ?_) (fun q127 => False.elim (by omega))
          refine hpa_iload (by rfl) rfl ?_
          refine hpa_iconst (by rfl) rfl ?_
          refine hpj_clt (by rfl) rfl hk_2 (fun q128 => False.elim (by omega)) (fun q128 => ?_)
          refine hpa_iload (by rfl) rfl ?_
          refine hpa_iconst (by rfl) rfl ?_
          refine hpj_cne (by rfl) rfl hk_5 (fun q129 => ?_) (fun q129 => False.elim (by omega))
          refine hpj_iinc (by rfl) rfl rfl hk_4294967295 (by omega) (by omega) (fun _ => rfl) (fun z130 ez130 => ?_)
          refine hpa_aload_n (by rfl) rfl ?_
          refine hpa_get (v := .ref (T + 9)) (by rfl) (hsT4 hT) (by rfl) (hvT hT (by omega)) ?_
          refine hpa_iload (by rfl) rfl ?_
          refine hpa_iconst (by rfl) rfl ?_
          refine hpj_isub (by rfl) rfl hk_1 (by omega) (by omega) (fun z131 ez131 => ?_)
          refine hpx_iald (by rfl) (hsT8 hT) (fun h0v132 h1v132 v132 ev132 => ?_)
          have lpv132 : v132 = a := by rw [← ev132, show (z131).toNatClampNeg = 0 by have := hn_cn (j := z131) (by omega); omega]; exact pl21.2.1
          have lqv132 := congrArg Int32.toInt lpv132
          refine hpa_s1 (by rfl) (Or.inr ⟨_, rfl, rfl⟩) rfl ?_
          refine hpa_aload_n (by rfl) rfl ?_
          refine hpa_get (v := .ref (T + 9)) (by rfl) (hsT4 hT) (by rfl) (hvT hT (by omega)) ?_
          refine hpa_iload (by rfl) rfl ?_
          refine hpx_iald (by rfl) (hsT8 hT) (fun h0v133 h1v133 v133 ev133 => ?_)
          have lpv133 : v133 = b := by rw [← ev133, show (z130).toNatClampNeg = 1 by have := hn_cn (j := z130) (by omega); omega]; exact pl21.1
          have lqv133 := congrArg Int32.toInt lpv133
          refine hpa_s1 (by rfl) (Or.inr ⟨_, rfl, rfl⟩) rfl ?_
          refine hpa_iload (by rfl) rfl ?_
          refine hpa_tabOut (by rfl) (by omega) (tgt := 292) (by rfl) ?_
          refine hpj_iinc (by rfl) rfl rfl hk_4294967295 (by omega) (by omega) (fun _ => rfl) (fun z134 ez134 => ?_)
          refine hpa_iload (by rfl) rfl ?_
          refine hpa_iload (by rfl) rfl ?_
          refine hpj_clt (by rfl) rfl rfl (fun q135 => False.elim (by omega)) (fun q135 => ?_)
          refine hpa_iload (by rfl) rfl ?_
          refine hpa_iload (by rfl) rfl ?_
          refine hpj_cle (by rfl) rfl rfl (fun q136 => False.elim (by omega)) (fun q136 => ?_)
          refine hpa_iload (by rfl) rfl ?_
          refine hpa_iconst (by rfl) rfl ?_
          refine hpj_isub (by rfl) rfl hk_1 (by omega) (by omega) (fun z137 ez137 => ?_)
          refine hpa_s1 (by rfl) (Or.inr ⟨_, rfl, rfl⟩) rfl ?_
          refine hpj_iinc (by rfl) rfl rfl hk_1 (by omega) (by omega) (fun _ => rfl) (fun z138 ez138 => ?_)
          refine hpa_goto (by rfl) ?_
          exact ih21 z134 z138 (.int (v123 &&& (Int32.ofNat 7))) (.int (v124 >>> ((Int32.ofNat 3) &&& 31))) (.int v132) (.int v133) A21 L2 (i21 + 1 + m.length) [] (by show _ = (0 : Int); omega) (by omega) ((hg_seg_app m L2 _).mp sg2).2 (by omega) ok trivial FR21
      ·
        have hl2 : (b :: r).length = r.length + 1 := rfl
        refine hpa_iloadS (by rfl) rfl ?_
        refine hpj_zlt (by rfl) rfl (fun q139 => False.elim (by omega)) (fun q139 => ?_)
        refine hpa_iload (by rfl) rfl ?_
        refine hpa_aload_n (by rfl) rfl ?_
        refine hpj_getK (by rfl) (hsT4 hT) (by rfl) rfl ?_
        refine hpj_cge (by rfl) rfl rfl (fun q140 => False.elim (by omega)) (fun q140 => ?_)
        refine hpa_aload_n (by rfl) rfl ?_
        refine hpa_get (v := .ref (T + 6)) (by rfl) (hsT4 hT) (by rfl) (hvT hT (by omega)) ?_
        refine hpa_iload (by rfl) rfl ?_
        refine hpx_iald (by rfl) (hsT5 hT) (fun h0v141 h1v141 v141 ev141 => ?_)
        rw [show (x21_6).toNatClampNeg = i21 by have := hn_cn (j := x21_6) (by omega); omega, FR21x] at ev141
        have tsv141 : v141.toInt = 8 * v + ((7 : Nat) : Int) := by rw [← ev141]; exact sg1
        obtain ⟨dav141, dbv141⟩ := hg_dec tsv141 (by omega)
        refine hpa_bipush (by rfl) rfl ?_
        refine hpa_iand (by rfl) ?_
        refine hpa_s1 (by rfl) (Or.inr ⟨_, rfl, rfl⟩) rfl ?_
        refine hpa_aload_n (by rfl) rfl ?_
        refine hpa_get (v := .ref (T + 6)) (by rfl) (hsT4 hT) (by rfl) (hvT hT (by omega)) ?_
        refine hpa_iload (by rfl) rfl ?_
        refine hpx_iald (by rfl) (hsT5 hT) (fun h0v142 h1v142 v142 ev142 => ?_)
        rw [show (x21_6).toNatClampNeg = i21 by have := hn_cn (j := x21_6) (by omega); omega, FR21x] at ev142
        have tsv142 : v142.toInt = 8 * v + ((7 : Nat) : Int) := by rw [← ev142]; exact sg1
        obtain ⟨dav142, dbv142⟩ := hg_dec tsv142 (by omega)
        refine hpa_iconst (by rfl) rfl ?_
        refine hpa_ishr (by rfl) ?_
        refine hpa_s1 (by rfl) (Or.inr ⟨_, rfl, rfl⟩) rfl ?_
        refine hpa_iload (by rfl) rfl ?_
        refine hpj_zeq (by rfl) rfl (fun q143 => False.elim (by omega)) (fun q143 => ?_)
        refine hpa_iload (by rfl) rfl ?_
        refine hpa_iconst (by rfl) rfl ?_
        refine hpj_cne (by rfl) rfl hk_1 (fun q144 => ?_) (fun q144 => False.elim (by omega))
        refine hpa_iload (by rfl) rfl ?_
        refine hpa_bipush (by rfl) rfl ?_
        refine hpj_cne (by rfl) rfl hk_7 (fun q145 => False.elim (by omega)) (fun q145 => ?_)
        refine hpa_iload (by rfl) rfl ?_
        refine hpj_zle (by rfl) rfl (fun q146 => False.elim (by omega)) (fun q146 => ?_)
        refine hpa_aload_n (by rfl) rfl ?_
        refine hpa_get (v := .ref (T + 9)) (by rfl) (hsT4 hT) (by rfl) (hvT hT (by omega)) ?_
        refine hpa_iload (by rfl) rfl ?_
        refine hpa_iconst (by rfl) rfl ?_
        refine hpj_isub (by rfl) rfl hk_1 (by omega) (by omega) (fun z147 ez147 => ?_)
        refine hpx_iald (by rfl) (hsT8 hT) (fun h0v148 h1v148 v148 ev148 => ?_)
        have lpv148 : v148 = b := by rw [← ev148, show (z147).toNatClampNeg = r.length by have := hn_cn (j := z147) (by omega); omega]; exact pl21.1
        have lqv148 := congrArg Int32.toInt lpv148
        refine hpa_goto (by rfl) ?_
        exact hpa_ireturn (by rfl) rfl (hP _ _ ⟨_, rfl, lpv148.trans ok.symm, FR21⟩)
  refine hpa_aload_n (by rfl) rfl ?_
  refine hpa_iconst (by rfl) rfl ?_
  refine hpa_iload_n (by rfl) rfl ?_
  refine hpx_iast (by rfl) (by rfl) (fun A149 h0A149 h1A149 eA149 fA149 gA149 => ?_)
  rw [(show (Int32.ofNat 3).toNatClampNeg = 3 from by decide)] at fA149
  refine hpa_aload_n (by rfl) rfl ?_
  refine hpa_bipush (by rfl) rfl ?_
  refine hpa_iload (by rfl) rfl ?_
  refine hpx_iast (by rfl) (by rfl) (fun A150 h0A150 h1A150 eA150 fA150 gA150 => ?_)
  rw [(show (Int32.ofNat 6).toNatClampNeg = 6 from by decide)] at fA150
  have FR0 : A150.1 = A.1 ∧ A150.2.2 = A.2.2 ∧ (∀ i, ¬ i = 324 → ¬ i = T + 8 → A150.2.1 i = A.2.1 i) ∧ ∀ i, i < 9 → A150.2.1 324 i = hgx x a3 a4 i := ⟨eA150.trans eA149, gA150.trans gA149, fun i h1 _ => by rw [fA150, fA149]; funext j; rw [hup2 (by omega), hup2 (by omega)], fun i hi => by unfold hgx; by_cases q6 : i = 6; (rw [fA150, q6, hup1, if_neg (by omega), if_pos rfl]); rw [fA150, hup2 (by omega), fA149]; by_cases q3 : i = 3; (rw [q3, hup1, if_pos rfl]); rw [hup2 (by omega), if_neg q3, if_neg q6]; exact hx i hi⟩
  refine hpa_iconst (by rfl) rfl ?_
  refine hpa_s1 (by rfl) (Or.inr ⟨_, rfl, rfl⟩) rfl ?_
  refine hpa_aload_n (by rfl) rfl ?_
  refine hpa_get (v := .ref (T + 7)) (by rfl) (hsT4 hT) (by rfl) (hvT hT (by omega)) ?_
  refine hpa_iload_n (by rfl) rfl ?_
  refine hpx_iald (by rfl) (hsT6 hT) (fun h0v151 h1v151 v151 ev151 => ?_)
  rw [hiq, FR0.2.2.1 (T + 6) (by omega) (by omega)] at ev151
  have tvv151 : v151.toInt = (f0 : Int) := by rw [← ev151]; exact b1
  refine hpa_s1 (by rfl) (Or.inr ⟨_, rfl, rfl⟩) rfl ?_
  exact L21 _ (Int32.ofNat 0) v151 (.retAddr 0) (.retAddr 0) (.retAddr 0) (.retAddr 0) A150 (hg_law f0 (D.2.2.2 q)) f0 [] hk_0 tvv151 b3 (by omega) (hgw_ok.law hw.1 hw.2) trivial FR0
theorem hP14 {g d : Nat} {A : hs_A} {V : Nat → Int} {T : Nat} {ns : List Nat} {D : hg_D} {zz q : Nat} {x : Nat → Int32} (hT : hTT T) (a1 a3 a4 : Int32) (hM : hcM V T A ns D [] zz) (hq : q < 4) (h1 : a1.toInt = (q : Int)) (hx : ∀ i, i < 9 → A.2.1 324 i = x i) (hw : hgw_wl (D.2.2.2 q)) : hpC g d 14 hm_m14 [.ref (T + 5), .int a1, .ref 325, .int a3, .int a4] A (fun r A' => ∃ z : Int32, r = some (.int z) ∧ z = hgw_law (hgx x a3 a4) (D.2.2.2 q).1 (D.2.2.2 q).2 ∧ A'.1 = A.1 ∧ A'.2.2 = A.2.2 ∧ (∀ i, ¬ i = 324 → ¬ i = T + 8 → A'.2.1 i = A.2.1 i) ∧ ∀ i, i < 9 → A'.2.1 324 i = hgx x a3 a4 i) := hpC.all (fun f d => hW14 hT a1 a3 a4 hM hq h1 hx hw (fun r A' h => h))
theorem hofi2 {y : Int32} {v : Int} (h : y.toInt = v) : (Int32.ofInt v).toInt = v := by
  subst h
  rw [Int32.ofInt_toInt]
theorem hW163 {g d f : Nat} {A : hs_A} {u0 : Nat} {c : hg_C} {x : Nat → Int32} (a1 a2 : Int32) (h1 : a1.toInt = (u0 : Int)) (h2 : a2.toInt = ((u0 + c.length : Nat) : Int)) (sg : hm_seg (A.2.1 390) (A.2.1 391) u0 c) (hx : ∀ i, i < 9 → A.2.1 393 i = x i) (hw : hgw_wf 14 c 0 1) {P : Option Value → hs_A → Prop} (hP : ∀ (r : Option Value) (A' : hs_A), (∃ z : Int32, r = some (.int z) ∧ ((∃ s : List Int32, hgw_ev x c [] = some (z :: s) ∧ A'.1 367 44 = A.1 367 44) ∨ (hgw_ev x c [] = none ∧ A'.1 367 44 = Int32.ofNat 1)) ∧ A'.2.2 = A.2.2 ∧ (∀ i, ¬ i = 394 → A'.2.1 i = A.2.1 i) ∧ (∀ i k, ¬ (i = 367 ∧ k = 44) → A'.1 i k = A.1 i k)) → P r A') : hpa (f, g) d (some (.int)) hm_t163 0 [.ref 368, .int a1, .int a2, .retAddr 0, .retAddr 0, .retAddr 0, .retAddr 0, .retAddr 0] [] A P := by
  have k0 := hk_0
  have k1 := hk_1
  have k2 := hk_2
  have k3 := hk_3
  have k4 := hk_4
  have k4294967295 := hk_4294967295
  have k5 := hk_5
  have L5 : ∀ (f : Nat) (x5_3 : Int32) (x5_4 : Int32) (x5_5 : Value) (x5_6 : Value) (x5_7 : Value) (A5 : hs_A) (c5 : hg_C) (f5 : Nat) (s5 : List Int32) (l3 : x5_3.toInt = (s5.length : Int)) (l4 : x5_4.toInt = (f5 : Int)) (sg5 : hm_seg (A.2.1 390) (A.2.1 391) f5 c5) (en : f5 + c5.length = u0 + c.length) (wf5 : hgw_wf 14 c5 s5.length 1) (ev5 : hgw_ev x c [] = hgw_ev x c5 s5) (pl5 : hgw_pl (A5.2.1 394) s5) (FR5 : A5.2.2 = A.2.2 ∧ (∀ i, ¬ i = 394 → A5.2.1 i = A.2.1 i) ∧ A5.1 = A.1), hpa (f, g) d (some (.int)) hm_t163 5 [.ref 368, .int a1, .int a2, .int x5_3, .int x5_4, x5_5, x5_6, x5_7] [] A5 P := by
    intro f
    induction f with
    | zero => intros; exact hpa.zero
    | succ f ih5 =>
      intro x5_3 x5_4 x5_5 x5_6 x5_7 A5 c5 f5 s5 l3 l4 sg5 en wf5 ev5 pl5 FR5
      cases c5 with
      | nil =>
        have hnl : ([] : hg_C).length = 0 := rfl
        refine hpa_iloadS (by rfl) rfl ?_
        refine hpa_iload_n (by rfl) rfl ?_
        refine hpj_cge (by rfl) rfl rfl (fun q1 => ?_) (fun q1 => False.elim (by omega))
        have hs1 : s5.length = 1 := wf5
        obtain ⟨u5, t5, es5⟩ : ∃ u t, s5 = u :: t := by cases s5 with | nil => exact absurd hs1 (by decide) | cons u t => exact ⟨u, t, rfl⟩
        have ht5 : t5 = [] := by rw [es5] at hs1; have h2 : t5.length + 1 = 1 := hs1; exact List.length_eq_zero_iff.mp (by omega)
        have pl0 : A5.2.1 394 0 = u5 := by rw [es5, ht5] at pl5; exact pl5.1
        refine hpa_aload_n (by rfl) rfl ?_
        refine hpa_get (v := .ref 395) (by rfl) (by rfl) (by rfl) rfl ?_
        refine hpa_iconst (by rfl) rfl ?_
        refine hpx_iald (by rfl) (by rfl) (fun h0v2 h1v2 v2 ev2 => ?_)
        exact hpa_ireturn (by rfl) rfl (hP _ _ ⟨_, rfl, Or.inl ⟨_, by rw [ev5]; show some s5 = some (v2 :: t5); rw [es5, ← ev2, show (Int32.ofNat 0).toNatClampNeg = 0 from by decide, pl0], by rw [FR5.2.2]⟩, FR5.1, FR5.2.1, fun i k _ => by rw [FR5.2.2]⟩)
      | cons p c' =>
        have xlt := Int32.toInt_lt x5_3
        obtain ⟨k, v⟩ := p
        have hcl : ((k, v) :: c').length = c'.length + 1 := rfl
        have sgk := sg5.1
        have sgv := sg5.2.1
        have hst := hgw_step (x := x) wf5
        have fr1 := FR5.2.1 390 (by omega)
        have fr2 := FR5.2.1 391 (by omega)
        have fr3 := FR5.2.1 393 (by omega)
        rcases hst with ⟨hk, hs, wf6, e6⟩ | ⟨hk, hv, hs, wf6, e6⟩ | ⟨hk, b, a, r, rfl, ok⟩
        ·
          have hk0 : k = 0 := hk
          subst hk0
          refine hpa_iloadS (by rfl) rfl ?_
          refine hpa_iload_n (by rfl) rfl ?_
          refine hpj_cge (by rfl) rfl rfl (fun q3 => False.elim (by omega)) (fun q3 => ?_)
          refine hpa_aload_n (by rfl) rfl ?_
          refine hpa_get (v := .ref 391) (by rfl) (by rfl) (by rfl) rfl ?_
          refine hpa_iload (by rfl) rfl ?_
          refine hpx_iald (by rfl) (by rfl) (fun h0v4 h1v4 v4 ev4 => ?_)
          rw [show (x5_4).toNatClampNeg = f5 by have := hn_cn (j := x5_4) (by omega); omega, fr1] at ev4
          have tkv4 : v4.toInt = ((0 : Nat) : Int) := by rw [← ev4]; exact sgk
          refine hpa_s1 (by rfl) (Or.inr ⟨_, rfl, rfl⟩) rfl ?_
          refine hpa_iload (by rfl) rfl ?_
          refine hpa_iconst (by rfl) rfl ?_
          refine hpj_cge (by rfl) rfl hk_2 (fun q5 => False.elim (by omega)) (fun q5 => ?_)
          refine hpa_aload_n (by rfl) rfl ?_
          refine hpa_get (v := .ref 395) (by rfl) (by rfl) (by rfl) rfl ?_
          refine hpa_iload_n (by rfl) rfl ?_
          refine hpa_iload (by rfl) rfl ?_
          refine hpj_zne (by rfl) rfl (fun q6 => False.elim (by omega)) (fun q6 => ?_)
          refine hpa_aload_n (by rfl) rfl ?_
          refine hpa_get (v := .ref 392) (by rfl) (by rfl) (by rfl) rfl ?_
          refine hpa_iload (by rfl) rfl ?_
          refine hpx_iald (by rfl) (by rfl) (fun h0v7 h1v7 v7 ev7 => ?_)
          rw [show (x5_4).toNatClampNeg = f5 by have := hn_cn (j := x5_4) (by omega); omega, fr2] at ev7
          have tvv7 : v7.toInt = v := by rw [← ev7]; exact sgv
          refine hpa_goto (by rfl) ?_
          refine hpx_iast (by rfl) (by rfl) (fun A8 h0A8 h1A8 eA8 fA8 gA8 => ?_)
          rw [show (x5_3).toNatClampNeg = (s5).length by have := hn_cn (j := x5_3) (by omega); omega] at fA8
          have plA8 : hgw_pl (A8.2.1 394) (Int32.ofInt v :: s5) := ⟨by rw [fA8, hup1]; exact Int32.toInt_inj.mp (tvv7.trans (hofi2 tvv7).symm), pl5.mv (fun j hj => by rw [fA8, hup2 (by omega)])⟩
          have FRA8 : A8.2.2 = A.2.2 ∧ (∀ i, ¬ i = 394 → A8.2.1 i = A.2.1 i) ∧ A8.1 = A.1 := ⟨gA8.trans FR5.1, fun i h1 => by rw [← FR5.2.1 i h1, fA8]; funext j; exact hup2 (by omega), eA8.trans FR5.2.2⟩
          refine hpj_iinc (by rfl) rfl rfl hk_1 (by omega) (by omega) (fun _ => rfl) (fun z9 ez9 => ?_)
          refine hpa_goto (by rfl) ?_
          refine hpj_iinc (by rfl) rfl rfl hk_1 (by omega) (by omega) (fun _ => rfl) (fun z10 ez10 => ?_)
          refine hpa_goto (by rfl) ?_
          exact ih5 z9 z10 (.int v4) (x5_6) (x5_7) A8 c' (f5 + 1) (Int32.ofInt v :: s5) (by show _ = ((s5.length + 1 : Nat) : Int); omega) (by omega) sg5.2.2 (by omega) wf6 (ev5.trans e6) plA8 FRA8
        ·
          have hk1 : k = 1 := hk
          subst hk1
          have hv8 : 0 ≤ v ∧ v ≤ 8 := hv
          refine hpa_iloadS (by rfl) rfl ?_
          refine hpa_iload_n (by rfl) rfl ?_
          refine hpj_cge (by rfl) rfl rfl (fun q11 => False.elim (by omega)) (fun q11 => ?_)
          refine hpa_aload_n (by rfl) rfl ?_
          refine hpa_get (v := .ref 391) (by rfl) (by rfl) (by rfl) rfl ?_
          refine hpa_iload (by rfl) rfl ?_
          refine hpx_iald (by rfl) (by rfl) (fun h0v12 h1v12 v12 ev12 => ?_)
          rw [show (x5_4).toNatClampNeg = f5 by have := hn_cn (j := x5_4) (by omega); omega, fr1] at ev12
          have tkv12 : v12.toInt = ((1 : Nat) : Int) := by rw [← ev12]; exact sgk
          refine hpa_s1 (by rfl) (Or.inr ⟨_, rfl, rfl⟩) rfl ?_
          refine hpa_iload (by rfl) rfl ?_
          refine hpa_iconst (by rfl) rfl ?_
          refine hpj_cge (by rfl) rfl hk_2 (fun q13 => False.elim (by omega)) (fun q13 => ?_)
          refine hpa_aload_n (by rfl) rfl ?_
          refine hpa_get (v := .ref 395) (by rfl) (by rfl) (by rfl) rfl ?_
          refine hpa_iload_n (by rfl) rfl ?_
          refine hpa_iload (by rfl) rfl ?_
          refine hpj_zne (by rfl) rfl (fun q14 => ?_) (fun q14 => False.elim (by omega))
          refine hpa_aload_n (by rfl) rfl ?_
          refine hpa_get (v := .ref 394) (by rfl) (by rfl) (by rfl) rfl ?_
          refine hpa_aload_n (by rfl) rfl ?_
          refine hpa_get (v := .ref 392) (by rfl) (by rfl) (by rfl) rfl ?_
          refine hpa_iload (by rfl) rfl ?_
          refine hpx_iald (by rfl) (by rfl) (fun h0v15 h1v15 v15 ev15 => ?_)
          rw [show (x5_4).toNatClampNeg = f5 by have := hn_cn (j := x5_4) (by omega); omega, fr2] at ev15
          have tvv15 : v15.toInt = v := by rw [← ev15]; exact sgv
          refine hpx_iald (by rfl) (by rfl) (fun h0v16 h1v16 v16 ev16 => ?_)
          have lxv16 : v16 = x v.toNat := by rw [← ev16, show (v15).toNatClampNeg = v.toNat by have := hn_cn (j := v15) (by omega); omega, fr3]; exact hx v.toNat (by omega)
          refine hpx_iast (by rfl) (by rfl) (fun A17 h0A17 h1A17 eA17 fA17 gA17 => ?_)
          rw [show (x5_3).toNatClampNeg = (s5).length by have := hn_cn (j := x5_3) (by omega); omega] at fA17
          have plA17 : hgw_pl (A17.2.1 394) (x v.toNat :: s5) := ⟨by rw [fA17, hup1]; exact lxv16, pl5.mv (fun j hj => by rw [fA17, hup2 (by omega)])⟩
          have FRA17 : A17.2.2 = A.2.2 ∧ (∀ i, ¬ i = 394 → A17.2.1 i = A.2.1 i) ∧ A17.1 = A.1 := ⟨gA17.trans FR5.1, fun i h1 => by rw [← FR5.2.1 i h1, fA17]; funext j; exact hup2 (by omega), eA17.trans FR5.2.2⟩
          refine hpj_iinc (by rfl) rfl rfl hk_1 (by omega) (by omega) (fun _ => rfl) (fun z18 ez18 => ?_)
          refine hpa_goto (by rfl) ?_
          refine hpj_iinc (by rfl) rfl rfl hk_1 (by omega) (by omega) (fun _ => rfl) (fun z19 ez19 => ?_)
          refine hpa_goto (by rfl) ?_
          exact ih5 z18 z19 (.int v12) (x5_6) (x5_7) A17 c' (f5 + 1) (x v.toNat :: s5) (by show _ = ((s5.length + 1 : Nat) : Int); omega) (by omega) sg5.2.2 (by omega) wf6 (ev5.trans e6) plA17 FRA17
        ·
          have hl2 : (b :: a :: r).length = r.length + 2 := rfl
          have hk4 : k = 2 ∨ k = 3 ∨ k = 4 ∨ k = 5 := by have hk2 : 2 ≤ k ∧ k ≤ 5 := hk; omega
          rcases hk4 with rfl | rfl | rfl | rfl
          ·
            rcases ok with ⟨o1, -, -⟩ | ⟨-, wf6, e6⟩
            · exact absurd (show (2 : Nat) = 5 from o1) (by decide)
            refine hpa_iloadS (by rfl) rfl ?_
            refine hpa_iload_n (by rfl) rfl ?_
            refine hpj_cge (by rfl) rfl rfl (fun q20 => False.elim (by omega)) (fun q20 => ?_)
            refine hpa_aload_n (by rfl) rfl ?_
            refine hpa_get (v := .ref 391) (by rfl) (by rfl) (by rfl) rfl ?_
            refine hpa_iload (by rfl) rfl ?_
            refine hpx_iald (by rfl) (by rfl) (fun h0v21 h1v21 v21 ev21 => ?_)
            rw [show (x5_4).toNatClampNeg = f5 by have := hn_cn (j := x5_4) (by omega); omega, fr1] at ev21
            have tkv21 : v21.toInt = ((2 : Nat) : Int) := by rw [← ev21]; exact sgk
            refine hpa_s1 (by rfl) (Or.inr ⟨_, rfl, rfl⟩) rfl ?_
            refine hpa_iload (by rfl) rfl ?_
            refine hpa_iconst (by rfl) rfl ?_
            refine hpj_cge (by rfl) rfl hk_2 (fun q22 => ?_) (fun q22 => False.elim (by omega))
            refine hpj_iinc (by rfl) rfl rfl hk_4294967295 (by omega) (by omega) (fun _ => rfl) (fun z23 ez23 => ?_)
            refine hpa_aload_n (by rfl) rfl ?_
            refine hpa_get (v := .ref 395) (by rfl) (by rfl) (by rfl) rfl ?_
            refine hpa_iload_n (by rfl) rfl ?_
            refine hpa_iconst (by rfl) rfl ?_
            refine hpj_isub (by rfl) rfl hk_1 (by omega) (by omega) (fun z24 ez24 => ?_)
            refine hpx_iald (by rfl) (by rfl) (fun h0v25 h1v25 v25 ev25 => ?_)
            have lpv25 : v25 = a := by rw [← ev25, show (z24).toNatClampNeg = r.length by have := hn_cn (j := z24) (by omega); omega]; exact pl5.2.1
            have lqv25 := congrArg Int32.toInt lpv25
            refine hpa_s1 (by rfl) (Or.inr ⟨_, rfl, rfl⟩) rfl ?_
            refine hpa_aload_n (by rfl) rfl ?_
            refine hpa_get (v := .ref 395) (by rfl) (by rfl) (by rfl) rfl ?_
            refine hpa_iload_n (by rfl) rfl ?_
            refine hpx_iald (by rfl) (by rfl) (fun h0v26 h1v26 v26 ev26 => ?_)
            have lpv26 : v26 = b := by rw [← ev26, show (z23).toNatClampNeg = r.length + 1 by have := hn_cn (j := z23) (by omega); omega]; exact pl5.1
            have lqv26 := congrArg Int32.toInt lpv26
            refine hpa_s1 (by rfl) (Or.inr ⟨_, rfl, rfl⟩) rfl ?_
            refine hpa_iload (by rfl) rfl ?_
            refine hpa_iconst (by rfl) rfl ?_
            refine hpj_cne (by rfl) rfl hk_5 (fun q27 => ?_) (fun q27 => False.elim (by omega))
            refine hpa_aload_n (by rfl) rfl ?_
            refine hpa_get (v := .ref 395) (by rfl) (by rfl) (by rfl) rfl ?_
            refine hpa_iload_n (by rfl) rfl ?_
            refine hpa_iconst (by rfl) rfl ?_
            refine hpj_isub (by rfl) rfl hk_1 (by omega) (by omega) (fun z28 ez28 => ?_)
            refine hpa_iload (by rfl) rfl ?_
            refine hpa_iconst (by rfl) rfl ?_
            refine hpj_cne (by rfl) rfl hk_2 (fun q29 => False.elim (by omega)) (fun q29 => ?_)
            refine hpa_iload (by rfl) rfl ?_
            refine hpa_iload (by rfl) rfl ?_
            refine hpa_iadd (by rfl) ?_
            refine hpa_goto (by rfl) ?_
            refine hpx_iast (by rfl) (by rfl) (fun A30 h0A30 h1A30 eA30 fA30 gA30 => ?_)
            rw [show (z28).toNatClampNeg = (r).length by have := hn_cn (j := z28) (by omega); omega] at fA30
            have plA30 : hgw_pl (A30.2.1 394) (hgv_ap 2 a b :: r) := ⟨by rw [fA30, hup1]; exact (by rw [lpv25, lpv26]; rfl), pl5.2.2.mv (fun j hj => by rw [fA30, hup2 (by omega)])⟩
            have FRA30 : A30.2.2 = A.2.2 ∧ (∀ i, ¬ i = 394 → A30.2.1 i = A.2.1 i) ∧ A30.1 = A.1 := ⟨gA30.trans FR5.1, fun i h1 => by rw [← FR5.2.1 i h1, fA30]; funext j; exact hup2 (by omega), eA30.trans FR5.2.2⟩
            refine hpj_iinc (by rfl) rfl rfl hk_1 (by omega) (by omega) (fun _ => rfl) (fun z31 ez31 => ?_)
            refine hpa_goto (by rfl) ?_
            exact ih5 z23 z31 (.int v21) (.int v25) (.int v26) A30 c' (f5 + 1) (hgv_ap 2 a b :: r) (by show _ = ((r.length + 1 : Nat) : Int); omega) (by omega) sg5.2.2 (by omega) wf6 (ev5.trans e6) plA30 FRA30
          ·
            rcases ok with ⟨o1, -, -⟩ | ⟨-, wf6, e6⟩
            · exact absurd (show (3 : Nat) = 5 from o1) (by decide)
            refine hpa_iloadS (by rfl) rfl ?_
            refine hpa_iload_n (by rfl) rfl ?_
            refine hpj_cge (by rfl) rfl rfl (fun q32 => False.elim (by omega)) (fun q32 => ?_)
            refine hpa_aload_n (by rfl) rfl ?_
            refine hpa_get (v := .ref 391) (by rfl) (by rfl) (by rfl) rfl ?_
            refine hpa_iload (by rfl) rfl ?_
            refine hpx_iald (by rfl) (by rfl) (fun h0v33 h1v33 v33 ev33 => ?_)
            rw [show (x5_4).toNatClampNeg = f5 by have := hn_cn (j := x5_4) (by omega); omega, fr1] at ev33
            have tkv33 : v33.toInt = ((3 : Nat) : Int) := by rw [← ev33]; exact sgk
            refine hpa_s1 (by rfl) (Or.inr ⟨_, rfl, rfl⟩) rfl ?_
            refine hpa_iload (by rfl) rfl ?_
            refine hpa_iconst (by rfl) rfl ?_
            refine hpj_cge (by rfl) rfl hk_2 (fun q34 => ?_) (fun q34 => False.elim (by omega))
            refine hpj_iinc (by rfl) rfl rfl hk_4294967295 (by omega) (by omega) (fun _ => rfl) (fun z35 ez35 => ?_)
            refine hpa_aload_n (by rfl) rfl ?_
            refine hpa_get (v := .ref 395) (by rfl) (by rfl) (by rfl) rfl ?_
            refine hpa_iload_n (by rfl) rfl ?_
            refine hpa_iconst (by rfl) rfl ?_
            refine hpj_isub (by rfl) rfl hk_1 (by omega) (by omega) (fun z36 ez36 => ?_)
            refine hpx_iald (by rfl) (by rfl) (fun h0v37 h1v37 v37 ev37 => ?_)
            have lpv37 : v37 = a := by rw [← ev37, show (z36).toNatClampNeg = r.length by have := hn_cn (j := z36) (by omega); omega]; exact pl5.2.1
            have lqv37 := congrArg Int32.toInt lpv37
            refine hpa_s1 (by rfl) (Or.inr ⟨_, rfl, rfl⟩) rfl ?_
            refine hpa_aload_n (by rfl) rfl ?_
            refine hpa_get (v := .ref 395) (by rfl) (by rfl) (by rfl) rfl ?_
            refine hpa_iload_n (by rfl) rfl ?_
            refine hpx_iald (by rfl) (by rfl) (fun h0v38 h1v38 v38 ev38 => ?_)
            have lpv38 : v38 = b := by rw [← ev38, show (z35).toNatClampNeg = r.length + 1 by have := hn_cn (j := z35) (by omega); omega]; exact pl5.1
            have lqv38 := congrArg Int32.toInt lpv38
            refine hpa_s1 (by rfl) (Or.inr ⟨_, rfl, rfl⟩) rfl ?_
            refine hpa_iload (by rfl) rfl ?_
            refine hpa_iconst (by rfl) rfl ?_
            refine hpj_cne (by rfl) rfl hk_5 (fun q39 => ?_) (fun q39 => False.elim (by omega))
            refine hpa_aload_n (by rfl) rfl ?_
            refine hpa_get (v := .ref 395) (by rfl) (by rfl) (by rfl) rfl ?_
            refine hpa_iload_n (by rfl) rfl ?_
            refine hpa_iconst (by rfl) rfl ?_
            refine hpj_isub (by rfl) rfl hk_1 (by omega) (by omega) (fun z40 ez40 => ?_)
            refine hpa_iload (by rfl) rfl ?_
            refine hpa_iconst (by rfl) rfl ?_
            refine hpj_cne (by rfl) rfl hk_2 (fun q41 => ?_) (fun q41 => False.elim (by omega))
            refine hpa_iload (by rfl) rfl ?_
            refine hpa_iconst (by rfl) rfl ?_
            refine hpj_cne (by rfl) rfl hk_3 (fun q42 => False.elim (by omega)) (fun q42 => ?_)
            refine hpa_iload (by rfl) rfl ?_
            refine hpa_iload (by rfl) rfl ?_
            refine hpa_isub (by rfl) ?_
            refine hpa_goto (by rfl) ?_
            refine hpx_iast (by rfl) (by rfl) (fun A43 h0A43 h1A43 eA43 fA43 gA43 => ?_)
            rw [show (z40).toNatClampNeg = (r).length by have := hn_cn (j := z40) (by omega); omega] at fA43
            have plA43 : hgw_pl (A43.2.1 394) (hgv_ap 3 a b :: r) := ⟨by rw [fA43, hup1]; exact (by rw [lpv37, lpv38]; rfl), pl5.2.2.mv (fun j hj => by rw [fA43, hup2 (by omega)])⟩
            have FRA43 : A43.2.2 = A.2.2 ∧ (∀ i, ¬ i = 394 → A43.2.1 i = A.2.1 i) ∧ A43.1 = A.1 := ⟨gA43.trans FR5.1, fun i h1 => by rw [← FR5.2.1 i h1, fA43]; funext j; exact hup2 (by omega), eA43.trans FR5.2.2⟩
            refine hpj_iinc (by rfl) rfl rfl hk_1 (by omega) (by omega) (fun _ => rfl) (fun z44 ez44 => ?_)
            refine hpa_goto (by rfl) ?_
            exact ih5 z35 z44 (.int v33) (.int v37) (.int v38) A43 c' (f5 + 1) (hgv_ap 3 a b :: r) (by show _ = ((r.length + 1 : Nat) : Int); omega) (by omega) sg5.2.2 (by omega) wf6 (ev5.trans e6) plA43 FRA43
          ·
            rcases ok with ⟨o1, -, -⟩ | ⟨-, wf6, e6⟩
            · exact absurd (show (4 : Nat) = 5 from o1) (by decide)
            refine hpa_iloadS (by rfl) rfl ?_
            refine hpa_iload_n (by rfl) rfl ?_
            refine hpj_cge (by rfl) rfl rfl (fun q45 => False.elim (by omega)) (fun q45 => ?_)
            refine hpa_aload_n (by rfl) rfl ?_
            refine hpa_get (v := .ref 391) (by rfl) (by rfl) (by rfl) rfl ?_
            refine hpa_iload (by rfl) rfl ?_
            refine hpx_iald (by rfl) (by rfl) (fun h0v46 h1v46 v46 ev46 => ?_)
            rw [show (x5_4).toNatClampNeg = f5 by have := hn_cn (j := x5_4) (by omega); omega, fr1] at ev46
            have tkv46 : v46.toInt = ((4 : Nat) : Int) := by rw [← ev46]; exact sgk
            refine hpa_s1 (by rfl) (Or.inr ⟨_, rfl, rfl⟩) rfl ?_
            refine hpa_iload (by rfl) rfl ?_
            refine hpa_iconst (by rfl) rfl ?_
            refine hpj_cge (by rfl) rfl hk_2 (fun q47 => ?_) (fun q47 => False.elim (by omega))
            refine hpj_iinc (by rfl) rfl rfl hk_4294967295 (by omega) (by omega) (fun _ => rfl) (fun z48 ez48 => ?_)
            refine hpa_aload_n (by rfl) rfl ?_
            refine hpa_get (v := .ref 395) (by rfl) (by rfl) (by rfl) rfl ?_
            refine hpa_iload_n (by rfl) rfl ?_
            refine hpa_iconst (by rfl) rfl ?_
            refine hpj_isub (by rfl) rfl hk_1 (by omega) (by omega) (fun z49 ez49 => ?_)
            refine hpx_iald (by rfl) (by rfl) (fun h0v50 h1v50 v50 ev50 => ?_)
            have lpv50 : v50 = a := by rw [← ev50, show (z49).toNatClampNeg = r.length by have := hn_cn (j := z49) (by omega); omega]; exact pl5.2.1
            have lqv50 := congrArg Int32.toInt lpv50
            refine hpa_s1 (by rfl) (Or.inr ⟨_, rfl, rfl⟩) rfl ?_
            refine hpa_aload_n (by rfl) rfl ?_
            refine hpa_get (v := .ref 395) (by rfl) (by rfl) (by rfl) rfl ?_
            refine hpa_iload_n (by rfl) rfl ?_
            refine hpx_iald (by rfl) (by rfl) (fun h0v51 h1v51 v51 ev51 => ?_)
            have lpv51 : v51 = b := by rw [← ev51, show (z48).toNatClampNeg = r.length + 1 by have := hn_cn (j := z48) (by omega); omega]; exact pl5.1
            have lqv51 := congrArg Int32.toInt lpv51
            refine hpa_s1 (by rfl) (Or.inr ⟨_, rfl, rfl⟩) rfl ?_
            refine hpa_iload (by rfl) rfl ?_
            refine hpa_iconst (by rfl) rfl ?_
            refine hpj_cne (by rfl) rfl hk_5 (fun q52 => ?_) (fun q52 => False.elim (by omega))
            refine hpa_aload_n (by rfl) rfl ?_
            refine hpa_get (v := .ref 395) (by rfl) (by rfl) (by rfl) rfl ?_
            refine hpa_iload_n (by rfl) rfl ?_
            refine hpa_iconst (by rfl) rfl ?_
            refine hpj_isub (by rfl) rfl hk_1 (by omega) (by omega) (fun z53 ez53 => ?_)
            refine hpa_iload (by rfl) rfl ?_
            refine hpa_iconst (by rfl) rfl ?_
            refine hpj_cne (by rfl) rfl hk_2 (fun q54 => ?_) (fun q54 => False.elim (by omega))
            refine hpa_iload (by rfl) rfl ?_
            refine hpa_iconst (by rfl) rfl ?_
            refine hpj_cne (by rfl) rfl hk_3 (fun q55 => ?_) (fun q55 => False.elim (by omega))
            refine hpa_iload (by rfl) rfl ?_
            refine hpa_iconst (by rfl) rfl ?_
            refine hpj_cne (by rfl) rfl hk_4 (fun q56 => False.elim (by omega)) (fun q56 => ?_)
            refine hpa_iload (by rfl) rfl ?_
            refine hpa_iload (by rfl) rfl ?_
            refine hpa_imul (by rfl) ?_
            refine hpa_goto (by rfl) ?_
            refine hpx_iast (by rfl) (by rfl) (fun A57 h0A57 h1A57 eA57 fA57 gA57 => ?_)
            rw [show (z53).toNatClampNeg = (r).length by have := hn_cn (j := z53) (by omega); omega] at fA57
            have plA57 : hgw_pl (A57.2.1 394) (hgv_ap 4 a b :: r) := ⟨by rw [fA57, hup1]; exact (by rw [lpv50, lpv51]; rfl), pl5.2.2.mv (fun j hj => by rw [fA57, hup2 (by omega)])⟩
            have FRA57 : A57.2.2 = A.2.2 ∧ (∀ i, ¬ i = 394 → A57.2.1 i = A.2.1 i) ∧ A57.1 = A.1 := ⟨gA57.trans FR5.1, fun i h1 => by rw [← FR5.2.1 i h1, fA57]; funext j; exact hup2 (by omega), eA57.trans FR5.2.2⟩
            refine hpj_iinc (by rfl) rfl rfl hk_1 (by omega) (by omega) (fun _ => rfl) (fun z58 ez58 => ?_)
            refine hpa_goto (by rfl) ?_
            exact ih5 z48 z58 (.int v46) (.int v50) (.int v51) A57 c' (f5 + 1) (hgv_ap 4 a b :: r) (by show _ = ((r.length + 1 : Nat) : Int); omega) (by omega) sg5.2.2 (by omega) wf6 (ev5.trans e6) plA57 FRA57
          ·
            rcases ok with ⟨-, o2, o3⟩ | ⟨o1, wf6, e6⟩
            ·
              have hb0z : b.toInt = 0 := by rw [o2]; rfl
              refine hpa_iloadS (by rfl) rfl ?_
              refine hpa_iload_n (by rfl) rfl ?_
              refine hpj_cge (by rfl) rfl rfl (fun q59 => False.elim (by omega)) (fun q59 => ?_)
              refine hpa_aload_n (by rfl) rfl ?_
              refine hpa_get (v := .ref 391) (by rfl) (by rfl) (by rfl) rfl ?_
              refine hpa_iload (by rfl) rfl ?_
              refine hpx_iald (by rfl) (by rfl) (fun h0v60 h1v60 v60 ev60 => ?_)
              rw [show (x5_4).toNatClampNeg = f5 by have := hn_cn (j := x5_4) (by omega); omega, fr1] at ev60
              have tkv60 : v60.toInt = ((5 : Nat) : Int) := by rw [← ev60]; exact sgk
              refine hpa_s1 (by rfl) (Or.inr ⟨_, rfl, rfl⟩) rfl ?_
              refine hpa_iload (by rfl) rfl ?_
              refine hpa_iconst (by rfl) rfl ?_
              refine hpj_cge (by rfl) rfl hk_2 (fun q61 => ?_) (fun q61 => False.elim (by omega))
              refine hpj_iinc (by rfl) rfl rfl hk_4294967295 (by omega) (by omega) (fun _ => rfl) (fun z62 ez62 => ?_)
              refine hpa_aload_n (by rfl) rfl ?_
              refine hpa_get (v := .ref 395) (by rfl) (by rfl) (by rfl) rfl ?_
              refine hpa_iload_n (by rfl) rfl ?_
              refine hpa_iconst (by rfl) rfl ?_
              refine hpj_isub (by rfl) rfl hk_1 (by omega) (by omega) (fun z63 ez63 => ?_)
              refine hpx_iald (by rfl) (by rfl) (fun h0v64 h1v64 v64 ev64 => ?_)
              have lpv64 : v64 = a := by rw [← ev64, show (z63).toNatClampNeg = r.length by have := hn_cn (j := z63) (by omega); omega]; exact pl5.2.1
              have lqv64 := congrArg Int32.toInt lpv64
              refine hpa_s1 (by rfl) (Or.inr ⟨_, rfl, rfl⟩) rfl ?_
              refine hpa_aload_n (by rfl) rfl ?_
              refine hpa_get (v := .ref 395) (by rfl) (by rfl) (by rfl) rfl ?_
              refine hpa_iload_n (by rfl) rfl ?_
              refine hpx_iald (by rfl) (by rfl) (fun h0v65 h1v65 v65 ev65 => ?_)
              have lpv65 : v65 = b := by rw [← ev65, show (z62).toNatClampNeg = r.length + 1 by have := hn_cn (j := z62) (by omega); omega]; exact pl5.1
              have lqv65 := congrArg Int32.toInt lpv65
              refine hpa_s1 (by rfl) (Or.inr ⟨_, rfl, rfl⟩) rfl ?_
              refine hpa_iload (by rfl) rfl ?_
              refine hpa_iconst (by rfl) rfl ?_
              refine hpj_cne (by rfl) rfl hk_5 (fun q66 => False.elim (by omega)) (fun q66 => ?_)
              refine hpa_iload (by rfl) rfl ?_
              refine hpj_zne (by rfl) rfl (fun q67 => False.elim (by omega)) (fun q67 => ?_)
              refine hpa_aload_n (by rfl) rfl ?_
              refine hpa_iconst (by rfl) rfl ?_
              refine hpj_putI (by rfl) (by rfl) (by rfl) (by rfl) (fun A68 eA68 fA68 => ?_)
              refine hpa_iconst (by rfl) rfl ?_
              exact hpa_ireturn (by rfl) rfl (hP _ _ ⟨_, rfl, Or.inr ⟨ev5.trans o3, by rw [eA68, hup1]⟩, by rw [fA68]; exact FR5.1, fun i hi => by rw [fA68]; exact FR5.2.1 i hi, fun i k hi => by rw [eA68, hup2 hi, FR5.2.2]⟩)
            ·
              have hb0 : ¬ b.toInt = 0 := fun w => o1 ⟨rfl, Int32.toInt_inj.mp w⟩
              refine hpa_iloadS (by rfl) rfl ?_
              refine hpa_iload_n (by rfl) rfl ?_
              refine hpj_cge (by rfl) rfl rfl (fun q69 => False.elim (by omega)) (fun q69 => ?_)
              refine hpa_aload_n (by rfl) rfl ?_
              refine hpa_get (v := .ref 391) (by rfl) (by rfl) (by rfl) rfl ?_
              refine hpa_iload (by rfl) rfl ?_
              refine hpx_iald (by rfl) (by rfl) (fun h0v70 h1v70 v70 ev70 => ?_)
              rw [show (x5_4).toNatClampNeg = f5 by have := hn_cn (j := x5_4) (by omega); omega, fr1] at ev70
              have tkv70 : v70.toInt = ((5 : Nat) : Int) := by rw [← ev70]; exact sgk
              refine hpa_s1 (by rfl) (Or.inr ⟨_, rfl, rfl⟩) rfl ?_
              refine hpa_iload (by rfl) rfl ?_
              refine hpa_iconst (by rfl) rfl ?_
              refine hpj_cge (by rfl) rfl hk_2 (fun q71 => ?_) (fun q71 => False.elim (by omega))
              refine hpj_iinc (by rfl) rfl rfl hk_4294967295 (by omega) (by omega) (fun _ => rfl) (fun z72 ez72 => ?_)
              refine hpa_aload_n (by rfl) rfl ?_
              refine hpa_get (v := .ref 395) (by rfl) (by rfl) (by rfl) rfl ?_
              refine hpa_iload_n (by rfl) rfl ?_
              refine hpa_iconst (by rfl) rfl ?_
              refine hpj_isub (by rfl) rfl hk_1 (by omega) (by omega) (fun z73 ez73 => ?_)
              refine hpx_iald (by rfl) (by rfl) (fun h0v74 h1v74 v74 ev74 => ?_)
              have lpv74 : v74 = a := by rw [← ev74, show (z73).toNatClampNeg = r.length by have := hn_cn (j := z73) (by omega); omega]; exact pl5.2.1
              have lqv74 := congrArg Int32.toInt lpv74
              refine hpa_s1 (by rfl) (Or.inr ⟨_, rfl, rfl⟩) rfl ?_
              refine hpa_aload_n (by rfl) rfl ?_
              refine hpa_get (v := .ref 395) (by rfl) (by rfl) (by rfl) rfl ?_
              refine hpa_iload_n (by rfl) rfl ?_
              refine hpx_iald (by rfl) (by rfl) (fun h0v75 h1v75 v75 ev75 => ?_)
              have lpv75 : v75 = b := by rw [← ev75, show (z72).toNatClampNeg = r.length + 1 by have := hn_cn (j := z72) (by omega); omega]; exact pl5.1
              have lqv75 := congrArg Int32.toInt lpv75
              refine hpa_s1 (by rfl) (Or.inr ⟨_, rfl, rfl⟩) rfl ?_
              refine hpa_iload (by rfl) rfl ?_
              refine hpa_iconst (by rfl) rfl ?_
              refine hpj_cne (by rfl) rfl hk_5 (fun q76 => False.elim (by omega)) (fun q76 => ?_)
              refine hpa_iload (by rfl) rfl ?_
              refine hpj_zne (by rfl) rfl (fun q77 => ?_) (fun q77 => False.elim (by omega))
              refine hpa_aload_n (by rfl) rfl ?_
              refine hpa_get (v := .ref 395) (by rfl) (by rfl) (by rfl) rfl ?_
              refine hpa_iload_n (by rfl) rfl ?_
              refine hpa_iconst (by rfl) rfl ?_
              refine hpj_isub (by rfl) rfl hk_1 (by omega) (by omega) (fun z78 ez78 => ?_)
              refine hpa_iload (by rfl) rfl ?_
              refine hpa_iconst (by rfl) rfl ?_
              refine hpj_cne (by rfl) rfl hk_2 (fun q79 => ?_) (fun q79 => False.elim (by omega))
              refine hpa_iload (by rfl) rfl ?_
              refine hpa_iconst (by rfl) rfl ?_
              refine hpj_cne (by rfl) rfl hk_3 (fun q80 => ?_) (fun q80 => False.elim (by omega))
              refine hpa_iload (by rfl) rfl ?_
              refine hpa_iconst (by rfl) rfl ?_
              refine hpj_cne (by rfl) rfl hk_4 (fun q81 => ?_) (fun q81 => False.elim (by omega))
              refine hpa_iload (by rfl) rfl ?_
              refine hpa_iload (by rfl) rfl ?_
              refine hpa_idiv (by rfl) (fun w => hb0 (by rw [← lpv75, w]; rfl)) ?_
              refine hpx_iast (by rfl) (by rfl) (fun A82 h0A82 h1A82 eA82 fA82 gA82 => ?_)
              rw [show (z78).toNatClampNeg = (r).length by have := hn_cn (j := z78) (by omega); omega] at fA82
              have plA82 : hgw_pl (A82.2.1 394) (hgv_ap 5 a b :: r) := ⟨by rw [fA82, hup1]; exact (by rw [lpv74, lpv75]; rfl), pl5.2.2.mv (fun j hj => by rw [fA82, hup2 (by omega)])⟩
              have FRA82 : A82.2.2 = A.2.2 ∧ (∀ i, ¬ i = 394 → A82.2.1 i = A.2.1 i) ∧ A82.1 = A.1 := ⟨gA82.trans FR5.1, fun i h1 => by rw [← FR5.2.1 i h1, fA82]; funext j; exact hup2 (by omega), eA82.trans FR5.2.2⟩
              refine hpj_iinc (by rfl) rfl rfl hk_1 (by omega) (by omega) (fun _ => rfl) (fun z83 ez83 => ?_)
              refine hpa_goto (by rfl) ?_
              exact ih5 z72 z83 (.int v70) (.int v74) (.int v75) A82 c' (f5 + 1) (hgv_ap 5 a b :: r) (by show _ = ((r.length + 1 : Nat) : Int); omega) (by omega) sg5.2.2 (by omega) wf6 (ev5.trans e6) plA82 FRA82
  refine hpa_iconst (by rfl) rfl ?_
  refine hpa_s1 (by rfl) (Or.inl ⟨_, rfl, rfl⟩) rfl ?_
  refine hpa_iload_n (by rfl) rfl ?_
  refine hpa_s1 (by rfl) (Or.inr ⟨_, rfl, rfl⟩) rfl ?_
  exact L5 _ (Int32.ofNat 0) a1 (.retAddr 0) (.retAddr 0) (.retAddr 0) A c u0 [] hk_0 (by omega) sg (by omega) hw rfl trivial ⟨rfl, fun _ _ => rfl, rfl⟩
theorem hP163 {g d : Nat} {A : hs_A} {u0 : Nat} {c : hg_C} {x : Nat → Int32} (a1 a2 : Int32) (h1 : a1.toInt = (u0 : Int)) (h2 : a2.toInt = ((u0 + c.length : Nat) : Int)) (sg : hm_seg (A.2.1 390) (A.2.1 391) u0 c) (hx : ∀ i, i < 9 → A.2.1 393 i = x i) (hw : hgw_wf 14 c 0 1) : hpC g d 163 hm_m163 [.ref 368, .int a1, .int a2] A (fun r A' => ∃ z : Int32, r = some (.int z) ∧ ((∃ s : List Int32, hgw_ev x c [] = some (z :: s) ∧ A'.1 367 44 = A.1 367 44) ∨ (hgw_ev x c [] = none ∧ A'.1 367 44 = Int32.ofNat 1)) ∧ A'.2.2 = A.2.2 ∧ (∀ i, ¬ i = 394 → A'.2.1 i = A.2.1 i) ∧ (∀ i k, ¬ (i = 367 ∧ k = 44) → A'.1 i k = A.1 i k)) := hpC.all (fun f d => hW163 a1 a2 h1 h2 sg hx hw (fun r A' h => h))
section HPZ
variable {fg : Nat × Nat} {d : Nat} {ret : Option FieldType} {tb : hc_K} {pc len r1 r2 : Nat} {l st : List Value} {A : hs_A} {P : Option Value → hs_A → Prop}
theorem hpx_zald {i m : Nat} {j : Int32} (hI : hc_get tb pc = some (.baload, len, r1, r2)) (hs : hc_get hs_sh i = some (0, 3, [m])) (k : 0 ≤ j.toInt → j.toInt < (m : Int) → ∀ v : Int32, A.2.1 i j.toNatClampNeg = v → hpa fg d ret tb (pc + 1) l (.int v :: st) A P) : hpa fg d ret tb pc l (.int j :: .ref (i + 1) :: st) A P := by
  by_cases q : 0 ≤ j.toInt ∧ j.toInt < (m : Int)
  · exact hpj_zald hI hs rfl q.1 q.2 (k q.1 q.2)
  · intro h hR
    refine hy_none ?_
    unfold hc_step1
    simp only [hI]
    show hi_baload pc l (.int j :: .ref (i + 1) :: st) hs_n h 0 0 = _
    unfold hi_baload
    have hg : hc_get h i = some (.inl (3, hs_ar A i m)) := (hR i _ hs).trans (congrArg some (hs_cell0 A i 3 m))
    have h0 : hc_ald 0 pc l (.int j :: .ref (i + 1) :: st) hs_n h 0 0 = none := by
      unfold hc_ald
      dsimp only
      rw [hg, hc_arr_ne rfl]
    rw [h0]
    exact hp_aldN hg (hp_elN (hs_ar_len A i m) q)
end HPZ
theorem hW176 {g d f : Nat} {A : hs_A} {V : Nat → Int} {sd q bb zz : Nat} {ns : List Nat} {D : hg_D} {x : Nat → Int32} (a1 a2 : Int32) (hM : hmM V A sd ns D bb zz) (hsd : (A.1 367 18).toInt = (sd : Int)) (hs1 : sd ≤ 1) (hq : q < 4) (h1 : a1.toInt = (q : Int)) (h2 : a2 = Int32.ofInt (if q = 0 then 1 else 0)) (hx : ∀ i, i < 9 → A.2.1 393 i = x i) (hw : hgw_wl (D.2.2.2 q)) {P : Option Value → hs_A → Prop} (hP : ∀ (r : Option Value) (A' : hs_A), (∃ z : Int32, r = some (.int z) ∧ z = hgw_law x (D.2.2.2 q).1 (D.2.2.2 q).2 ∧ A'.2.2 = A.2.2 ∧ (∀ i, ¬ i = 394 → A'.2.1 i = A.2.1 i) ∧ (∀ i k, ¬ (i = 367 ∧ k = 44) → A'.1 i k = A.1 i k)) → P r A') : hpa (f, g) d (some (.int)) hm_t176 0 [.ref 368, .int a1, .int a2, .retAddr 0, .retAddr 0, .retAddr 0, .retAddr 0] [] A P := by
  have k0 := hk_0
  have k1 := hk_1
  have k4 := hk_4
  obtain ⟨b0, b1, mq1, mq2, mq3⟩ := hM.1 q hq
  have L39 : ∀ (f : Nat) (x39_3 : Int32) (x39_4 : Int32) (x39_5 : Value) (x39_6 : Value) (A39 : hs_A) (br39 : hg_B) (bi : Nat) (l3c : x39_3.toInt = 4 * (sd : Int) + (q : Int)) (l4 : x39_4.toInt = (bi : Int)) (lb : bi + br39.length = b0 + (D.2.2.2 q).1.length) (mq4 : b1 = b0 + (D.2.2.2 q).1.length + 1) (mq7 : hmT1 A zz (b0 + (D.2.2.2 q).1.length) (D.2.2.2 q).2) (wb : hgw_wb br39) (qb : hmBr A zz bi br39) (hlw : (hgw_law x (D.2.2.2 q).1 (D.2.2.2 q).2) = hgw_law x br39 (D.2.2.2 q).2) (b39 : A39.1 367 44 = Int32.ofNat 0) (FR39 : A39.2.2 = A.2.2 ∧ (∀ i, ¬ i = 394 → A39.2.1 i = A.2.1 i) ∧ (∀ i k, ¬ (i = 367 ∧ k = 44) → A39.1 i k = A.1 i k)), hpa (f, g) d (some (.int)) hm_t176 39 [.ref 368, .int a1, .int a2, .int x39_3, .int x39_4, x39_5, x39_6] [] A39 P := by
    intro f
    induction f with
    | zero => intros; exact hpa.zero
    | succ f ih39 =>
      intro x39_3 x39_4 x39_5 x39_6 A39 br39 bi l3c l4 lb mq4 mq7 wb qb hlw b39 FR39
      cases br39 with
      | nil =>
        have hln : ([] : hg_B).length = 0 := rfl
        have hbi : bi = b0 + (D.2.2.2 q).1.length := by omega
        obtain ⟨ft, t1, t2, t3, t4, t5⟩ := mq7
        rw [← hbi] at t1 t2 t3
        refine hpa_iloadS (by rfl) rfl ?_
        refine hpa_aload_n (by rfl) rfl ?_
        refine hpa_get (v := .ref 385) (by rfl) (by rfl) (by rfl) rfl ?_
        refine hpa_iload_n (by rfl) rfl ?_
        refine hpx_iald (by rfl) (by rfl) (fun h0v1 h1v1 v1 ev1 => ?_)
        rw [show (x39_3).toNatClampNeg = 4 * sd + q by have := hn_cn (j := x39_3) (by omega); omega, FR39.2.1 384 (by omega)] at ev1
        have tlv1 : v1.toInt = (b1 : Int) := by rw [← ev1]; exact mq2
        refine hpj_cge (by rfl) rfl rfl (fun q2 => False.elim (by omega)) (fun q2 => ?_)
        refine hpa_aload_n (by rfl) rfl ?_
        refine hpa_get (v := .ref 386) (by rfl) (by rfl) (by rfl) rfl ?_
        refine hpa_iload (by rfl) rfl ?_
        refine hpx_zald (by rfl) (by rfl) (fun h0v3 h1v3 v3 ev3 => ?_)
        rw [show (x39_4).toNatClampNeg = bi by have := hn_cn (j := x39_4) (by omega); omega, FR39.2.1 385 (by omega)] at ev3
        have hvv3 := congrArg Int32.toInt (t1)
        rw [ev3] at hvv3
        rw [hk_0] at hvv3
        refine hpj_zeq (by rfl) rfl (fun q4 => ?_) (fun q4 => False.elim (by omega))
        refine hpa_aload_n (by rfl) rfl ?_
        refine hpa_aload_n (by rfl) rfl ?_
        refine hpa_get (v := .ref 389) (by rfl) (by rfl) (by rfl) rfl ?_
        refine hpa_iload (by rfl) rfl ?_
        refine hpx_iald (by rfl) (by rfl) (fun h0v5 h1v5 v5 ev5 => ?_)
        rw [show (x39_4).toNatClampNeg = bi by have := hn_cn (j := x39_4) (by omega); omega, FR39.2.1 388 (by omega)] at ev5
        have hmv5 := congrArg Int32.toInt ev5
        rw [t2] at hmv5
        refine hpa_aload_n (by rfl) rfl ?_
        refine hpa_get (v := .ref 390) (by rfl) (by rfl) (by rfl) rfl ?_
        refine hpa_iload (by rfl) rfl ?_
        refine hpx_iald (by rfl) (by rfl) (fun h0v6 h1v6 v6 ev6 => ?_)
        rw [show (x39_4).toNatClampNeg = bi by have := hn_cn (j := x39_4) (by omega); omega, FR39.2.1 389 (by omega)] at ev6
        have hmv6 := congrArg Int32.toInt ev6
        rw [t3] at hmv6
        refine hpa_call0 (by rfl) (by rfl) (by rfl) (by rfl) (by rfl) (by rfl) (hP163 (u0 := ft) (c := (D.2.2.2 q).2) (x := x) v5 v6 (by omega) (by omega) (by rw [FR39.2.1 390 (by omega), FR39.2.1 391 (by omega)]; exact t5) (fun i hi => by rw [FR39.2.1 393 (by omega)]; exact hx i hi) hw.2) ?_
        rintro _ A7 ⟨z8, rfl, RS_A7, FR_A7⟩
        have FRA7x : A7.2.2 = A.2.2 ∧ (∀ i, ¬ i = 394 → A7.2.1 i = A.2.1 i) ∧ (∀ i k, ¬ (i = 367 ∧ k = 44) → A7.1 i k = A.1 i k) := ⟨FR_A7.1.trans FR39.1, fun i hi => (FR_A7.2.1 i hi).trans (FR39.2.1 i hi), fun i k hi => (FR_A7.2.2 i k hi).trans (FR39.2.2 i k hi)⟩
        refine hpa_s1 (by rfl) (Or.inr ⟨_, rfl, rfl⟩) rfl ?_
        rcases RS_A7 with ⟨sw, ew, bw⟩ | ⟨ew, bw⟩
        ·
          have hb44w := congrArg Int32.toInt (bw.trans b39)
          rw [hk_0] at hb44w
          refine hpa_aload_n (by rfl) rfl ?_
          refine hpj_getK (by rfl) (by rfl) (by rfl) rfl ?_
          refine hpj_zeq (by rfl) rfl (fun q9 => ?_) (fun q9 => False.elim (by omega))
          refine hpa_iload (by rfl) rfl ?_
          exact hpa_ireturn (by rfl) rfl (hP _ _ ⟨_, rfl, by rw [hlw, show hgw_law x [] (D.2.2.2 q).2 = hgw_top (hgw_ev x (D.2.2.2 q).2 []) from rfl, ew]; rfl, FRA7x⟩)
        ·
          have hb44w := congrArg Int32.toInt bw
          rw [hk_1] at hb44w
          refine hpa_aload_n (by rfl) rfl ?_
          refine hpj_getK (by rfl) (by rfl) (by rfl) rfl ?_
          refine hpj_zeq (by rfl) rfl (fun q10 => False.elim (by omega)) (fun q10 => ?_)
          refine hpa_iconst (by rfl) rfl ?_
          refine hpa_goto (by rfl) ?_
          exact hpa_ireturn (by rfl) rfl (hP _ _ ⟨_, rfl, by rw [hlw, show hgw_law x [] (D.2.2.2 q).2 = hgw_top (hgw_ev x (D.2.2.2 q).2 []) from rfl, ew]; rfl, FRA7x⟩)
      | cons qq br' =>
        obtain ⟨k1, k2, k3⟩ := qq
        have hln : ((k1, k2, k3) :: br').length = br'.length + 1 := rfl
        obtain ⟨⟨w1, w2, w3⟩, wb2⟩ := id wb
        obtain ⟨⟨fb, m1, m2, m3, m4, m5, m6, m7, m8, m9⟩, qb2⟩ := id qb
        dsimp only at m3 m4 m5 m6
        have ev2 := hgw_ev_two (x := x) w1 w2
        have hlaw : hgw_law x ((k1, k2, k3) :: br') (D.2.2.2 q).2 = match hgw_ev x (k1 ++ k2) [] with | some (v :: u :: _) => if u.toInt < v.toInt then hgw_top (hgw_ev x k3 []) else hgw_law x br' (D.2.2.2 q).2 | _ => 0 := rfl
        rw [ev2] at hlaw
        refine hpa_iloadS (by rfl) rfl ?_
        refine hpa_aload_n (by rfl) rfl ?_
        refine hpa_get (v := .ref 385) (by rfl) (by rfl) (by rfl) rfl ?_
        refine hpa_iload_n (by rfl) rfl ?_
        refine hpx_iald (by rfl) (by rfl) (fun h0v11 h1v11 v11 ev11 => ?_)
        rw [show (x39_3).toNatClampNeg = 4 * sd + q by have := hn_cn (j := x39_3) (by omega); omega, FR39.2.1 384 (by omega)] at ev11
        have tlv11 : v11.toInt = (b1 : Int) := by rw [← ev11]; exact mq2
        refine hpj_cge (by rfl) rfl rfl (fun q12 => False.elim (by omega)) (fun q12 => ?_)
        refine hpa_aload_n (by rfl) rfl ?_
        refine hpa_get (v := .ref 386) (by rfl) (by rfl) (by rfl) rfl ?_
        refine hpa_iload (by rfl) rfl ?_
        refine hpx_zald (by rfl) (by rfl) (fun h0v13 h1v13 v13 ev13 => ?_)
        rw [show (x39_4).toNatClampNeg = bi by have := hn_cn (j := x39_4) (by omega); omega, FR39.2.1 385 (by omega)] at ev13
        have hvv13 := congrArg Int32.toInt (m1)
        rw [ev13] at hvv13
        rw [hk_1] at hvv13
        refine hpj_zeq (by rfl) rfl (fun q14 => False.elim (by omega)) (fun q14 => ?_)
        refine hpa_aload_n (by rfl) rfl ?_
        refine hpa_aload_n (by rfl) rfl ?_
        refine hpa_get (v := .ref 387) (by rfl) (by rfl) (by rfl) rfl ?_
        refine hpa_iload (by rfl) rfl ?_
        refine hpx_iald (by rfl) (by rfl) (fun h0v15 h1v15 v15 ev15 => ?_)
        rw [show (x39_4).toNatClampNeg = bi by have := hn_cn (j := x39_4) (by omega); omega, FR39.2.1 386 (by omega)] at ev15
        have hmv15 := congrArg Int32.toInt ev15
        rw [m2] at hmv15
        refine hpa_aload_n (by rfl) rfl ?_
        refine hpa_get (v := .ref 388) (by rfl) (by rfl) (by rfl) rfl ?_
        refine hpa_iload (by rfl) rfl ?_
        refine hpx_iald (by rfl) (by rfl) (fun h0v16 h1v16 v16 ev16 => ?_)
        rw [show (x39_4).toNatClampNeg = bi by have := hn_cn (j := x39_4) (by omega); omega, FR39.2.1 387 (by omega)] at ev16
        have hmv16 := congrArg Int32.toInt ev16
        rw [m3] at hmv16
        refine hpa_call0 (by rfl) (by rfl) (by rfl) (by rfl) (by rfl) (by rfl) (hP163 (u0 := fb) (c := k1) (x := x) v15 v16 (by omega) (by omega) (by rw [FR39.2.1 390 (by omega), FR39.2.1 391 (by omega)]; exact m7) (fun i hi => by rw [FR39.2.1 393 (by omega)]; exact hx i hi) w1) ?_
        rintro _ A17 ⟨z18, rfl, RS_A17, FR_A17⟩
        have FRA17x : A17.2.2 = A.2.2 ∧ (∀ i, ¬ i = 394 → A17.2.1 i = A.2.1 i) ∧ (∀ i k, ¬ (i = 367 ∧ k = 44) → A17.1 i k = A.1 i k) := ⟨FR_A17.1.trans FR39.1, fun i hi => (FR_A17.2.1 i hi).trans (FR39.2.1 i hi), fun i k hi => (FR_A17.2.2 i k hi).trans (FR39.2.2 i k hi)⟩
        refine hpa_s1 (by rfl) (Or.inr ⟨_, rfl, rfl⟩) rfl ?_
        refine hpa_aload_n (by rfl) rfl ?_
        refine hpa_aload_n (by rfl) rfl ?_
        refine hpa_get (v := .ref 388) (by rfl) (by rfl) (by rfl) rfl ?_
        refine hpa_iload (by rfl) rfl ?_
        refine hpx_iald (by rfl) (by rfl) (fun h0v19 h1v19 v19 ev19 => ?_)
        rw [show (x39_4).toNatClampNeg = bi by have := hn_cn (j := x39_4) (by omega); omega, FRA17x.2.1 387 (by omega)] at ev19
        have hmv19 := congrArg Int32.toInt ev19
        rw [m3] at hmv19
        refine hpa_aload_n (by rfl) rfl ?_
        refine hpa_get (v := .ref 389) (by rfl) (by rfl) (by rfl) rfl ?_
        refine hpa_iload (by rfl) rfl ?_
        refine hpx_iald (by rfl) (by rfl) (fun h0v20 h1v20 v20 ev20 => ?_)
        rw [show (x39_4).toNatClampNeg = bi by have := hn_cn (j := x39_4) (by omega); omega, FRA17x.2.1 388 (by omega)] at ev20
        have hmv20 := congrArg Int32.toInt ev20
        rw [m4] at hmv20
        refine hpa_call0 (by rfl) (by rfl) (by rfl) (by rfl) (by rfl) (by rfl) (hP163 (u0 := (fb + k1.length)) (c := k2) (x := x) v19 v20 (by omega) (by omega) (by rw [FRA17x.2.1 390 (by omega), FRA17x.2.1 391 (by omega)]; exact m8) (fun i hi => by rw [FRA17x.2.1 393 (by omega)]; exact hx i hi) w2) ?_
        rintro _ A21 ⟨z22, rfl, RS_A21, FR_A21⟩
        have FRA21x : A21.2.2 = A.2.2 ∧ (∀ i, ¬ i = 394 → A21.2.1 i = A.2.1 i) ∧ (∀ i k, ¬ (i = 367 ∧ k = 44) → A21.1 i k = A.1 i k) := ⟨FR_A21.1.trans FRA17x.1, fun i hi => (FR_A21.2.1 i hi).trans (FRA17x.2.1 i hi), fun i k hi => (FR_A21.2.2 i k hi).trans (FRA17x.2.2 i k hi)⟩
        refine hpa_s1 (by rfl) (Or.inr ⟨_, rfl, rfl⟩) rfl ?_
        rcases RS_A17 with ⟨su, eu, bu⟩ | ⟨eu, bu⟩
        ·
          rcases RS_A21 with ⟨sv, ev, bv⟩ | ⟨ev, bv⟩
          ·
            rw [eu, ev] at hlaw
            have hb44 := congrArg Int32.toInt (bv.trans (bu.trans b39))
            rw [hk_0] at hb44
            refine hpa_aload_n (by rfl) rfl ?_
            refine hpj_getK (by rfl) (by rfl) (by rfl) rfl ?_
            refine hpj_zeq (by rfl) rfl (fun q23 => ?_) (fun q23 => False.elim (by omega))
            refine hpa_iload (by rfl) rfl ?_
            refine hpa_iload (by rfl) rfl ?_
            refine hpj_clt (by rfl) rfl rfl (fun q24 => ?_) (fun q24 => ?_)
            ·
              have hl3 : hgw_law x ((k1, k2, k3) :: br') (D.2.2.2 q).2 = hgw_top (hgw_ev x k3 []) := by rw [hlaw]; exact if_pos q24
              refine hpa_aload_n (by rfl) rfl ?_
              refine hpa_aload_n (by rfl) rfl ?_
              refine hpa_get (v := .ref 389) (by rfl) (by rfl) (by rfl) rfl ?_
              refine hpa_iload (by rfl) rfl ?_
              refine hpx_iald (by rfl) (by rfl) (fun h0v25 h1v25 v25 ev25 => ?_)
              rw [show (x39_4).toNatClampNeg = bi by have := hn_cn (j := x39_4) (by omega); omega, FRA21x.2.1 388 (by omega)] at ev25
              have hmv25 := congrArg Int32.toInt ev25
              rw [m4] at hmv25
              refine hpa_aload_n (by rfl) rfl ?_
              refine hpa_get (v := .ref 390) (by rfl) (by rfl) (by rfl) rfl ?_
              refine hpa_iload (by rfl) rfl ?_
              refine hpx_iald (by rfl) (by rfl) (fun h0v26 h1v26 v26 ev26 => ?_)
              rw [show (x39_4).toNatClampNeg = bi by have := hn_cn (j := x39_4) (by omega); omega, FRA21x.2.1 389 (by omega)] at ev26
              have hmv26 := congrArg Int32.toInt ev26
              rw [m5] at hmv26
              refine hpa_call0 (by rfl) (by rfl) (by rfl) (by rfl) (by rfl) (by rfl) (hP163 (u0 := (fb + k1.length + k2.length)) (c := k3) (x := x) v25 v26 (by omega) (by omega) (by rw [FRA21x.2.1 390 (by omega), FRA21x.2.1 391 (by omega)]; exact m9) (fun i hi => by rw [FRA21x.2.1 393 (by omega)]; exact hx i hi) w3) ?_
              rintro _ A27 ⟨z28, rfl, RS_A27, FR_A27⟩
              have FRA27x : A27.2.2 = A.2.2 ∧ (∀ i, ¬ i = 394 → A27.2.1 i = A.2.1 i) ∧ (∀ i k, ¬ (i = 367 ∧ k = 44) → A27.1 i k = A.1 i k) := ⟨FR_A27.1.trans FRA21x.1, fun i hi => (FR_A27.2.1 i hi).trans (FRA21x.2.1 i hi), fun i k hi => (FR_A27.2.2 i k hi).trans (FRA21x.2.2 i k hi)⟩
              refine hpa_s1 (by rfl) (Or.inr ⟨_, rfl, rfl⟩) rfl ?_
              rcases RS_A27 with ⟨sw, ew, bw⟩ | ⟨ew, bw⟩
              ·
                have hb44w := congrArg Int32.toInt (bw.trans (bv.trans (bu.trans b39)))
                rw [hk_0] at hb44w
                refine hpa_aload_n (by rfl) rfl ?_
                refine hpj_getK (by rfl) (by rfl) (by rfl) rfl ?_
                refine hpj_zeq (by rfl) rfl (fun q29 => ?_) (fun q29 => False.elim (by omega))
                refine hpa_iload (by rfl) rfl ?_
                exact hpa_ireturn (by rfl) rfl (hP _ _ ⟨_, rfl, by rw [hlw, hl3, ew]; rfl, FRA27x⟩)
              ·
                have hb44w := congrArg Int32.toInt bw
                rw [hk_1] at hb44w
                refine hpa_aload_n (by rfl) rfl ?_
                refine hpj_getK (by rfl) (by rfl) (by rfl) rfl ?_
                refine hpj_zeq (by rfl) rfl (fun q30 => False.elim (by omega)) (fun q30 => ?_)
                refine hpa_iconst (by rfl) rfl ?_
                refine hpa_goto (by rfl) ?_
                exact hpa_ireturn (by rfl) rfl (hP _ _ ⟨_, rfl, by rw [hlw, hl3, ew]; rfl, FRA27x⟩)
            ·
              have hcnt : hgw_law x ((k1, k2, k3) :: br') (D.2.2.2 q).2 = hgw_law x br' (D.2.2.2 q).2 := by rw [hlaw]; exact if_neg (by omega)
              refine hpa_goto (by rfl) ?_
              refine hpj_iinc (by rfl) rfl rfl hk_1 (by omega) (by omega) (fun _ => rfl) (fun z31 ez31 => ?_)
              refine hpa_goto (by rfl) ?_
              exact ih39 x39_3 z31 (.int z18) (.int z22) A21 br' (bi + 1) l3c (by omega) (by omega) mq4 mq7 wb.2 qb.2 (hlw.trans hcnt) (bv.trans (bu.trans b39)) FRA21x
          ·
            rw [eu, ev] at hlaw
            have hb44 := congrArg Int32.toInt bv
            rw [hk_1] at hb44
            refine hpa_aload_n (by rfl) rfl ?_
            refine hpj_getK (by rfl) (by rfl) (by rfl) rfl ?_
            refine hpj_zeq (by rfl) rfl (fun q32 => False.elim (by omega)) (fun q32 => ?_)
            refine hpa_iconst (by rfl) rfl ?_
            exact hpa_ireturn (by rfl) rfl (hP _ _ ⟨_, rfl, (hlw.trans hlaw).symm, FRA21x⟩)
        ·
          rcases RS_A21 with ⟨sv, ev, bv⟩ | ⟨ev, bv⟩
          ·
            rw [eu, ev] at hlaw
            have hb44 := congrArg Int32.toInt (bv.trans bu)
            rw [hk_1] at hb44
            refine hpa_aload_n (by rfl) rfl ?_
            refine hpj_getK (by rfl) (by rfl) (by rfl) rfl ?_
            refine hpj_zeq (by rfl) rfl (fun q33 => False.elim (by omega)) (fun q33 => ?_)
            refine hpa_iconst (by rfl) rfl ?_
            exact hpa_ireturn (by rfl) rfl (hP _ _ ⟨_, rfl, (hlw.trans hlaw).symm, FRA21x⟩)
          ·
            rw [eu, ev] at hlaw
            have hb44 := congrArg Int32.toInt bv
            rw [hk_1] at hb44
            refine hpa_aload_n (by rfl) rfl ?_
            refine hpj_getK (by rfl) (by rfl) (by rfl) rfl ?_
            refine hpj_zeq (by rfl) rfl (fun q34 => False.elim (by omega)) (fun q34 => ?_)
            refine hpa_iconst (by rfl) rfl ?_
            exact hpa_ireturn (by rfl) rfl (hP _ _ ⟨_, rfl, (hlw.trans hlaw).symm, FRA21x⟩)
  refine hpa_iconst (by rfl) rfl ?_
  refine hpa_aload_n (by rfl) rfl ?_
  refine hpj_getK (by rfl) (by rfl) (by rfl) rfl ?_
  refine hpj_imul (by rfl) hk_4 rfl (by omega) (by omega) (fun z35 ez35 => ?_)
  refine hpa_iload_n (by rfl) rfl ?_
  refine hpj_iadd (by rfl) rfl rfl (by omega) (by omega) (fun z36 ez36 => ?_)
  refine hpa_s1 (by rfl) (Or.inl ⟨_, rfl, rfl⟩) rfl ?_
  refine hpa_aload_n (by rfl) rfl ?_
  refine hpa_get (v := .ref 384) (by rfl) (by rfl) (by rfl) rfl ?_
  refine hpa_iload_n (by rfl) rfl ?_
  refine hpx_iald (by rfl) (by rfl) (fun h0v37 h1v37 v37 ev37 => ?_)
  rw [show (z36).toNatClampNeg = 4 * sd + q by have := hn_cn (j := z36) (by omega); omega] at ev37
  have tlv37 : v37.toInt = (b0 : Int) := by rw [← ev37]; exact mq1
  refine hpa_aload_n (by rfl) rfl ?_
  refine hpa_get (v := .ref 385) (by rfl) (by rfl) (by rfl) rfl ?_
  refine hpa_iload_n (by rfl) rfl ?_
  refine hpx_iald (by rfl) (by rfl) (fun h0v38 h1v38 v38 ev38 => ?_)
  rw [show (z36).toNatClampNeg = 4 * sd + q by have := hn_cn (j := z36) (by omega); omega] at ev38
  have tlv38 : v38.toInt = (b1 : Int) := by rw [← ev38]; exact mq2
  refine hpj_cne (by rfl) rfl rfl (fun q39 => ?_) (fun q39 => ?_)
  ·
    rcases mq3 with ⟨mq4, -⟩ | ⟨mq4, mq5, mq6, mq7⟩
    · exact False.elim (by omega)
    refine hpa_aload_n (by rfl) rfl ?_
    refine hpa_iconst (by rfl) rfl ?_
    refine hpj_putI (by rfl) (by rfl) (by rfl) (by rfl) (fun A40 eA40 fA40 => ?_)
    refine hpa_aload_n (by rfl) rfl ?_
    refine hpa_get (v := .ref 384) (by rfl) (by rfl) (by rfl) rfl ?_
    refine hpa_iload_n (by rfl) rfl ?_
    refine hpx_iald (by rfl) (by rfl) (fun h0v41 h1v41 v41 ev41 => ?_)
    rw [show (z36).toNatClampNeg = 4 * sd + q by have := hn_cn (j := z36) (by omega); omega, fA40] at ev41
    have tlv41 : v41.toInt = (b0 : Int) := by rw [← ev41]; exact mq1
    refine hpa_s1 (by rfl) (Or.inr ⟨_, rfl, rfl⟩) rfl ?_
    exact L39 _ z36 v41 (.retAddr 0) (.retAddr 0) A40 (D.2.2.2 q).1 b0 (by omega) (by omega) (by omega) mq4 mq7 hw.1 mq6 rfl (by rw [eA40, hup1]) ⟨by rw [fA40], fun i _ => by rw [fA40], fun i k hi => by rw [eA40, hup2 hi]⟩
  ·
    refine hpa_iload_n (by rfl) rfl ?_
    exact hpa_ireturn (by rfl) rfl (hP _ _ ⟨_, rfl, by rcases mq3 with ⟨mq4, mq5⟩ | ⟨mq4, mq5, mq6, mq7⟩; (rw [mq5, h2]; rfl); exact False.elim (by omega), rfl, fun _ _ => rfl, fun _ _ _ => rfl⟩)
theorem hP176 {g d : Nat} {A : hs_A} {V : Nat → Int} {sd q bb zz : Nat} {ns : List Nat} {D : hg_D} {x : Nat → Int32} (a1 a2 : Int32) (hM : hmM V A sd ns D bb zz) (hsd : (A.1 367 18).toInt = (sd : Int)) (hs1 : sd ≤ 1) (hq : q < 4) (h1 : a1.toInt = (q : Int)) (h2 : a2 = Int32.ofInt (if q = 0 then 1 else 0)) (hx : ∀ i, i < 9 → A.2.1 393 i = x i) (hw : hgw_wl (D.2.2.2 q)) : hpC g d 176 hm_m176 [.ref 368, .int a1, .int a2] A (fun r A' => ∃ z : Int32, r = some (.int z) ∧ z = hgw_law x (D.2.2.2 q).1 (D.2.2.2 q).2 ∧ A'.2.2 = A.2.2 ∧ (∀ i, ¬ i = 394 → A'.2.1 i = A.2.1 i) ∧ (∀ i k, ¬ (i = 367 ∧ k = 44) → A'.1 i k = A.1 i k)) := hpC.all (fun f d => hW176 a1 a2 hM hsd hs1 hq h1 h2 hx hw (fun r A' h => h))
/-! THE SIDE THAT IS LIVE keeps what it was told while the other one is read -/
def hlq (s c j : Nat) : Prop := ((c = 376 ∨ c = 379 ∨ c = 381 ∨ c = 382) ∧ j = s) ∨ ((c = 377 ∨ c = 378) ∧ 10 * s ≤ j ∧ j < 10 * s + 10) ∨ (c = 380 ∧ 24 * s ≤ j ∧ j < 24 * s + 24)
def hOT (s : Nat) (A A' : hs_A) : Prop := ∀ c j, hlq s c j → A'.2.1 c j = A.2.1 c j
section HOT
variable {V : Nat → Int} {A A1 A' : hs_A} {s : Nat} {ns : List Nat} {d : hg_D} {b z : Nat}
theorem hOT_r : hOT s A A := fun _ _ _ => Eq.refl _
theorem hOT.trans (a : hOT s A A1) (c : hOT s A1 A') : hOT s A A' := fun i j h => (c i j h).trans (a i j h)
theorem hOT.eq (a : hOT s A A1) (e : A'.2.1 = A1.2.1) : hOT s A A' := fun i j h => by
  rw [e]
  exact a i j h
theorem hOT.W {W : Nat} (hs : s ≤ 1) (w : uf_W W A A') (e : ([376, 377, 378, 379, 380, 381, 382].all fun c => !Nat.testBit W (ug_g c)) = true) : hOT s A A' := by
  have ee : ∀ c, c ∈ [376, 377, 378, 379, 380, 381, 382] → Nat.testBit W (ug_g c) = false := fun c hc => by
    have q := List.all_eq_true.mp e c hc
    cases t : Nat.testBit W (ug_g c) with
    | false => rfl
    | true =>
      rw [t] at q
      exact absurd q (by decide)
  intro c j hl
  rcases hl with ⟨h | h | h | h, hj⟩ | ⟨h | h, h1, h2⟩ | ⟨h, h1, h2⟩ <;> subst h
  · exact w.2.1 376 _ _ j rfl (by omega) (ee _ (by decide))
  · exact w.2.1 379 _ _ j rfl (by omega) (ee _ (by decide))
  · exact w.2.1 381 _ _ j rfl (by omega) (ee _ (by decide))
  · exact w.2.1 382 _ _ j rfl (by omega) (ee _ (by decide))
  · exact w.2.1 377 _ _ j rfl (by omega) (ee _ (by decide))
  · exact w.2.1 378 _ _ j rfl (by omega) (ee _ (by decide))
  · exact w.2.1 380 _ _ j rfl (by omega) (ee _ (by decide))
/-- a write to the other side's rows -/
theorem hOT.a {i0 k : Nat} {x : Int32} (a : hOT s A A1) (f : A'.2.1 = hs_up A1.2.1 i0 k x) (h : ¬ hlq s i0 k) : hOT s A A' := fun c j hl => by
  rw [f, hup2 (fun q => h (by rw [← q.1, ← q.2]; exact hl))]
  exact a c j hl
theorem hmB1.lv {c : Nat} {q : hg_C × hg_C × hg_C} (h : hmB1 A z c q) (v : hVb (s : Int) A c) (h1c : 130 * s ≤ c) (h2c : c < 130 * s + 130) (e : ∀ c j, hlr (s : Int) c j → A'.2.1 c j = A.2.1 c j) : hmB1 A' z c q := by
  obtain ⟨f0, h1, h2, h3, h4, h5, h6, h7, h8, h9⟩ := h
  have e5 : ∀ i, 385 ≤ i → i ≤ 389 → A'.2.1 i c = A.2.1 i c := fun i a b => e i c (Or.inr (Or.inl ⟨⟨a, b⟩, by omega, by omega⟩))
  have hn1 : ¬ (A.2.1 385 c).toInt = 0 := by
    rw [h1]
    exact fun w => absurd (hk_1.symm.trans w) (by decide)
  have u1 := (v.1 hn1).1.1
  have u2 := v.2.2.1
  have e9 : ∀ j, f0 ≤ j → j < f0 + q.1.length + q.2.1.length + q.2.2.length → A'.2.1 390 j = A.2.1 390 j ∧ A'.2.1 391 j = A.2.1 391 j := fun j a b => ⟨e 390 j (Or.inr (Or.inr ⟨Or.inl rfl, by omega, by omega⟩)), e 391 j (Or.inr (Or.inr ⟨Or.inr rfl, by omega, by omega⟩))⟩
  exact ⟨f0, by rw [e5 _ (by omega) (by omega)]; exact h1, by rw [e5 _ (by omega) (by omega)]; exact h2, by rw [e5 _ (by omega) (by omega)]; exact h3, by rw [e5 _ (by omega) (by omega)]; exact h4, by rw [e5 _ (by omega) (by omega)]; exact h5, h6, h7.mv (fun i _ _ => e9 i (by omega) (by omega)), h8.mv (fun i _ _ => e9 i (by omega) (by omega)), h9.mv (fun i _ _ => e9 i (by omega) (by omega))⟩
theorem hmT1.lv {c : Nat} {l : hg_C} (h : hmT1 A z c l) (v : hVb (s : Int) A c) (h1c : 130 * s ≤ c) (h2c : c < 130 * s + 130) (e : ∀ c j, hlr (s : Int) c j → A'.2.1 c j = A.2.1 c j) : hmT1 A' z c l := by
  obtain ⟨f0, h1, h2, h3, h4, h5⟩ := h
  have e5 : ∀ i, 385 ≤ i → i ≤ 389 → A'.2.1 i c = A.2.1 i c := fun i a b => e i c (Or.inr (Or.inl ⟨⟨a, b⟩, by omega, by omega⟩))
  have u1 := v.2.1
  have u2 := v.2.2.1
  exact ⟨f0, by rw [e5 _ (by omega) (by omega)]; exact h1, by rw [e5 _ (by omega) (by omega)]; exact h2, by rw [e5 _ (by omega) (by omega)]; exact h3, h4, h5.mv (fun j _ _ => ⟨e 390 j (Or.inr (Or.inr ⟨Or.inl rfl, by omega, by omega⟩)), e 391 j (Or.inr (Or.inr ⟨Or.inr rfl, by omega, by omega⟩))⟩)⟩
theorem hmBr.lv (e : ∀ c j, hlr (s : Int) c j → A'.2.1 c j = A.2.1 c j) : ∀ {l : hg_B} {c : Nat}, hmBr A z c l → (∀ i, c ≤ i → i < c + l.length → hVb (s : Int) A i) → 130 * s ≤ c → c + l.length ≤ 130 * s + 130 → hmBr A' z c l
  | [], _, _, _, _, _ => trivial
  | q :: r, c, h, v, h1, h2 => by
    have hl : (q :: r).length = r.length + 1 := Eq.refl _
    exact ⟨h.1.lv (v c (Nat.le_refl c) (by omega)) h1 (by omega) e, hmBr.lv e h.2 (fun i a b => v i (by omega) (by omega)) (by omega) (by omega)⟩
theorem hmM.lv (h : hmM V A s ns d b z) (hns : ns.length ≤ 10) (vl : hVl (s : Int) A) (e : ∀ c j, hlr (s : Int) c j → A'.2.1 c j = A.2.1 c j) (o : hOT s A A') : hmM V A' s ns d b z := by
  obtain ⟨h1, ⟨h2, h3, h4⟩, h5⟩ := h
  refine ⟨fun k hk => ?_, ⟨fun t ht => ?_, ?_, ?_⟩, h5.mv (fun i hi => ⟨o 377 _ (Or.inr (Or.inl ⟨Or.inl rfl, by omega, by omega⟩)), o 378 _ (Or.inr (Or.inl ⟨Or.inr rfl, by omega, by omega⟩))⟩)⟩
  · obtain ⟨b0, b1, q1, q2, q3⟩ := h1 k hk
    refine ⟨b0, b1, ?_, ?_, ?_⟩
    · rw [e 383 _ (Or.inl ⟨Or.inl rfl, by omega, by omega⟩)]
      exact q1
    · rw [e 384 _ (Or.inl ⟨Or.inr rfl, by omega, by omega⟩)]
      exact q2
    · rcases q3 with q3 | ⟨q4, q5, q6, q7⟩
      · exact Or.inl q3
      · rcases vl (4 * s + k) (by omega) (by omega) with v | ⟨v1, v2, v3⟩
        · exact False.elim (by omega)
        · exact Or.inr ⟨q4, q5, hmBr.lv e q6 (fun i a c => v3 i (by omega) (by omega)) (by omega) (by omega), q7.lv (v3 _ (by omega) (by omega)) (by omega) (by omega) e⟩
  · rw [o 380 _ (Or.inr (Or.inr ⟨rfl, by omega, by omega⟩))]
    exact h2 t ht
  · rw [o 381 _ (Or.inl ⟨Or.inr (Or.inr (Or.inl rfl)), rfl⟩)]
    exact h3
  · rw [o 382 _ (Or.inl ⟨Or.inr (Or.inr (Or.inr rfl)), rfl⟩)]
    exact h4
end HOT
/-! THE ROW AT A START -/
def hmRw (A : hs_A) (a : Nat → Int32) (sd m : Nat) : Prop := (∀ i, i < m → a i = A.2.1 377 (10 * sd + i) ∧ a (10 + i) = A.2.1 378 (10 * sd + i) ∧ (a (20 + i)).toInt = (i : Int) ∧ (a (50 + i)).toInt = 1) ∧ (∀ j, j < 73 → ¬ j = 71 → (∀ i, i < m → ¬ j = i ∧ ¬ j = 10 + i ∧ ¬ j = 20 + i ∧ ¬ j = 50 + i) → (a j).toInt = 0)
theorem hmRw.more {A B0 B1 B2 B3 B4 : hs_A} {sd m k1 k2 k3 k4 : Nat} {x1 x2 x3 x4 : Int32} (h : hmRw A (B0.2.1 396) sd m) (hm : m < 10) (f1 : B1.2.1 = hs_up B0.2.1 396 k1 x1) (f2 : B2.2.1 = hs_up B1.2.1 396 k2 x2) (f3 : B3.2.1 = hs_up B2.2.1 396 k3 x3) (f4 : B4.2.1 = hs_up B3.2.1 396 k4 x4) (e1 : k1 = m) (e2 : k2 = 10 + m) (e3 : k3 = 20 + m) (e4 : k4 = 50 + m) (h1 : x1 = A.2.1 377 (10 * sd + m)) (h2 : x2 = A.2.1 378 (10 * sd + m)) (h3 : x3.toInt = (m : Int)) (h4 : x4.toInt = 1) : hmRw A (B4.2.1 396) sd (m + 1) := by
  subst e1 e2 e3 e4
  have other : ∀ j, ¬ j = k1 → ¬ j = 10 + k1 → ¬ j = 20 + k1 → ¬ j = 50 + k1 → B4.2.1 396 j = B0.2.1 396 j := fun j a b c d => by
    rw [f4, hup2 (by omega), f3, hup2 (by omega), f2, hup2 (by omega), f1, hup2 (by omega)]
  refine ⟨fun i hi => ?_, fun j hj h71 hn => ?_⟩
  · by_cases q : i = k1
    · subst q
      refine ⟨?_, ?_, ?_, ?_⟩
      · rw [f4, hup2 (by omega), f3, hup2 (by omega), f2, hup2 (by omega), f1, hup1]
        exact h1
      · rw [f4, hup2 (by omega), f3, hup2 (by omega), f2, hup1]
        exact h2
      · rw [f4, hup2 (by omega), f3, hup1]
        exact h3
      · rw [f4, hup1]
        exact h4
    · have g := h.1 i (by omega)
      rw [other i (by omega) (by omega) (by omega) (by omega), other (10 + i) (by omega) (by omega) (by omega) (by omega), other (20 + i) (by omega) (by omega) (by omega) (by omega), other (50 + i) (by omega) (by omega) (by omega) (by omega)]
      exact g
  · have g := hn k1 (by omega)
    rw [other j g.1 g.2.1 g.2.2.1 g.2.2.2]
    exact h.2 j hj h71 (fun i hi => hn i (by omega))
/-- what a text that was read told stands in side sd -/
def hm_R (K V : Nat → Int) (E : Nat → Nat → Bool) (sd : Nat) (A : hs_A) : Prop := ∃ (t : Nat) (s : hq_S) (bb zz : Nat), hq_q K V E t = some s ∧ hq_dl K V E t s = .inr 0 ∧ hmM V A sd s.2.2.2.2.1 (hg_q K V E t).1 bb zz
theorem hmRw.m1 {A B B' : hs_A} {sd m k : Nat} {x : Int32} (h : hmRw A (B.2.1 396) sd m) (hm : m ≤ 10) (f : B'.2.1 = hs_up B.2.1 396 k x) (e : k = 71) : hmRw A (B'.2.1 396) sd m := by
  subst e
  refine ⟨fun i hi => ?_, fun j hj h71 hn => ?_⟩
  · have g := h.1 i hi
    rw [f, hup2 (by omega), hup2 (by omega), hup2 (by omega), hup2 (by omega)]
    exact g
  · rw [f, hup2 (by omega)]
    exact h.2 j hj h71 hn
theorem hmRw.fr {A A' : hs_A} {a : Nat → Int32} {sd m : Nat} (h : hmRw A a sd m) (e7 : A'.2.1 377 = A.2.1 377) (e8 : A'.2.1 378 = A.2.1 378) : hmRw A' a sd m := by
  unfold hmRw
  rw [e7, e8]
  exact h
theorem hm_R.fr {K V : Nat → Int} {E : Nat → Nat → Bool} {sd : Nat} {A A' : hs_A} (h : hm_R K V E sd A) (e : ∀ i, 377 ≤ i → i ≤ 391 → A'.2.1 i = A.2.1 i) : hm_R K V E sd A' := by
  obtain ⟨t, s, bb, zz, h1, h2, h3⟩ := h
  exact ⟨t, s, bb, zz, h1, h2, h3.mv (Nat.le_refl _) (Nat.le_refl _) (fun i a b _ => e i a (by omega)) (fun c _ i a b => by rw [e i (by omega) (by omega)]) (fun j _ => by rw [e 390 (by omega) (by omega), e 391 (by omega) (by omega)]; exact ⟨Eq.refl _, Eq.refl _⟩)⟩
/-- the reference's life at its start -/
def hmBg (sd : Nat) (A : hs_A) : Prop := ∃ m : Nat, (A.2.1 376 sd).toInt = (m : Int) ∧ hmRw A (A.2.1 396) sd m ∧ (A.2.1 396 71).toInt = -1 ∧ A.1 367 47 = A.2.1 382 sd ∧ (A.1 367 48).toInt = 0
theorem hmBg.mv {sd : Nat} {A A' : hs_A} (h : hmBg sd A) (e : ∀ i, i = 376 ∨ i = 377 ∨ i = 378 ∨ i = 382 ∨ i = 396 → A'.2.1 i = A.2.1 i) (f : A'.1 367 47 = A.1 367 47) (g : A'.1 367 48 = A.1 367 48) : hmBg sd A' := by
  obtain ⟨m, h1, h2, h3, h4, h5⟩ := h
  refine ⟨m, ?_, ?_, ?_, ?_, ?_⟩
  · rw [e 376 (Or.inl rfl)]
    exact h1
  · rw [e 396 (by omega)]
    exact h2.fr (e 377 (by omega)) (e 378 (by omega))
  · rw [e 396 (by omega)]
    exact h3
  · rw [f, e 382 (by omega)]
    exact h4
  · rw [g]
    exact h5
/-! WHAT CLASS AND REFERENCE SHARE: the tape, its length, the keys -/
theorem hxC.post {d k : Nat} {e : hc_M} {as : List Value} {A : hs_A} {P P' : Option Value → hs_A → Prop} (w : hxC d k e as A P) (hP : ∀ r A', P r A' → P' r A') : hxC d k e as A P' := fun h hR => by
  obtain ⟨F, r, h', hc, A', hR', hp⟩ := w h hR
  exact ⟨F, r, h', hc, A', hR', hP r A' hp⟩
def hbyte (x : Int32) : Prop := -128 ≤ x.toInt ∧ x.toInt ≤ 127
def hTape (n : Int) (A : hs_A) : Prop := ∀ i : Nat, (i : Int) < n → A.2.1 1 i = A.2.1 368 i ∧ hbyte (A.2.1 1 i)
def hI0 (A : hs_A) : Prop := (A.1 0 1).toInt = (A.1 367 2).toInt ∧ hcU A ∧ hTape (A.1 0 1).toInt A
theorem hI0.fr {A A' : hs_A} (h : hI0 A) (w : hRT 0 A A') : hI0 A' := by
  obtain ⟨h1, h2, h3⟩ := h
  have e1 := w.1 0 1 (by rfl)
  have e3 := w.1 367 2 (by rfl)
  refine ⟨by rw [e1, e3]; exact h1, h2.fr (by rw [w.2.2.1 rfl]), fun i hi => ?_⟩
  rw [e1] at hi
  rw [w.2.1 1 (by rfl) i, w.2.1 368 (by rfl) i]
  exact h3 i hi
theorem hs_vis.t1 {A A' : hs_A} {j : Nat} (h : hs_vis A A') (hj : j < 2000) : A'.2.1 1 j = A.2.1 1 j := h.a (i := 1) (t := 0) (m := 2000) (by rfl) hj
theorem hs_vis.t2 {A A' : hs_A} {j : Nat} (h : hs_vis A A') (hj : j < 2000) : A'.2.1 368 j = A.2.1 368 j := h.a (i := 368) (t := 0) (m := 2000) (by rfl) hj
theorem hfw_al {f g : Nat → Int32} {n : Nat} {w : Int32} (h : ∀ i, i < n → f i = g i ∧ hbyte (f i)) : ∀ i, i < n + 4 → hfw f n w 4 i = hfw g n w 4 i ∧ hbyte (hfw f n w 4 i) := by
  intro i hi
  unfold hfw
  by_cases c : n ≤ i ∧ i < n + 4
  · rw [if_pos c, if_pos c]
    exact ⟨rfl, hvb_rng _⟩
  · rw [if_neg c, if_neg c]
    exact h i (by omega)
theorem hf5_al {f g : Nat → Int32} {n m : Nat} {a b c d e : Int32} (h : ∀ i, i < n → f i = g i ∧ hbyte (f i)) (hm : n ≤ 1980 ∧ m = n + 20 ∨ ¬ n ≤ 1980 ∧ m = n) : ∀ i, i < m → hf5 f n a b c d e i = hf5 g n a b c d e i ∧ hbyte (hf5 f n a b c d e i) := by
  intro i hi
  unfold hf5
  rcases hm with ⟨q, rfl⟩ | ⟨q, rfl⟩
  · rw [if_pos q, if_pos q]
    exact hfw_al (hfw_al (hfw_al (hfw_al (hfw_al h)))) i hi
  · rw [if_neg q, if_neg q]
    exact h i hi
