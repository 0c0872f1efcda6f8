/-! WHAT IS IN RANGE when a reading goes through -/
section HGR
variable {K V : Nat → Int} {E : Nat → Nat → Bool}
theorem hgr_rn {lo hi : Int} {t : Nat} {o : Option (Nat × Nat)} (h : hq_rng V lo hi t o = none) : o = none ∧ lo ≤ V t ∧ V t ≤ hi := by
  unfold hq_rng at h
  split at h
  next q => exact ⟨h, q⟩
  · unfold hq_late at h
    split at h <;> cases h
def hgr_o (o : Option (Nat × Nat)) : Prop := ∀ c, o = some c → 1 ≤ c.1
theorem hgr_la {c t : Nat} {o : Option (Nat × Nat)} (hc : 1 ≤ c) (h : hgr_o o) : hgr_o (hq_late c t o) := by
  intro x hx
  cases o with
  | none => cases hx; exact hc
  | some y => exact h x hx
theorem hgr_ln {c t : Nat} {o : Option (Nat × Nat)} : ¬ hq_late c t o = none := by
  intro h
  cases o with
  | none => cases h
  | some y => cases h
theorem hgr_ro {lo hi : Int} {t : Nat} {o : Option (Nat × Nat)} (h : hgr_o o) : hgr_o (hq_rng V lo hi t o) := by
  unfold hq_rng
  split
  · exact h
  · exact hgr_la (by omega) h
def hgr_I (V : Nat → Int) (t : Nat) (s : hq_S) : Prop := hgr_o s.2.2.2.2.2.2.2 ∧ (s.2.2.2.2.2.2.2 = none → (∀ u, u ∈ s.2.2.2.2.1 → 0 ≤ V (u + 1) ∧ V (u + 1) ≤ 255) ∧ (s.1 = 2 → t = s.2.2.2.2.2.1 + 1) ∧ (s.1 = 3 ∨ s.1 = 4 → 0 ≤ V (s.2.2.2.2.2.1 + 1) ∧ V (s.2.2.2.2.2.1 + 1) ≤ 255))
variable {t : Nat} {s s' : hq_S}
theorem hgr_k (h : hgr_I V t s) (e : s'.2.2.2.2.1 = s.2.2.2.2.1) (o : s'.2.2.2.2.2.2.2 = s.2.2.2.2.2.2.2) (n : ¬ s'.1 = 2 ∧ ¬ s'.1 = 3 ∧ ¬ s'.1 = 4) : hgr_I V (t + 1) s' := by
  refine ⟨by rw [o]; exact h.1, fun q => ?_⟩
  rw [o] at q
  refine ⟨by rw [e]; exact (h.2 q).1, fun z => absurd z n.1, fun z => ?_⟩
  rcases z with z | z
  · exact absurd z n.2.1
  · exact absurd z n.2.2
theorem hgr_r {lo hi : Int} (h : hgr_I V t s) (e : s'.2.2.2.2.1 = s.2.2.2.2.1) (o : s'.2.2.2.2.2.2.2 = hq_rng V lo hi t s.2.2.2.2.2.2.2) (n : ¬ s'.1 = 2 ∧ ¬ s'.1 = 3 ∧ ¬ s'.1 = 4) : hgr_I V (t + 1) s' := by
  refine ⟨by rw [o]; exact hgr_ro h.1, fun q => ?_⟩
  rw [o] at q
  refine ⟨by rw [e]; exact (h.2 (hgr_rn q).1).1, fun z => absurd z n.1, fun z => ?_⟩
  rcases z with z | z
  · exact absurd z n.2.1
  · exact absurd z n.2.2
theorem hgr_1 (h : hgr_I V t s) (e : s'.2.2.2.2.1 = s.2.2.2.2.1) (n : s'.1 = 2) (m : s'.2.2.2.2.2.1 = t) (o : s'.2.2.2.2.2.2.2 = s.2.2.2.2.2.2.2 ∨ s'.2.2.2.2.2.2.2 = hq_late 3 t s.2.2.2.2.2.2.2) : hgr_I V (t + 1) s' := by
  refine ⟨?_, fun q => ?_⟩
  · rcases o with o | o
    · rw [o]; exact h.1
    · rw [o]; exact hgr_la (by omega) h.1
  · rcases o with o | o
    · rw [o] at q
      exact ⟨by rw [e]; exact (h.2 q).1, fun _ => by rw [m], fun z => by omega⟩
    · rw [o] at q
      exact absurd q hgr_ln
theorem hgr_2 (h : hgr_I V t s) (e : s'.2.2.2.2.1 = s.2.2.2.2.1) (n : s.1 = 2) (n' : s'.1 = 3) (m : s'.2.2.2.2.2.1 = s.2.2.2.2.2.1) (o : s'.2.2.2.2.2.2.2 = hq_rng V 0 255 t s.2.2.2.2.2.2.2) : hgr_I V (t + 1) s' := by
  refine ⟨by rw [o]; exact hgr_ro h.1, fun q => ?_⟩
  rw [o] at q
  obtain ⟨a, b, c⟩ := hgr_rn q
  obtain ⟨h1, h2, h3⟩ := h.2 a
  have ht := h2 n
  refine ⟨by rw [e]; exact h1, fun z => by omega, fun _ => ?_⟩
  rw [m, ← ht]
  exact ⟨b, c⟩
theorem hgr_3 (h : hgr_I V t s) (e : s'.2.2.2.2.1 = s.2.2.2.2.1) (n : s.1 = 3) (n' : s'.1 = 4) (m : s'.2.2.2.2.2.1 = s.2.2.2.2.2.1) (o : s'.2.2.2.2.2.2.2 = hq_rng V 0 99 t s.2.2.2.2.2.2.2) : hgr_I V (t + 1) s' := by
  refine ⟨by rw [o]; exact hgr_ro h.1, fun q => ?_⟩
  rw [o] at q
  obtain ⟨h1, h2, h3⟩ := h.2 (hgr_rn q).1
  refine ⟨by rw [e]; exact h1, fun z => by omega, fun _ => ?_⟩
  rw [m]
  exact h3 (Or.inl n)
theorem hgr_4 (h : hgr_I V t s) (e : s'.2.2.2.2.1 = s.2.2.2.2.2.1 :: s.2.2.2.2.1) (n : s.1 = 4) (n' : s'.1 = 0) (o : s'.2.2.2.2.2.2.2 = s.2.2.2.2.2.2.2) : hgr_I V (t + 1) s' := by
  refine ⟨by rw [o]; exact h.1, fun q => ?_⟩
  rw [o] at q
  obtain ⟨h1, h2, h3⟩ := h.2 q
  refine ⟨fun u hu => ?_, fun z => by omega, fun z => by omega⟩
  rw [e] at hu
  rcases List.mem_cons.mp hu with rfl | hu
  · exact h3 (Or.inr n)
  · exact h1 u hu
theorem hgr_dl (h : hgr_I V t s) (hd : hq_dl K V E t s = .inl s') : hgr_I V (t + 1) s' := by
  unfold hq_dl at hd
  split at hd
  · split at hd
    · cases hd
    · split at hd
      · split at hd
        · obtain ⟨-, rfl⟩ := hq_go_inl hd
          exact hgr_k h rfl rfl (by dsimp only; omega)
        · cases hd
      · split at hd
        · split at hd
          · obtain ⟨-, rfl⟩ := hq_go_inl hd
            exact hgr_k h rfl rfl (by dsimp only; omega)
          · cases hd
        · split at hd
          · obtain ⟨-, rfl⟩ := hq_go_inl hd
            exact hgr_k h rfl rfl (by dsimp only; omega)
          · split at hd
            · obtain ⟨-, rfl⟩ := hq_go_inl hd
              exact hgr_k h rfl rfl (by dsimp only; omega)
            · split at hd
              · obtain ⟨-, rfl⟩ := hq_go_inl hd
                exact hgr_k h rfl rfl (by dsimp only; omega)
              · cases hd
  · obtain ⟨q, -, rfl⟩ := hq_must_inl hd
    refine hgr_1 h rfl rfl rfl ?_
    dsimp only
    split
    · exact Or.inr rfl
    · exact Or.inl rfl
  · obtain ⟨q, -, rfl⟩ := hq_must_inl hd
    exact hgr_2 h rfl rfl rfl rfl rfl
  · obtain ⟨q, -, rfl⟩ := hq_must_inl hd
    exact hgr_3 h rfl rfl rfl rfl rfl
  · obtain ⟨q, -, rfl⟩ := hq_must_inl hd
    exact hgr_4 h rfl rfl rfl rfl
  · obtain ⟨q, -, rfl⟩ := hq_must_inl hd
    exact hgr_r h rfl rfl (by dsimp only; omega)
  · obtain ⟨q, -, rfl⟩ := hq_must_inl hd
    exact hgr_r h rfl rfl (by dsimp only; omega)
  · obtain ⟨q, -, rfl⟩ := hq_must_inl hd
    exact hgr_k h rfl rfl (by dsimp only; omega)
  · obtain ⟨q, -, rfl⟩ := hq_must_inl hd
    exact hgr_r h rfl rfl (by dsimp only; omega)
  · obtain ⟨q, -, rfl⟩ := hq_must_inl hd
    exact hgr_k h rfl rfl (by dsimp only; omega)
  · obtain ⟨q, -, rfl⟩ := hq_must_inl hd
    exact hgr_r h rfl rfl (by dsimp only; omega)
  · obtain ⟨q, -, rfl⟩ := hq_must_inl hd
    exact hgr_k h rfl rfl (by dsimp only; omega)
  · obtain ⟨q, -, rfl⟩ := hq_must_inl hd
    exact hgr_k h rfl rfl (by dsimp only; omega)
  · split at hd
    · split at hd
      · obtain ⟨-, rfl⟩ := hq_go_inl hd
        exact hgr_k h rfl rfl (by dsimp only; omega)
      · cases hd
    · obtain ⟨q, e, p⟩ := hq_unit_inl hd
      exact hgr_k h (by rw [e]) (by rw [e]) (by omega)
  · obtain ⟨q, e, p⟩ := hq_unit_inl hd
    exact hgr_k h (by rw [e]) (by rw [e]) (by omega)
  · split at hd
    · obtain ⟨-, rfl⟩ := hq_go_inl hd
      exact hgr_k h rfl rfl (by dsimp only; omega)
    · split at hd
      · obtain ⟨q, e, p⟩ := hq_out_inl hd
        exact hgr_k h (by rw [e]) (by rw [e]) (by omega)
      · obtain ⟨q, -, rfl⟩ := hq_must_inl hd
        exact hgr_k h rfl rfl (by dsimp only; omega)
theorem hgr_q : ∀ {t : Nat} {s : hq_S}, hq_q K V E t = some s → hgr_I V t s
  | 0, s, h => by
    cases h
    refine ⟨fun c hc => ?_, fun _ => ⟨fun u hu => ?_, fun z => ?_, fun z => ?_⟩⟩
    · exact absurd (show (none : Option (Nat × Nat)) = some c from hc) (fun q => by cases q)
    · exact absurd (show u ∈ ([] : List Nat) from hu) (by simp)
    · exact absurd (show (0 : Nat) = 2 from z) (by decide)
    · exact absurd (show (0 : Nat) = 3 ∨ (0 : Nat) = 4 from z) (by decide)
  | t + 1, s, h => by
    have h' : (match hq_q K V E t with
      | none => none
      | some s => match hq_dl K V E t s with
        | .inl s' => some s'
        | .inr _ => none) = some s := h
    split at h'
    · cases h'
    next s1 hs1 =>
      split at h'
      next s2 hd =>
        cases h'
        exact hgr_dl (hgr_q hs1) hd
      · cases h'
theorem hgr_ok {S : Nat → Int} {y : Int} (h : hq_res K V S E 0 y) (a : hq_q K V E t = some s) (b : hq_dl K V E t s = .inr 0) : ∀ u, u ∈ s.2.2.2.2.1 → 0 ≤ V (u + 1) ∧ V (u + 1) ≤ 255 := by
  rcases h with ⟨t', k, h1, h2, h3, h4⟩ | ⟨t', s', h1, h2, h3⟩
  · exact absurd (hq_f_one K V E ⟨s, a, b⟩ h1).2.symm h2
  · obtain ⟨rfl, -⟩ := hq_f_one K V E ⟨s, a, b⟩ ⟨s', h1, h2⟩
    rw [a] at h1
    cases h1
    have I := hgr_q a
    rcases h3 with ⟨o, -, -⟩ | ⟨c, o, h5, -⟩
    · exact (I.2 o).1
    · have := I.1 c o
      exact False.elim (by omega)
end HGR
/-- both tell the same houses -/
theorem hg_hm {V : Nat → Int} {T sd : Nat} {A A' : hs_A} : ∀ {ns : List Nat}, hg_hs V T A ns → hm_hs V sd A' ns → (∀ u, u ∈ ns → 0 ≤ V (u + 1) ∧ V (u + 1) ≤ 255) → ∀ i, i < ns.length → (A.2.1 (T + 1) i = A'.2.1 377 (10 * sd + i) ∧ A.2.1 (T + 2) i = A'.2.1 378 (10 * sd + i)) ∧ 0 ≤ (A.2.1 (T + 1) i).toInt ∧ (A.2.1 (T + 1) i).toInt ≤ 255
  | [], _, _, _, i, hi => absurd hi (Nat.not_lt_zero i)
  | u :: r, h, h', hv, i, hi => by
    have hi' : i < r.length + 1 := hi
    by_cases q : i = r.length
    · subst q
      have hu := hv u List.mem_cons_self
      exact ⟨⟨Int32.toInt_inj.mp (h.1.trans h'.1.symm), Int32.toInt_inj.mp (h.2.1.trans h'.2.1.symm)⟩, by rw [h.1]; exact hu.1, by rw [h.1]; exact hu.2⟩
    · exact hg_hm h.2.2 h'.2.2 (fun w hw => hv w (List.mem_cons_of_mem _ hw)) i (by omega)
/-! A READING THAT WENT THROUGH -/
theorem hs_0and {x : Int32} : Int32.ofNat 0 &&& x = Int32.ofNat 0 := by
  apply Int32.toBitVec_inj.mp
  show 0#32 &&& x.toBitVec = 0#32
  exact BitVec.zero_and
theorem hCx.new {K V S : Nat → Int} {E : Nat → Nat → Bool} {T sd W : Nat} {N Br y y2 : Int} {A1 A2 Av : hs_A} (hV : hg_V K V) (hT : hTT T) (e3 : A2.2.2.2 0 3 = T + 1) (c40 : A1.1 40 2 = Int32.ofNat 0) (bg : hBg T A1 A1) (dq : hdQ K V E T A1) (w : uf_W W A1 A2) (g1 : hdG W = true) (g2 : hdLm 26 W = true) (g3 : Nat.testBit W (ug_o (ug_g 40) 2) = false) (h2 : hJ 0 N Br A2 A2) (rs : hq_res K V S E 0 y) (hs : hq_hs K V E (Av.2.1 376 sd).toInt y2) (sd1 : sd ≤ 1) (lv : (Av.1 367 18).toInt = (sd : Int)) (mr : hm_R K V E sd Av) (mb : hmBg sd Av) (kp : ∀ j, j < 73 → Av.2.1 395 j = Av.2.1 396 j) (u51 : (Av.1 367 51).toInt = 0) (h408 : ∀ s : Nat, (s : Int) < 3 → (Av.2.1 408 s).toInt = 0) (v : hs_vis A2 Av) : hCx A2 := by
  have w0 := uf_vis (hs_vis_sy v)
  have w0' := uf_vis v
  obtain ⟨t, s, a1, a2, dk1⟩ := dq
  obtain ⟨t', s', bb, zz, b1, b2, mM⟩ := mr
  obtain ⟨rfl, -⟩ := hq_f_one K V E ⟨s, a1, a2⟩ ⟨s', b1, b2⟩
  rw [a1] at b1
  cases b1
  have hr := hgr_ok rs a1 a2
  have dk2 := dk1.uf hT w g1
  have len10 : s.2.2.2.2.1.length ≤ 10 := (hq_q_inv a1).1.2.2.1
  have hlen := (hq_hs_one hs ⟨t, s, a1, a2, rfl, rfl⟩).1
  have e18 : A2.1 367 18 = Av.1 367 18 := w0.1 367 _ _ 18 rfl rfl (by decide +kernel)
  have cl : (A2.1 367 18).toNatClampNeg = sd := by
    have := hn_cn (j := A2.1 367 18) (by rw [e18]; omega)
    rw [e18] at this
    rw [e18]
    omega
  have vl2 : hVl (sd : Int) A2 := by
    have z := h2.2.2.2.1.2.2.2.1
    rw [e18, lv] at z
    exact z
  have rv : hrK sd (hg_q K V E t).1 Av := ⟨lv, sd1, vl2.mv (by omega) (hrK.lr sd1 w0' (by decide +kernel)), (hgw_q_iv hV a1).1.1, V, _, bb, zz, len10, mM, hlen⟩
  have r2 : hrK sd (hg_q K V E t).1 A2 := rv.uf w0 (by decide +kernel)
  obtain ⟨dk, zc, zc1, zc2, cM, cl4⟩ := dk2
  have e376 : A2.2.1 376 sd = Av.2.1 376 sd := w0.2.1 376 _ _ sd rfl (by omega) (by decide +kernel)
  have eH : hHn A2 = (s.2.2.2.2.1.length : Int) := by
    unfold hHn
    rw [cl, e376]
    exact hlen
  have e5 : ∀ k, k < 73 → A2.2.1 395 k = Av.2.1 396 k := fun k hk => (w0.2.1 395 _ _ k rfl hk (by decide +kernel)).trans (kp k hk)
  obtain ⟨m, m1, mw, m71, -⟩ := mb
  obtain rfl : m = s.2.2.2.2.1.length := by omega
  obtain ⟨mw1, mw2⟩ := mw
  have hp : hPg A2 (T + 3) := by
    have z := h2.2.2.2.1.2.1
    rw [e3] at z
    exact z
  have hD : hDb (hg_q K V E t).1 := ⟨fun h hh => by rw [← cM.2.2.1.1 h hh]; exact hp h hh, (hgd_q hV a1).2.1, (hgd_q hV a1).2.2⟩
  have h27 := hg_hm cM.2.2.2 mM.2.2 hr
  obtain ⟨⟨q1, q2, q3, q4, q5⟩, q6⟩ := bg
  obtain ⟨g26, g27⟩ := hdLm.get g2
  have f26 : ∀ k, k ∈ [6, 7, 8, 9, 10] → A2.1 26 k = A1.1 26 k := fun k hk => by
    have hk' : k = 6 ∨ k = 7 ∨ k = 8 ∨ k = 9 ∨ k = 10 := by simpa using hk
    rcases hk' with rfl | rfl | rfl | rfl | rfl <;> exact w.1 26 _ _ _ rfl rfl (g26 _ hk)
  have t4 := hdT4 w hT g1
  have z0 : ∀ k, k < 73 → ¬ k = 71 → (∀ i, i < s.2.2.2.2.1.length → ¬ k = i ∧ ¬ k = 10 + i ∧ ¬ k = 20 + i ∧ ¬ k = 50 + i) → A2.2.1 395 k = Int32.ofNat 0 := fun k hk h1 h3 => by
    rw [e5 k hk]
    exact Int32.toInt_inj.mp ((mw2 k hk h1 h3).trans hk_0.symm)
  have nn : hNw (s.2.2.2.2.1.length : Int) A2 := by
    refine ⟨⟨?_, ⟨?_, ?_, ?_⟩, ?_, fun h hh => ?_⟩, fun h hh => ?_, ?_, ?_⟩
    · rw [f26 6 (by decide), q1, ← t4]
      exact cl4
    · rw [f26 7 (by decide), q2, z0 70 (by omega) (by omega) (fun i hi => by omega)]
    · rw [f26 8 (by decide), q3, e5 71 (by omega)]
      exact Int32.toInt_inj.mp (hk_4294967295.trans m71.symm)
    · rw [f26 10 (by decide), q5, z0 72 (by omega) (by omega) (fun i hi => by omega)]
    · rw [f26 9 (by decide), q4, ← t4, ← cl4]
      exact hOnb.all (by omega) (by omega) rfl (fun j hj => by
        rw [e5 (50 + j) (by omega)]
        exact huI (n := 1) (mw1 j (by omega)).2.2.2 (by omega))
    · have hh' : h < s.2.2.2.2.1.length := by omega
      obtain ⟨⟨x1, x2, x3⟩, x4, x5, x6⟩ := q6 h (by omega)
      obtain ⟨y1, y2, y3, y4⟩ := mw1 h hh'
      obtain ⟨⟨p1, p2⟩, p3, p4⟩ := h27 h hh'
      have n1 : A2.2.1 (T + 1) h = A1.2.1 (T + 1) h ∧ A2.2.1 (T + 2) h = A1.2.1 (T + 2) h := by
        have gg := (hdG.get g1).2
        rcases hT with rfl | rfl
        · exact ⟨w.2.1 3 _ _ h rfl (by omega) (gg _ (by decide)), w.2.1 4 _ _ h rfl (by omega) (gg _ (by decide))⟩
        · exact ⟨w.2.1 12 _ _ h rfl (by omega) (gg _ (by decide)), w.2.1 13 _ _ h rfl (by omega) (gg _ (by decide))⟩
      refine ⟨⟨?_, ?_, ?_⟩, ?_, ?_, ?_⟩
      · rw [e5 h (by omega), y1, ← p1, n1.1, ← x1]
        exact w.2.1 27 _ _ h rfl (by omega) (g27 1 (by decide))
      · rw [e5 (10 + h) (by omega), y2, ← p2, n1.2, ← x2]
        exact w.2.1 28 _ _ h rfl (by omega) (g27 2 (by decide))
      · rw [z0 (40 + h) (by omega) (by omega) (fun i hi => by omega), ← x3]
        exact w.2.1 29 _ _ h rfl (by omega) (g27 3 (by decide))
      · rw [e5 (20 + h) (by omega), huI (n := h) y3 (by omega), ← x4]
        exact w.2.1 30 _ _ h rfl (by omega) (g27 4 (by decide))
      · rw [z0 (30 + h) (by omega) (by omega) (fun i hi => by omega), ← x5]
        exact w.2.1 31 _ _ h rfl (by omega) (g27 5 (by decide))
      · rw [z0 (60 + h) (by omega) (by omega) (fun i hi => by omega), ← x6]
        exact w.2.1 32 _ _ h rfl (by omega) (g27 6 (by decide))
    · have hh' : h < s.2.2.2.2.1.length := by omega
      obtain ⟨y1, y2, y3, y4⟩ := mw1 h hh'
      obtain ⟨⟨p1, p2⟩, p3, p4⟩ := h27 h hh'
      rw [z0 (40 + h) (by omega) (by omega) (fun i hi => by omega), z0 (30 + h) (by omega) (by omega) (fun i hi => by omega), z0 (60 + h) (by omega) (by omega) (fun i hi => by omega), e5 h (by omega), y1, ← p1, hk_0]
      exact ⟨⟨p3, p4⟩, ⟨by omega, by omega⟩, ⟨by omega, by omega⟩, by omega, hs_0and⟩
    · rw [z0 70 (by omega) (by omega) (fun i hi => by omega), hk_0]
      exact Int.le_refl 0
    · rw [e5 71 (by omega)]
      exact Or.inl m71
  have c402 : A2.1 40 2 = Int32.ofNat 0 := (w.1 40 _ _ 2 rfl rfl g3).trans c40
  have u512 : A2.1 367 51 = Int32.ofNat 0 := Int32.toInt_inj.mp ((congrArg Int32.toInt (w0.1 367 _ _ 51 rfl rfl (by decide +kernel))).trans (u51.trans hk_0.symm))
  unfold hCx
  rw [eH]
  refine ⟨nn, ⟨by rw [c402, u512], fun i hi => ?_⟩, fun q hq hb => ?_, (hg_q K V E t).1, fun T' hT' => ?_, ?_, hD⟩
  · rw [c402, hk_0] at hi
    exact False.elim (by omega)
  · rw [w0.2.1 408 _ _ q rfl hq (by decide +kernel)] at hb
    exact absurd (h408 q (by omega)) hb
  · obtain rfl : T' = T := by omega
    exact hdKv.k ⟨dk, zc, zc1, zc2, cM, cl4⟩
  · rw [cl]
    exact r2
/-! A READING THAT FAILED -/
def hCk (A A1 : hs_A) : Prop := (∀ i k, 26 ≤ i → A1.1 i k = A.1 i k) ∧ (∀ i, 26 ≤ i → ∀ j, A1.2.1 i j = A.2.1 i j) ∧ ∀ D T, A1.2.2.2 0 3 = T + 1 → (∀ T', A.2.2.2 0 3 = T' + 1 → hdK T' D A) → hdK T D A1
theorem hdK.eq {T : Nat} {D : hg_D} {A A1 : hs_A} (h : hdK T D A) (e : ∀ i k, T ≤ i → i ≤ T + 8 → A1.1 i k = A.1 i k) (f : ∀ i, T ≤ i → i ≤ T + 8 → ∀ j, A1.2.1 i j = A.2.1 i j) : hdK T D A1 := by
  obtain ⟨h1, V, ns, zz, h2, h3, h4, h5⟩ := h
  exact ⟨h1, V, ns, zz, h2, h3, h4.mv (fun i k a b _ => e i k a b) (fun i a b => funext (f i a (by omega))), by rw [e T 4 (by omega) (by omega)]; exact h5⟩
theorem hOT.vis {s : Nat} {A A' : hs_A} (hs : s ≤ 1) (w : uf_W 0 A A') : hOT s A A' := fun c j h => by
  by_cases q : c = 379
  · subst q
    have hj : j = s := by
      rcases h with ⟨-, h⟩ | ⟨h, -⟩ | ⟨h, -⟩
      · exact h
      · exact absurd h (by decide)
      · exact absurd h (by decide)
    exact w.2.1 379 _ _ j rfl (by omega) (by decide +kernel)
  · exact hrK.ot hs w (by decide +kernel) c j q h
theorem hCx.old {W1 : Nat} {Q : Nat} {Bn Br Bn2 Br2 : Int} {A0 A A1 A2 : hs_A} (h : hCx A) (hA : hJ Q Bn Br A0 A) (k : hCk A A1) (w1 : uf_W W1 A A1) (c1 : hrM W1 = true) (H1 : uf_H A1) (p1 : uf_W uMf A1 A2) (o : hOT (A.1 367 18).toNatClampNeg A1 A2) (em : hEm A1 A2) (h2 : hJ 0 Bn2 Br2 A2 A2) : hCx A2 := by
  obtain ⟨n0, p0, s0, D, cK, cR, cD⟩ := h
  have lH := (hHn.le hA).2
  have b1 := hbok.get (hA.1.1 40 1) rfl
  have b2 := hbok.get (hA.1.1 40 2) rfl
  have e1 : A1.1 367 18 = A.1 367 18 := k.1 367 18 (by omega)
  have e2 : A2.1 367 18 = A1.1 367 18 := p1.1 367 _ _ 18 rfl rfl (by decide +kernel)
  have r1 : hrK (A.1 367 18).toNatClampNeg D A1 := cR.uf w1 c1
  have r2 : hrK (A.1 367 18).toNatClampNeg D A2 := by
    obtain ⟨q1, q2, q3, q4, V, ns, bb, zz, q5, q6, q7⟩ := r1
    have z2 := h2.2.2.2.1.2.2.2.1
    rw [e2, q1] at z2
    refine ⟨by rw [e2]; exact q1, q2, z2, q4, V, ns, bb, zz, q5, q6.lv q5 q3 (fun c j hh => em c j (by rw [q1]; exact hh)) o, ?_⟩
    rw [o 376 _ (Or.inl ⟨Or.inl rfl, rfl⟩)]
    exact q7
  have eH : hHn A2 = hHn A := by
    unfold hHn
    rw [e2, e1, o 376 _ (Or.inl ⟨Or.inl rfl, rfl⟩), k.2.1 376 (by omega)]
  have n1 : hNw (hHn A) A1 := hLo.mv n0 lH (fun f _ _ => k.1 26 f (by omega)) (fun j _ _ x _ => k.2.1 _ (by omega) x) (fun x hx => k.2.1 395 (by omega) x)
  have pp : hPs (hHn A) A1 := by
    refine ⟨by rw [k.1 40 2 (by omega), k.1 367 51 (by omega)]; exact p0.1, fun i hi => ?_⟩
    rw [k.1 40 1 (by omega)]
    rw [k.1 40 2 (by omega)] at hi
    exact (p0.2 i hi).mv lH (fun f _ _ => k.1 _ f (by omega)) (fun j _ _ x _ => k.2.1 _ (by omega) x) (fun x hx => k.2.1 399 (by omega) _)
  have ss : hSl (hHn A) A1 := fun q hq hb => by
    rw [k.2.1 408 (by omega)] at hb
    exact (s0 q hq hb).mv lH (fun f _ _ => k.1 _ f (by omega)) (fun j _ _ x _ => k.2.1 _ (by omega) x) (fun x hx => k.2.1 409 (by omega) _)
  unfold hCx
  rw [eH]
  refine ⟨n1.uf lH p1 (by decide +kernel) (by decide +kernel), hPs.uf pp lH p1 (hPk.uf p1 (by decide +kernel)) (by rw [k.1 40 1 (by omega)]; exact b1) (by rw [k.1 40 2 (by omega)]; exact b2.2) (by decide +kernel) (by decide +kernel), ss.uf lH p1 (by decide +kernel) (by decide +kernel) (by decide +kernel) (by decide +kernel) (by decide +kernel), D, fun T hT => ?_, by rw [e2, e1]; exact r2, cD⟩
  rw [p1.2.2.2 0 _ _ 3 rfl rfl (by decide +kernel)] at hT
  refine (k.2.2 D T hT cK).uf ?_ p1 (by decide +kernel)
  rcases H1.1 with e | e
  · obtain rfl : T = 2 := by omega
    exact Or.inl rfl
  · obtain rfl : T = 11 := by omega
    exact Or.inr rfl
