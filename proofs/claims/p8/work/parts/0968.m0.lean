/-! WHAT CLASS AND REFERENCE SHARE (5): what is told; who lives where, which sets are on, the hour; the past, the slots -/
def hHn (A : hs_A) : Int := (A.2.1 376 (A.1 367 18).toNatClampNeg).toInt
def hDb (D : hg_D) : Prop := (∀ t, t < 24 → 0 ≤ D.1 t ∧ D.1 t ≤ 255) ∧ (0 ≤ D.2.1 ∧ D.2.1 ≤ 10000) ∧ (0 ≤ D.2.2.1 ∧ D.2.2.1 ≤ 10000)
def hCo (D : hg_D) (A : hs_A) : Prop := (∀ T, A.2.2.2 0 3 = T + 1 → hdK T D A) ∧ hrK (A.1 367 18).toNatClampNeg D A ∧ hDb D
def hCx (A : hs_A) : Prop := hNw (hHn A) A ∧ hPs (hHn A) A ∧ hSl (hHn A) A ∧ ∃ D, hCo D A
def hIC (A : hs_A) : Prop := hIB A ∧ hCx A
theorem hCo.uf {W : Nat} {D : hg_D} {A A' : hs_A} (h : hCo D A) (hH : uf_H A) (w : uf_W W A A') (e1 : hdG W = true) (e2 : hrM W = true) (e3 : Nat.testBit W (ug_o (ug_g 0) 3) = false) : hCo D A' := by
  obtain ⟨h1, h2, h3⟩ := h
  refine ⟨fun T hT => ?_, ?_, h3⟩
  · rw [w.2.2.2 0 _ _ 3 rfl rfl e3] at hT
    refine (h1 T hT).uf ?_ w e1
    rcases hH.1 with e | e
    · obtain rfl : T = 2 := by omega
      exact Or.inl rfl
    · obtain rfl : T = 11 := by omega
      exact Or.inr rfl
  · rw [w.1 367 _ _ 18 rfl rfl (hrM.get e2).1]
    exact h2.uf w e2
theorem hHn.le {Q : Nat} {Bn Br : Int} {A0 A : hs_A} (h : hJ Q Bn Br A0 A) : 0 ≤ hHn A ∧ hHn A ≤ 10 := by
  have b := hbok.get (h.1.2.1 376 (A.1 367 18).toNatClampNeg) rfl
  exact b
theorem hHn.uf {W : Nat} {A A' : hs_A} (w : uf_W W A A') (l : (A.1 367 18).toNatClampNeg < 2) (c3 : Nat.testBit W (ug_g 376) = false) (c4 : Nat.testBit W (ug_o (ug_g 367) 18) = false) : hHn A' = hHn A := hHs.r w l c3 c4
theorem hLo.uf {W L : Nat} {g g' : Nat → Int32} {H : Int} {A A' : hs_A} (h : hLo L g H A) (hH : H ≤ 10) (hL : hLL L) (w : uf_W W A A') (e : hdLm L W = true) (eg : ∀ k : Nat, k < 73 → g' k = g k) : hLo L g' H A' := by
  obtain ⟨g1, g2⟩ := hdLm.get e
  refine h.mv hH (fun k a b => ?_) (fun j a b x hx => ?_) eg
  · have hk : k = 6 ∨ k = 7 ∨ k = 8 ∨ k = 9 ∨ k = 10 := by omega
    rcases hk with rfl | rfl | rfl | rfl | rfl <;> exact w.1 _ _ _ _ (hsL hL) rfl (g1 _ (by decide))
  · exact w.2.1 _ _ _ x (hsLa hL a b) hx (g2 _ (by
      have hj : j = 1 ∨ j = 2 ∨ j = 3 ∨ j = 4 ∨ j = 5 ∨ j = 6 := by omega
      rcases hj with rfl | rfl | rfl | rfl | rfl | rfl <;> decide))
theorem hNw.uf {W : Nat} {H : Int} {A A' : hs_A} (h : hNw H A) (hH : H ≤ 10) (w : uf_W W A A') (e : hdLm 26 W = true) (c : Nat.testBit W (ug_g 395) = false) : hNw H A' := hLo.uf h hH hLL_26 w e (fun k hk => w.2.1 395 _ _ k rfl hk c)
theorem hPs.uf {W : Nat} {H : Int} {A A' : hs_A} (h : hPs H A) (hH : H ≤ 10) (w : uf_W W A A') (k : hPk A A') (b1 : 0 ≤ (A.1 40 1).toInt ∧ (A.1 40 1).toInt ≤ 39) (b2 : (A.1 40 2).toInt ≤ 40) (d1 : Nat.testBit W (ug_g 399) = false) (d2 : Nat.testBit W (ug_o (ug_g 367) 51) = false) : hPs H A' := by
  refine ⟨by rw [k.2.2, w.1 367 _ _ 51 rfl rfl d2]; exact h.1, fun i hi => ?_⟩
  rw [k.2.1]
  rw [k.2.2] at hi
  have q := k.1 (((A.1 40 1).toInt + (i : Int)) % 40).toNat (by omega)
  exact (h.2 i hi).mv hH q.1 q.2 (fun k hk => w.2.1 399 _ _ _ rfl (by omega) d1)
theorem hLL_s : ∀ s, s < 3 → hLL (346 + 7 * s) := by
  intro s hs
  have q : s = 0 ∨ s = 1 ∨ s = 2 := by omega
  rcases q with rfl | rfl | rfl
  · show 346 ∈ hl_L
    decide
  · show 353 ∈ hl_L
    decide
  · show 360 ∈ hl_L
    decide
theorem hSl.uf {W : Nat} {H : Int} {A A' : hs_A} (h : hSl H A) (hH : H ≤ 10) (w : uf_W W A A') (e0 : hdLm 346 W = true) (e1 : hdLm 353 W = true) (e2 : hdLm 360 W = true) (c : Nat.testBit W (ug_g 408) = false) (d : Nat.testBit W (ug_g 409) = false) : hSl H A' := by
  intro s hs hb
  rw [w.2.1 408 _ _ s rfl hs c] at hb
  refine (h s hs hb).uf hH (hLL_s s hs) w ?_ (fun k hk => w.2.1 409 _ _ _ rfl (by omega) d)
  have q : s = 0 ∨ s = 1 ∨ s = 2 := by omega
  rcases q with rfl | rfl | rfl
  · exact e0
  · exact e1
  · exact e2
/-- a mask that bears nothing of what is shared -/
noncomputable def hCm (W : Nat) : Bool := hdG W && (hrM W && (!Nat.testBit W (ug_o (ug_g 0) 3) && (hdLm 26 W && (!Nat.testBit W (ug_g 395) && (!Nat.testBit W (ug_g 399) && (!Nat.testBit W (ug_o (ug_g 367) 51) && (hdLm 346 W && (hdLm 353 W && (hdLm 360 W && (!Nat.testBit W (ug_g 408) && (!Nat.testBit W (ug_g 409) && (!(Nat.testBit W (ug_o (ug_g 42) 6) || (Nat.testBit W (ug_o (ug_g 42) 7) || (Nat.testBit W (ug_o (ug_g 42) 8) || (Nat.testBit W (ug_o (ug_g 42) 9) || (Nat.testBit W (ug_o (ug_g 42) 10) || (Nat.testBit W (ug_g 43) || (Nat.testBit W (ug_g 44) || (Nat.testBit W (ug_g 45) || (Nat.testBit W (ug_g 46) || (Nat.testBit W (ug_g 47) || (Nat.testBit W (ug_g 48) || (Nat.testBit W (ug_o (ug_g 40) 1) || (Nat.testBit W (ug_o (ug_g 40) 2))))))))))))))))))))))))))
theorem hCx.uf {W : Nat} {A A' : hs_A} (h : hCx A) (uH : uf_H A) (l : (A.1 367 18).toNatClampNeg < 2) (lH : hHn A ≤ 10) (b1 : 0 ≤ (A.1 40 1).toInt ∧ (A.1 40 1).toInt ≤ 39) (b2 : (A.1 40 2).toInt ≤ 40) (w : uf_W W A A') (e : hCm W = true) : hCx A' ∧ (A'.1 367 18).toNatClampNeg < 2 ∧ hHn A' ≤ 10 ∧ (0 ≤ (A'.1 40 1).toInt ∧ (A'.1 40 1).toInt ≤ 39) ∧ (A'.1 40 2).toInt ≤ 40 := by
  unfold hCm at e
  simp only [Bool.and_eq_true] at e
  obtain ⟨e1, e2, e3, e4, e5, e6, e7, e8, e9, e10, e11, e12, e13⟩ := e
  have k := hPk.uf w (by rw [← Bool.not_eq_true']; exact e13)
  simp only [Bool.not_eq_true'] at e3 e5 e6 e7 e11 e12
  obtain ⟨h1, h2, h3, D, h4⟩ := h
  obtain ⟨m1, m2⟩ := hrM.get e2
  have eH := hHn.uf w l (m2 376 (by decide)) m1
  refine ⟨?_, by rw [w.1 367 _ _ 18 rfl rfl m1]; exact l, by rw [eH]; exact lH, by rw [k.2.1]; exact b1, by rw [k.2.2]; exact b2⟩
  unfold hCx
  rw [eH]
  exact ⟨h1.uf lH w e4 e5, h2.uf lH w k b1 b2 e6 e7, h3.uf lH w e8 e9 e10 e11 e12, D, h4.uf uH w e1 e2 e3⟩
theorem hCx.two {W1 W2 : Nat} {Q : Nat} {Bn Br : Int} {A0 A A1 A2 : hs_A} (h : hCx A) (hA : hJ Q Bn Br A0 A) (uH : uf_H A) (H1 : uf_H A1) (w1 : uf_W W1 A A1) (w2 : uf_W W2 A1 A2) (e1 : hCm W1 = true) (e2 : hCm W2 = true) : hCx A2 := by
  have b1 := hbok.get (hA.1.1 40 1) rfl
  have b2 := hbok.get (hA.1.1 40 2) rfl
  obtain ⟨q, a, b, c, d⟩ := h.uf uH (uf_lv hA) (hHn.le hA).2 b1 b2.2 w1 e1
  exact (q.uf H1 a b c d w2 e2).1
/-! A ROW THAT CHANGES -/
theorem hLo.turn {g g' : Nat → Int32} {H : Int} {A A' : hs_A} (h : hLo 26 g H A) {a b : Int32} (hH : H ≤ 10) (h0 : 0 ≤ a.toInt) (h1 : a.toInt < H) (hb0 : 0 ≤ b.toInt) (hb1 : b.toInt ≤ 1) (hne : ¬ (hBit (A.1 26 9) a = 0 ∧ b.toInt = 0 ∨ ¬ hBit (A.1 26 9) a = 0 ∧ b.toInt = 1)) (hx : A'.1 26 9 = A.1 26 9 ^^^ (Int32.ofNat 1 <<< (a &&& 31))) (e : ∀ k, 6 ≤ k → k ≤ 10 → ¬ k = 9 → A'.1 26 k = A.1 26 k) (f : ∀ j, 1 ≤ j → j ≤ 6 → ∀ x : Nat, x < 10 → A'.2.1 (26 + j) x = A.2.1 (26 + j) x) (hg : ∀ k : Nat, k < 73 → g' k = if k = 50 + a.toNatClampNeg then b else g k) : hLo 26 g' H A' := by
  have c := hn_cn (j := a) h0
  have o : ∀ k : Nat, k < 73 → ¬ (50 ≤ k ∧ k < 60) → g' k = g k := fun k hk q => by rw [hg k hk, if_neg (by omega)]
  obtain ⟨⟨l1, ⟨l2, l3, l4⟩, l5, l6⟩, u1, u2, u3⟩ := h
  refine ⟨⟨by rw [e 6 (by omega) (by omega) (by omega)]; exact l1, ⟨by rw [e 7 (by omega) (by omega) (by omega), o 70 (by omega) (by omega)]; exact l2, by rw [e 8 (by omega) (by omega) (by omega), o 71 (by omega) (by omega)]; exact l3, by rw [e 10 (by omega) (by omega) (by omega), o 72 (by omega) (by omega)]; exact l4⟩, l5.turn hH h0 h1 hb0 hb1 hne hx hg, fun k hk => ?_⟩, fun k hk => ?_, by rw [o 70 (by omega) (by omega)]; exact u2, by rw [o 71 (by omega) (by omega)]; exact u3⟩
  · obtain ⟨⟨a1, a2, a3⟩, a4, a5, a6⟩ := l6 k hk
    exact ⟨⟨by rw [f 1 (by omega) (by omega) k (by omega), o k (by omega) (by omega)]; exact a1, by rw [f 2 (by omega) (by omega) k (by omega), o (10 + k) (by omega) (by omega)]; exact a2, by rw [f 3 (by omega) (by omega) k (by omega), o (40 + k) (by omega) (by omega)]; exact a3⟩, by rw [f 4 (by omega) (by omega) k (by omega), o (20 + k) (by omega) (by omega)]; exact a4, by rw [f 5 (by omega) (by omega) k (by omega), o (30 + k) (by omega) (by omega)]; exact a5, by rw [f 6 (by omega) (by omega) k (by omega), o (60 + k) (by omega) (by omega)]; exact a6⟩
  · rw [o k (by omega) (by omega), o (40 + k) (by omega) (by omega), o (30 + k) (by omega) (by omega), o (60 + k) (by omega) (by omega)]
    exact u1 k hk
theorem hLo.snd {g g' : Nat → Int32} {H : Int} {A A' : hs_A} (h : hLo 26 g H A) {a : Int32} (hH : H ≤ 10) (h0 : 0 ≤ a.toInt) (h1 : a.toInt ≤ 255) (hx : A'.1 26 8 = a) (e : ∀ k, 6 ≤ k → k ≤ 10 → ¬ k = 8 → A'.1 26 k = A.1 26 k) (f : ∀ j, 1 ≤ j → j ≤ 6 → ∀ x : Nat, x < 10 → A'.2.1 (26 + j) x = A.2.1 (26 + j) x) (hg : ∀ k : Nat, k < 73 → g' k = if k = 71 then a else g k) : hLo 26 g' H A' := by
  have o : ∀ k : Nat, k < 73 → ¬ k = 71 → g' k = g k := fun k hk q => by rw [hg k hk, if_neg q]
  have o1 : g' 71 = a := by rw [hg 71 (by omega), if_pos rfl]
  obtain ⟨⟨l1, ⟨l2, l3, l4⟩, ⟨n, l5, l7, l8⟩, l6⟩, u1, u2, u3⟩ := h
  refine ⟨⟨by rw [e 6 (by omega) (by omega) (by omega)]; exact l1, ⟨by rw [e 7 (by omega) (by omega) (by omega), o 70 (by omega) (by omega)]; exact l2, by rw [hx, o1], by rw [e 10 (by omega) (by omega) (by omega), o 72 (by omega) (by omega)]; exact l4⟩, ⟨n, l5, by rw [e 9 (by omega) (by omega) (by omega)]; exact l7, fun k hk => by rw [o (50 + k) (by omega) (by omega)]; exact l8 k hk⟩, fun k hk => ?_⟩, fun k hk => ?_, by rw [o 70 (by omega) (by omega)]; exact u2, by rw [o1]; exact Or.inr ⟨h0, h1⟩⟩
  · obtain ⟨⟨a1, a2, a3⟩, a4, a5, a6⟩ := l6 k hk
    exact ⟨⟨by rw [f 1 (by omega) (by omega) k (by omega), o k (by omega) (by omega)]; exact a1, by rw [f 2 (by omega) (by omega) k (by omega), o (10 + k) (by omega) (by omega)]; exact a2, by rw [f 3 (by omega) (by omega) k (by omega), o (40 + k) (by omega) (by omega)]; exact a3⟩, by rw [f 4 (by omega) (by omega) k (by omega), o (20 + k) (by omega) (by omega)]; exact a4, by rw [f 5 (by omega) (by omega) k (by omega), o (30 + k) (by omega) (by omega)]; exact a5, by rw [f 6 (by omega) (by omega) k (by omega), o (60 + k) (by omega) (by omega)]; exact a6⟩
  · rw [o k (by omega) (by omega), o (40 + k) (by omega) (by omega), o (30 + k) (by omega) (by omega), o (60 + k) (by omega) (by omega)]
    exact u1 k hk
theorem hLo.car {g g' : Nat → Int32} {H : Int} {A A' : hs_A} (h : hLo 26 g H A) {a b : Nat} (hH : H ≤ 10) (ha : (a : Int) < H) (hb : (b : Int) < H) (x1 : A'.2.1 31 b = A.2.1 31 a) (x2 : A'.2.1 29 b = A.2.1 29 b ||| (A.2.1 31 a &&& A.2.1 27 b)) (e : ∀ k, 6 ≤ k → k ≤ 10 → A'.1 26 k = A.1 26 k) (f : ∀ j, 1 ≤ j → j ≤ 6 → ∀ x : Nat, x < 10 → (¬ j = 3 ∧ ¬ j = 5 ∨ ¬ x = b) → A'.2.1 (26 + j) x = A.2.1 (26 + j) x) (hg : ∀ k : Nat, k < 73 → g' k = if k = 30 + b then g (30 + a) else if k = 40 + b then g (40 + b) ||| (g (30 + a) &&& g b) else g k) : hLo 26 g' H A' := by
  have o : ∀ k : Nat, k < 73 → ¬ k = 30 + b → ¬ k = 40 + b → g' k = g k := fun k hk q r => by rw [hg k hk, if_neg q, if_neg r]
  have o3 : g' (30 + b) = g (30 + a) := by rw [hg _ (by omega), if_pos rfl]
  have o4 : g' (40 + b) = g (40 + b) ||| (g (30 + a) &&& g b) := by rw [hg _ (by omega), if_neg (by omega), if_pos rfl]
  obtain ⟨⟨l1, ⟨l2, l3, l4⟩, ⟨n, l5, l7, l8⟩, l6⟩, u1, u2, u3⟩ := h
  refine ⟨⟨by rw [e 6 (by omega) (by omega)]; exact l1, ⟨by rw [e 7 (by omega) (by omega), o 70 (by omega) (by omega) (by omega)]; exact l2, by rw [e 8 (by omega) (by omega), o 71 (by omega) (by omega) (by omega)]; exact l3, by rw [e 10 (by omega) (by omega), o 72 (by omega) (by omega) (by omega)]; exact l4⟩, ⟨n, l5, by rw [e 9 (by omega) (by omega)]; exact l7, fun k hk => by rw [o (50 + k) (by omega) (by omega) (by omega)]; exact l8 k hk⟩, fun k hk => ?_⟩, fun k hk => ?_, by rw [o 70 (by omega) (by omega) (by omega)]; exact u2, by rw [o 71 (by omega) (by omega) (by omega)]; exact u3⟩
  · obtain ⟨⟨a1, a2, a3⟩, a4, a5, a6⟩ := l6 k hk
    obtain ⟨⟨b1, b2, b3⟩, b4, b5, b6⟩ := l6 b hb
    obtain ⟨⟨c1, c2, c3⟩, c4, c5, c6⟩ := l6 a ha
    refine ⟨⟨by rw [f 1 (by omega) (by omega) k (by omega) (by omega), o k (by omega) (by omega) (by omega)]; exact a1, by rw [f 2 (by omega) (by omega) k (by omega) (by omega), o (10 + k) (by omega) (by omega) (by omega)]; exact a2, ?_⟩, by rw [f 4 (by omega) (by omega) k (by omega) (by omega), o (20 + k) (by omega) (by omega) (by omega)]; exact a4, ?_, by rw [f 6 (by omega) (by omega) k (by omega) (by omega), o (60 + k) (by omega) (by omega) (by omega)]; exact a6⟩
    · by_cases q : k = b
      · subst q
        rw [o4, ← b3, ← c5, ← b1]
        exact x2
      · rw [f 3 (by omega) (by omega) k (by omega) (Or.inr q), o (40 + k) (by omega) (by omega) (by omega)]
        exact a3
    · by_cases q : k = b
      · subst q
        rw [o3, ← c5]
        exact x1
      · rw [f 5 (by omega) (by omega) k (by omega) (Or.inr q), o (30 + k) (by omega) (by omega) (by omega)]
        exact a5
  · obtain ⟨p1, p2, p3, p4⟩ := u1 k hk
    obtain ⟨r1, r2, r3, r4⟩ := u1 a (by omega)
    obtain ⟨s1, s2, s3, s4⟩ := u1 b (by omega)
    have n1 := hn_and (x := g (30 + a)) (y := g b) s1.1
    rw [o k (by omega) (by omega) (by omega), o (60 + k) (by omega) (by omega) (by omega)]
    refine ⟨p1, ?_, ?_, p4.1, ?_⟩
    · by_cases q : k = b
      · subst q
        rw [o4]
        exact hn_or s2.1 s2.2 n1.1 (by omega)
      · rw [o (40 + k) (by omega) (by omega) (by omega)]
        exact p2
    · by_cases q : k = b
      · subst q
        rw [o3]
        exact r3
      · rw [o (30 + k) (by omega) (by omega) (by omega)]
        exact p3
    · by_cases q : k = b
      · subst q
        rw [o4]
        exact hs_sub s4.2
      · rw [o (40 + k) (by omega) (by omega) (by omega)]
        exact p4.2
theorem hLo.swp {g g' : Nat → Int32} {H : Int} {A A' : hs_A} (h : hLo 26 g H A) {a b : Nat} (hH : H ≤ 10) (ha : (a : Int) < H) (hb : (b : Int) < H) (e : ∀ k, 6 ≤ k → k ≤ 10 → A'.1 26 k = A.1 26 k) (f : ∀ j, 1 ≤ j → j ≤ 4 → ∀ x : Nat, x < 10 → A'.2.1 (26 + j) x = if x = a then A.2.1 (26 + j) b else if x = b then A.2.1 (26 + j) a else A.2.1 (26 + j) x) (f5 : ∀ x : Nat, x < 10 → A'.2.1 31 x = A.2.1 31 x ∧ A'.2.1 32 x = A.2.1 32 x) (hg : ∀ k : Nat, k < 73 → g' k = hswr a b g k) : hLo 26 g' H A' := by
  have o : ∀ k : Nat, k < 73 → (k / 10 = 3 ∨ 5 ≤ k / 10) → g' k = g k := fun k hk q => by
    rw [hg k hk]
    unfold hswr
    rw [if_pos q]
  have s : ∀ m k : Nat, m < 5 → ¬ m = 3 → k < 10 → g' (10 * m + k) = if k = a then g (10 * m + b) else if k = b then g (10 * m + a) else g (10 * m + k) := fun m k hm h3 hk => by
    rw [hg _ (by omega)]
    unfold hswr
    rw [if_neg (by omega), show (10 * m + k) % 10 = k by omega, show (10 * m + k) / 10 * 10 = 10 * m by omega]
  have s0 : ∀ k : Nat, k < 10 → g' k = if k = a then g b else if k = b then g a else g k := fun k hk => by
    have w := s 0 k (by omega) (by omega) hk
    rw [show 10 * 0 + k = k by omega, show 10 * 0 + a = a by omega, show 10 * 0 + b = b by omega] at w
    exact w
  have s1 : ∀ k : Nat, k < 10 → g' (10 + k) = if k = a then g (10 + b) else if k = b then g (10 + a) else g (10 + k) := fun k hk => by
    have w := s 1 k (by omega) (by omega) hk
    rw [show 10 * 1 + k = 10 + k by omega, show 10 * 1 + a = 10 + a by omega, show 10 * 1 + b = 10 + b by omega] at w
    exact w
  have s2 : ∀ k : Nat, k < 10 → g' (20 + k) = if k = a then g (20 + b) else if k = b then g (20 + a) else g (20 + k) := fun k hk => by
    have w := s 2 k (by omega) (by omega) hk
    rw [show 10 * 2 + k = 20 + k by omega, show 10 * 2 + a = 20 + a by omega, show 10 * 2 + b = 20 + b by omega] at w
    exact w
  have s4 : ∀ k : Nat, k < 10 → g' (40 + k) = if k = a then g (40 + b) else if k = b then g (40 + a) else g (40 + k) := fun k hk => by
    have w := s 4 k (by omega) (by omega) hk
    rw [show 10 * 4 + k = 40 + k by omega, show 10 * 4 + a = 40 + a by omega, show 10 * 4 + b = 40 + b by omega] at w
    exact w
  obtain ⟨⟨l1, ⟨l2, l3, l4⟩, ⟨n, l5, l7, l8⟩, l6⟩, u1, u2, u3⟩ := h
  refine ⟨⟨by rw [e 6 (by omega) (by omega)]; exact l1, ⟨by rw [e 7 (by omega) (by omega), o 70 (by omega) (by omega)]; exact l2, by rw [e 8 (by omega) (by omega), o 71 (by omega) (by omega)]; exact l3, by rw [e 10 (by omega) (by omega), o 72 (by omega) (by omega)]; exact l4⟩, ⟨n, l5, by rw [e 9 (by omega) (by omega)]; exact l7, fun k hk => by rw [o (50 + k) (by omega) (by omega)]; exact l8 k hk⟩, fun k hk => ?_⟩, fun k hk => ?_, by rw [o 70 (by omega) (by omega)]; exact u2, by rw [o 71 (by omega) (by omega)]; exact u3⟩
  · obtain ⟨⟨a1, a2, a3⟩, a4, a5, a6⟩ := l6 k hk
    obtain ⟨⟨b1, b2, b3⟩, b4, b5, b6⟩ := l6 b hb
    obtain ⟨⟨c1, c2, c3⟩, c4, c5, c6⟩ := l6 a ha
    obtain ⟨f1, f2⟩ := f5 k (by omega)
    refine ⟨⟨?_, ?_, ?_⟩, ?_, by rw [f1, o (30 + k) (by omega) (by omega)]; exact a5, by rw [f2, o (60 + k) (by omega) (by omega)]; exact a6⟩
    · rw [f 1 (by omega) (by omega) k (by omega), s0 k (by omega), a1, b1, c1]
    · rw [f 2 (by omega) (by omega) k (by omega), s1 k (by omega), a2, b2, c2]
    · rw [f 3 (by omega) (by omega) k (by omega), s4 k (by omega), a3, b3, c3]
    · rw [f 4 (by omega) (by omega) k (by omega), s2 k (by omega), a4, b4, c4]
  · obtain ⟨p1, p2, p3, p4⟩ := u1 k hk
    obtain ⟨q1, q2, q3, q4⟩ := u1 a (by omega)
    obtain ⟨r1, r2, r3, r4⟩ := u1 b (by omega)
    rw [o (30 + k) (by omega) (by omega), o (60 + k) (by omega) (by omega), s0 k (by omega), s4 k (by omega)]
    refine ⟨?_, ?_, p3, p4.1, ?_⟩
    · split
      · exact r1
      · split
        · exact q1
        · exact p1
    · split
      · exact r2
      · split
        · exact q2
        · exact p2
    · by_cases c1 : k = a
      · rw [if_pos c1, if_pos c1]
        exact r4.2
      · rw [if_neg c1, if_neg c1]
        by_cases c2 : k = b
        · rw [if_pos c2, if_pos c2]
          exact q4.2
        · rw [if_neg c2, if_neg c2]
          exact p4.2
theorem huY_cg {D : hg_D} {n : Nat} {b : Bool} {s : Int32} {r1 r2 : Nat → Int32} (h9 : n ≤ 10) (e : ∀ j, j < 73 → r1 j = r2 j) : ∀ m : Nat, ∀ j, j < 73 → huY D n b s m r1 j = huY D n b s m r2 j
  | 0 => e
  | m + 1 => fun j hj => huR_cg h9 (huY_cg h9 e m) j hj
theorem hLw.cg {L : Nat} {g g' : Nat → Int32} {H : Int} {A : hs_A} (h : hLw L g H A) (hH : H ≤ 10) (eg : ∀ k : Nat, k < 73 → g' k = g k) : hLw L g' H A := h.mv hH (fun _ _ _ => rfl) (fun _ _ _ _ _ => rfl) eg
