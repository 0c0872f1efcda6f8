/-! WHAT THE LAWS TELL, WHAT PASSES: plain functions, all of Int32; g is a row of 73 numbers as the reference keeps it -/
/-- how many of the lowest k bits are there -/
def huB : Nat → Int32 → Int32
  | 0, _ => Int32.ofNat 0
  | k + 1, x => huB k x + ((x >>> (Int32.ofNat k &&& 31)) &&& Int32.ofNat 1)
def hub (x : Int32) (p : Nat) : Bool := x.toBitVec.getLsbD p
/-- what a law looks at, but for part and parts -/
def huX (H : Int32) (g : Nat → Int32) (h t : Int32) : Nat → Int32 := fun i =>
  if i = 0 then h else if i = 1 then t - t / Int32.ofNat 24 * Int32.ofNat 24 else if i = 2 then t / Int32.ofNat 24
  else if i = 4 then huB 10 (g h.toNatClampNeg) else if i = 5 then g (10 + h.toNatClampNeg) else if i = 7 then H
  else if i = 8 then huB 10 (g (40 + h.toNatClampNeg)) else Int32.ofNat 0
/-- what law q tells -/
def huL (D : hg_D) (q : Nat) (x : Nat → Int32) : Int32 := hgw_law x (D.2.2.2 q).1 (D.2.2.2 q).2
/-- held to 0 .. m -/
def huC (m : Nat) (v : Int32) : Int32 := if v.toInt < 0 then Int32.ofNat 0 else if (m : Int) < v.toInt then Int32.ofNat m else v
def huT (D : hg_D) (x : Nat → Int32) (q : Int32) : Int32 := huC 7 (huL D 1 (hgx x (Int32.ofNat 0) q))
def huU (D : hg_D) (x : Nat → Int32) : Int32 := huC 255 (huL D 2 (hgx x (Int32.ofNat 0) (Int32.ofNat 0)))
def huE (D : hg_D) (x : Nat → Int32) : Int32 := huC 100 (huL D 3 (hgx x (Int32.ofNat 0) (Int32.ofNat 0)))
def huK (D : hg_D) (x : Nat → Int32) (q : Int32) (p : Nat) : Bool := decide (0 < (huL D 0 (hgx x (Int32.ofNat p) q)).toInt)
/-- the parts b, turned by t -/
def huP (b : Nat → Bool) (t : Nat) : Nat → Int32
  | 0 => Int32.ofNat 0
  | p + 1 => if b p then huP b t p ||| Int32.ofNat (2 ^ ((p + t) % 8)) else huP b t p
/-- what is passed of y by laws that look at x -/
def huW (D : hg_D) (x : Nat → Int32) (y : Int32) : Int32 := huU D x ||| huP (fun p => hub y p && huK D x (huB 10 y) p) (huT D x (huB 10 y)).toNatClampNeg 8
section HSB
theorem huC_in {m : Nat} {v : Int32} (hm : m < 2147483648) : 0 ≤ (huC m v).toInt ∧ (huC m v).toInt ≤ (m : Int) := by
  unfold huC
  split
  · rw [hn_c (n := 0) rfl (by omega)]
    omega
  · split
    · rw [hn_c (n := m) rfl hm]
      omega
    · omega
theorem huB_le : ∀ (k : Nat) (x : Int32), k ≤ 31 → 0 ≤ (huB k x).toInt ∧ (huB k x).toInt ≤ (k : Int)
  | 0, x, _ => by
    show 0 ≤ (Int32.ofNat 0).toInt ∧ (Int32.ofNat 0).toInt ≤ _
    rw [hk_0]
    omega
  | k + 1, x, hk => by
    have q := huB_le k x (by omega)
    have a := hn_and (x := x >>> (Int32.ofNat k &&& 31)) (y := Int32.ofNat 1) (by rw [hk_1]; omega)
    rw [hk_1] at a
    have e := hn_add (z := huB (k + 1) x) (x := huB k x) (y := (x >>> (Int32.ofNat k &&& 31)) &&& Int32.ofNat 1) rfl (by omega) (by omega)
    omega
end HSB
theorem huI {x : Int32} {n : Nat} (h : x.toInt = (n : Int)) (hn : n < 2147483648) : x = Int32.ofNat n := Int32.toInt_inj.mp (h.trans (hn_c (n := n) rfl hn).symm)
theorem huC_of {m : Nat} {v : Int32} (hm : m < 2147483648) : (if v.toInt < (Int32.ofNat 0).toInt then Int32.ofNat 0 else if (Int32.ofNat m).toInt < v.toInt then Int32.ofNat m else v) = huC m v := by
  unfold huC
  rw [hk_0, hn_c (n := m) rfl hm]
/-! THE REFERENCE'S CONTENT that is live: side sd tells D -/
noncomputable def hrM (W : Nat) : Bool := !Nat.testBit W (ug_o (ug_g 367) 18) && [376, 377, 378, 380, 381, 382, 383, 384, 385, 386, 387, 388, 389, 390, 391].all (fun c => !Nat.testBit W (ug_g c))
def hrK (sd : Nat) (D : hg_D) (A : hs_A) : Prop := (A.1 367 18).toInt = (sd : Int) ∧ sd ≤ 1 ∧ hVl (sd : Int) A ∧ (∀ q, q < 4 → hgw_wl (D.2.2.2 q)) ∧ ∃ (V : Nat → Int) (ns : List Nat) (bb zz : Nat), ns.length ≤ 10 ∧ hmM V A sd ns D bb zz ∧ (A.2.1 376 sd).toInt = (ns.length : Int)
theorem hrM.get {W : Nat} (e : hrM W = true) : Nat.testBit W (ug_o (ug_g 367) 18) = false ∧ ∀ c, c ∈ [376, 377, 378, 380, 381, 382, 383, 384, 385, 386, 387, 388, 389, 390, 391] → Nat.testBit W (ug_g c) = false := by
  unfold hrM at e
  obtain ⟨e1, e2⟩ := (Bool.and_eq_true _ _).mp e |> fun h => h
  refine ⟨?_, fun c hc => ?_⟩
  · cases t : Nat.testBit W (ug_o (ug_g 367) 18) with
    | false => rfl
    | true =>
      rw [t] at e1
      exact absurd e1 (by decide)
  · have q := List.all_eq_true.mp e2 c hc
    cases t : Nat.testBit W (ug_g c) with
    | false => rfl
    | true =>
      rw [t] at q
      exact absurd q (by decide)
theorem hrK.lr {W s : Nat} {A A' : hs_A} (hs : s ≤ 1) (w : uf_W W A A') (e : hrM W = true) : ∀ c j, hlr (s : Int) c j → A'.2.1 c j = A.2.1 c j := by
  have ee := (hrM.get e).2
  intro c j hl
  rcases hl with ⟨h, h1, h2⟩ | ⟨⟨h, h'⟩, h1, h2⟩ | ⟨h, h1, h2⟩
  · rcases h with rfl | rfl
    · exact w.2.1 383 _ _ j rfl (by omega) (ee _ (by decide))
    · exact w.2.1 384 _ _ j rfl (by omega) (ee _ (by decide))
  · have hc : c = 385 ∨ c = 386 ∨ c = 387 ∨ c = 388 ∨ c = 389 := by omega
    rcases hc with rfl | rfl | rfl | rfl | rfl
    · exact w.2.1 385 _ _ j rfl (by omega) (ee _ (by decide))
    · exact w.2.1 386 _ _ j rfl (by omega) (ee _ (by decide))
    · exact w.2.1 387 _ _ j rfl (by omega) (ee _ (by decide))
    · exact w.2.1 388 _ _ j rfl (by omega) (ee _ (by decide))
    · exact w.2.1 389 _ _ j rfl (by omega) (ee _ (by decide))
  · rcases h with rfl | rfl
    · exact w.2.1 390 _ _ j rfl (by omega) (ee _ (by decide))
    · exact w.2.1 391 _ _ j rfl (by omega) (ee _ (by decide))
theorem hrK.ot {W s : Nat} {A A' : hs_A} (hs : s ≤ 1) (w : uf_W W A A') (e : hrM W = true) : ∀ c j, ¬ c = 379 → hlq s c j → A'.2.1 c j = A.2.1 c j := by
  have ee := (hrM.get e).2
  intro c j h9 hl
  rcases hl with ⟨h | h | h | h, hj⟩ | ⟨h | h, h1, h2⟩ | ⟨h, h1, h2⟩ <;> subst h
  · exact w.2.1 376 _ _ j rfl (by omega) (ee _ (by decide))
  · exact absurd rfl h9
  · exact w.2.1 381 _ _ j rfl (by omega) (ee _ (by decide))
  · exact w.2.1 382 _ _ j rfl (by omega) (ee _ (by decide))
  · exact w.2.1 377 _ _ j rfl (by omega) (ee _ (by decide))
  · exact w.2.1 378 _ _ j rfl (by omega) (ee _ (by decide))
  · exact w.2.1 380 _ _ j rfl (by omega) (ee _ (by decide))
theorem hrK.uf {W sd : Nat} {D : hg_D} {A A' : hs_A} (h : hrK sd D A) (w : uf_W W A A') (e : hrM W = true) : hrK sd D A' := by
  obtain ⟨h1, h2, h3, h4, V, ns, bb, zz, h5, h6, h7⟩ := h
  have lr := hrK.lr h2 w e
  have ot := hrK.ot h2 w e
  obtain ⟨m1, ⟨m2, m3, m4⟩, m5⟩ := h6
  refine ⟨?_, h2, h3.mv (by omega) lr, h4, V, ns, bb, zz, h5, ⟨fun k hk => ?_, ⟨fun t ht => ?_, ?_, ?_⟩, m5.mv (fun i hi => ⟨ot 377 _ (by decide) (Or.inr (Or.inl ⟨Or.inl rfl, by omega, by omega⟩)), ot 378 _ (by decide) (Or.inr (Or.inl ⟨Or.inr rfl, by omega, by omega⟩))⟩)⟩, ?_⟩
  · rw [w.1 367 _ _ 18 rfl rfl (hrM.get e).1]
    exact h1
  · obtain ⟨b0, b1, q1, q2, q3⟩ := m1 k hk
    refine ⟨b0, b1, ?_, ?_, ?_⟩
    · rw [lr 383 _ (Or.inl ⟨Or.inl rfl, by omega, by omega⟩)]
      exact q1
    · rw [lr 384 _ (Or.inl ⟨Or.inr rfl, by omega, by omega⟩)]
      exact q2
    · rcases q3 with q3 | ⟨q4, q5, q6, q7⟩
      · exact Or.inl q3
      · rcases h3 (4 * sd + k) (by omega) (by omega) with v | ⟨v1, v2, v3⟩
        · exact False.elim (by omega)
        · exact Or.inr ⟨q4, q5, hmBr.lv lr q6 (fun i a c => v3 i (by omega) (by omega)) (by omega) (by omega), q7.lv (v3 _ (by omega) (by omega)) (by omega) (by omega) lr⟩
  · rw [ot 380 _ (by decide) (Or.inr (Or.inr ⟨rfl, by omega, by omega⟩))]
    exact m2 t ht
  · rw [ot 381 _ (by decide) (Or.inl ⟨Or.inr (Or.inr (Or.inl rfl)), rfl⟩)]
    exact m3
  · rw [ot 382 _ (by decide) (Or.inl ⟨Or.inr (Or.inr (Or.inr rfl)), rfl⟩)]
    exact m4
  · rw [ot 376 _ (by decide) (Or.inl ⟨Or.inl rfl, rfl⟩)]
    exact h7
theorem hP176k {g d sd q : Nat} {D : hg_D} {x : Nat → Int32} {A : hs_A} (a1 a2 : Int32) (hK : hrK sd D A) (hq : q < 4) (h1 : a1.toInt = (q : Int)) (h2 : a2 = Int32.ofInt (if q = 0 then 1 else 0)) (hx : ∀ i, i < 9 → A.2.1 393 i = x i) : hpC g d 176 hm_m176 [.ref 368, .int a1, .int a2] A (fun r A' => ∃ z : Int32, r = some (.int z) ∧ z = huL D q x) := by
  obtain ⟨k18, ks, kv, kw, V, ns, bb, zz, kn, kM, kc⟩ := hK
  exact (hP176 a1 a2 kM k18 ks hq h1 h2 hx (kw q hq)).imp (fun r A' h => by
    obtain ⟨z, e, hz, -⟩ := h
    exact ⟨z, e, hz⟩)
theorem huP_t {b : Nat → Bool} {t p : Nat} (h : b p = true) : huP b t (p + 1) = huP b t p ||| Int32.ofNat (2 ^ ((p + t) % 8)) := by
  show (if b p then huP b t p ||| Int32.ofNat (2 ^ ((p + t) % 8)) else huP b t p) = _
  rw [if_pos h]
theorem huP_f {b : Nat → Bool} {t p : Nat} (h : b p = false) : huP b t (p + 1) = huP b t p := by
  show (if b p then huP b t p ||| Int32.ofNat (2 ^ ((p + t) % 8)) else huP b t p) = _
  rw [if_neg (by rw [h]; decide)]
theorem hub_d : ∀ p, p < 8 → ∀ n, n < 256 → (((Int32.ofNat n >>> (Int32.ofNat p &&& 31)) &&& Int32.ofNat 1).toInt = 1 ↔ hub (Int32.ofNat n) p = true) := by decide +kernel
theorem hub_iff {x : Int32} {p : Nat} (h0 : 0 ≤ x.toInt) (h1 : x.toInt ≤ 255) (hp : p < 8) : ((x >>> (Int32.ofNat p &&& 31)) &&& Int32.ofNat 1).toInt = 1 ↔ hub x p = true := by
  have c := hn_cn (j := x) h0
  have e := hub_d p hp x.toNatClampNeg (by omega)
  rw [← hI32 h0 (by omega)] at e
  exact e
theorem huP_sh : ∀ p, p < 8 → ∀ t, t < 8 → Int32.ofNat 1 <<< ((Int32.ofNat p + Int32.ofNat t - (Int32.ofNat p + Int32.ofNat t) / Int32.ofNat 8 * Int32.ofNat 8) &&& 31) = Int32.ofNat (2 ^ ((p + t) % 8)) := by decide +kernel
theorem hs_or3 {a b c : Int32} : a ||| b ||| c = a ||| (b ||| c) := by
  apply Int32.toBitVec_inj.mp
  show a.toBitVec ||| b.toBitVec ||| c.toBitVec = a.toBitVec ||| (b.toBitVec ||| c.toBitVec)
  exact BitVec.or_assoc _ _ _
theorem hs_or0 {a : Int32} : a ||| Int32.ofNat 0 = a := by
  apply Int32.toBitVec_inj.mp
  show a.toBitVec ||| 0#32 = a.toBitVec
  exact BitVec.or_zero
theorem huT_in {D : hg_D} {x : Nat → Int32} {q : Int32} : 0 ≤ (huT D x q).toInt ∧ (huT D x q).toInt ≤ 7 := huC_in (m := 7) (by decide)
theorem huU_in {D : hg_D} {x : Nat → Int32} : 0 ≤ (huU D x).toInt ∧ (huU D x).toInt ≤ 255 := huC_in (m := 255) (by decide)
theorem huE_in {D : hg_D} {x : Nat → Int32} : 0 ≤ (huE D x).toInt ∧ (huE D x).toInt ≤ 100 := huC_in (m := 100) (by decide)
theorem huP_in {b : Nat → Bool} {t : Nat} : ∀ p, 0 ≤ (huP b t p).toInt ∧ (huP b t p).toInt ≤ 255
  | 0 => by
    show 0 ≤ (Int32.ofNat 0).toInt ∧ (Int32.ofNat 0).toInt ≤ 255
    rw [hk_0]
    omega
  | p + 1 => by
    have q := huP_in (b := b) (t := t) p
    cases h : b p with
    | false => rw [huP_f h]; exact q
    | true =>
      rw [huP_t h]
      have m : (p + t) % 8 < 8 := Nat.mod_lt _ (by decide)
      have key : ∀ k, k < 8 → 0 ≤ (Int32.ofNat (2 ^ k)).toInt ∧ (Int32.ofNat (2 ^ k)).toInt ≤ 255 := by decide +kernel
      have k2 := key _ m
      exact hn_or q.1 q.2 k2.1 k2.2
theorem huW_in {D : hg_D} {x : Nat → Int32} {y : Int32} : 0 ≤ (huW D x y).toInt ∧ (huW D x y).toInt ≤ 255 := hn_or huU_in.1 huU_in.2 (huP_in 8).1 (huP_in 8).2
