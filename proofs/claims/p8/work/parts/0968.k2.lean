/-! BITS; THE CLASS'S CONTENT that is live; THE AIR: where it stands, what it keeps in mind -/
section HSB2
theorem hub_and {x y : Int32} {p : Nat} : hub (x &&& y) p = (hub x p && hub y p) := by
  show (x.toBitVec &&& y.toBitVec).getLsbD p = _
  rw [BitVec.getLsbD_and]
  rfl
theorem hub_or {x y : Int32} {p : Nat} : hub (x ||| y) p = (hub x p || hub y p) := by
  show (x.toBitVec ||| y.toBitVec).getLsbD p = _
  rw [BitVec.getLsbD_or]
  rfl
theorem hub_xor {x y : Int32} {p : Nat} : hub (x ^^^ y) p = (hub x p ^^ hub y p) := by
  show (x.toBitVec ^^^ y.toBitVec).getLsbD p = _
  rw [BitVec.getLsbD_xor]
  rfl
theorem hub_m1 : ∀ p, p < 32 → hub (Int32.ofNat 4294967295) p = true := by decide +kernel
theorem hub_not {x : Int32} {p : Nat} (hp : p < 32) : hub (x ^^^ Int32.ofNat 4294967295) p = !hub x p := by
  rw [hub_xor, hub_m1 p hp, Bool.xor_true]
theorem hub_ext {x y : Int32} (h : ∀ p, p < 32 → hub x p = hub y p) : x = y := by
  apply Int32.toBitVec_inj.mp
  exact BitVec.eq_of_getLsbD_eq (fun i hi => h i hi)
theorem hub_0 {p : Nat} : hub (Int32.ofNat 0) p = false := by
  show (0#32).getLsbD p = false
  exact BitVec.getLsbD_zero
theorem hub_z {x : Int32} {p : Nat} (h : x.toInt = 0) : hub x p = false := by
  have e : x = Int32.ofNat 0 := huI (n := 0) h (by decide)
  rw [e]
  exact hub_0
theorem hub_bit : ∀ p, p < 8 → ∀ r, r < 32 → hub (Int32.ofNat 1 <<< (Int32.ofNat p &&& 31)) r = decide (r = p) := by decide +kernel
theorem hub_hi_d : ∀ n, n < 256 → ∀ p, p < 32 → 8 ≤ p → hub (Int32.ofNat n) p = false := by decide +kernel
theorem hub_hi {x : Int32} {p : Nat} (h0 : 0 ≤ x.toInt) (h1 : x.toInt ≤ 255) (hp : 8 ≤ p) : hub x p = false := by
  by_cases q : p < 32
  · have c := hn_cn (j := x) h0
    have e := hub_hi_d x.toNatClampNeg (by omega) p q hp
    rw [← hI32 h0 (by omega)] at e
    exact e
  · exact BitVec.getLsbD_of_ge _ _ (by omega)
theorem hub_ext8 {x y : Int32} (hx : 0 ≤ x.toInt ∧ x.toInt ≤ 255) (hy : 0 ≤ y.toInt ∧ y.toInt ≤ 255) (h : ∀ p, p < 8 → hub x p = hub y p) : x = y := hub_ext (fun p _ => by
  by_cases q : p < 8
  · exact h p q
  · rw [hub_hi hx.1 hx.2 (by omega), hub_hi hy.1 hy.2 (by omega)])
theorem hs_and255 {x : Int32} (h0 : 0 ≤ x.toInt) (h1 : x.toInt ≤ 255) : x &&& Int32.ofNat 255 = x := by
  have key : ∀ n, n < 256 → Int32.ofNat n &&& Int32.ofNat 255 = Int32.ofNat n := by decide +kernel
  have c := hn_cn (j := x) h0
  have e := key x.toNatClampNeg (by omega)
  rw [← hI32 h0 (by omega)] at e
  exact e
theorem hs_orc {a b : Int32} : a ||| b = b ||| a := by
  apply Int32.toBitVec_inj.mp
  show a.toBitVec ||| b.toBitVec = b.toBitVec ||| a.toBitVec
  exact BitVec.or_comm _ _
/-- a part that is asked for and isn't known -/
theorem hub_ask {a k : Int32} {p : Nat} (hp : p < 8) : ((a &&& (Int32.ofNat 1 <<< (Int32.ofNat p &&& 31))) &&& (k ^^^ Int32.ofNat 4294967295)).toInt = 0 ↔ ¬ (hub a p = true ∧ hub k p = false) := by
  constructor
  · intro h ⟨h1, h2⟩
    have q := hub_z (p := p) h
    rw [hub_and, hub_and, hub_not (by omega), hub_bit p hp p (by omega), h1, h2] at q
    simp at q
  · intro h
    have e : (a &&& (Int32.ofNat 1 <<< (Int32.ofNat p &&& 31))) &&& (k ^^^ Int32.ofNat 4294967295) = Int32.ofNat 0 := hub_ext (fun r hr => by
      rw [hub_and, hub_and, hub_not hr, hub_bit p hp r hr, hub_0]
      by_cases q : r = p
      · subst q
        cases h1 : hub a r with
        | false => rfl
        | true =>
          cases h2 : hub k r with
          | false => exact absurd ⟨h1, h2⟩ h
          | true => simp
      · rw [decide_eq_false q]
        simp)
    rw [e, hk_0]
/-! the count of bits, as the class has it -/
def huw1 (x : Int32) : Int32 := x - ((((x).toUInt32 >>> ((Int32.ofNat 1).toUInt32 &&& Int32.toUInt32 31)).toInt32) &&& Int32.ofNat 1431655765)
def huw2 (x : Int32) : Int32 := (x &&& Int32.ofNat 858993459) + ((((x).toUInt32 >>> ((Int32.ofNat 2).toUInt32 &&& Int32.toUInt32 31)).toInt32) &&& Int32.ofNat 858993459)
def huw3 (x : Int32) : Int32 := (x + (((x).toUInt32 >>> ((Int32.ofNat 4).toUInt32 &&& Int32.toUInt32 31)).toInt32)) &&& Int32.ofNat 252645135
def huw4 (x : Int32) : Int32 := x + (((x).toUInt32 >>> ((Int32.ofNat 8).toUInt32 &&& Int32.toUInt32 31)).toInt32)
def huw5 (x : Int32) : Int32 := x + (((x).toUInt32 >>> ((Int32.ofNat 16).toUInt32 &&& Int32.toUInt32 31)).toInt32)
theorem huw_d : ∀ n, n < 1024 → huw5 (huw4 (huw3 (huw2 (huw1 (Int32.ofNat n))))) &&& Int32.ofNat 63 = huB 10 (Int32.ofNat n) := by decide +kernel
theorem hI32k {a : Int32} (h0 : 0 ≤ a.toInt) (h1 : a.toInt < 2147483648) : a = Int32.ofNat a.toNatClampNeg := by
  have c := hn_cn (j := a) h0
  exact huI (by omega) (by omega)
theorem huw {x : Int32} (h0 : 0 ≤ x.toInt) (h1 : x.toInt < 1024) : huw5 (huw4 (huw3 (huw2 (huw1 x)))) &&& Int32.ofNat 63 = huB 10 x := by
  have c := hn_cn (j := x) h0
  have e := huw_d x.toNatClampNeg (by omega)
  rw [← hI32k h0 (by omega)] at e
  exact e
theorem huB_8d : ∀ n, n < 256 → (huB 10 (Int32.ofNat n)).toInt ≤ 8 := by decide +kernel
theorem huB_8 {x : Int32} (h0 : 0 ≤ x.toInt) (h1 : x.toInt ≤ 255) : 0 ≤ (huB 10 x).toInt ∧ (huB 10 x).toInt ≤ 8 := by
  have c := hn_cn (j := x) h0
  have e := huB_8d x.toNatClampNeg (by omega)
  rw [← hI32 h0 (by omega)] at e
  exact ⟨(huB_le 10 x (by omega)).1, e⟩
/-! parts, turned -/
theorem huP_cg {b c : Nat → Bool} {t : Nat} : ∀ {n : Nat}, (∀ p, p < n → b p = c p) → huP b t n = huP c t n
  | 0, _ => rfl
  | n + 1, h => by
    show (if b n then huP b t n ||| Int32.ofNat (2 ^ ((n + t) % 8)) else huP b t n) = (if c n then huP c t n ||| Int32.ofNat (2 ^ ((n + t) % 8)) else huP c t n)
    rw [h n (by omega), huP_cg (n := n) (fun p hp => h p (by omega))]
theorem huP_no {b : Nat → Bool} {t : Nat} : ∀ {n : Nat}, (∀ p, p < n → b p = false) → huP b t n = Int32.ofNat 0
  | 0, _ => rfl
  | n + 1, h => by rw [huP_f (h n (by omega)), huP_no (n := n) (fun p hp => h p (by omega))]
theorem huP_rot_d : ∀ t, t < 8 → ∀ n, n < 256 → ((Int32.ofNat n <<< (Int32.ofNat t &&& 31)) ||| (Int32.ofNat n >>> ((Int32.ofNat 8 - Int32.ofNat t) &&& 31))) &&& Int32.ofNat 255 = huP (fun p => hub (Int32.ofNat n) p) t 8 := by decide +kernel
theorem huP_rot {x t : Int32} (h0 : 0 ≤ x.toInt) (h1 : x.toInt ≤ 255) (t0 : 0 ≤ t.toInt) (t1 : t.toInt ≤ 7) : ((x <<< (t &&& 31)) ||| (x >>> ((Int32.ofNat 8 - t) &&& 31))) &&& Int32.ofNat 255 = huP (fun p => hub x p) t.toNatClampNeg 8 := by
  have c := hn_cn (j := x) h0
  have ct := hn_cn (j := t) t0
  have e := huP_rot_d t.toNatClampNeg (by omega) x.toNatClampNeg (by omega)
  rw [← hI32 (a := x) h0 (by omega), ← hI32 (a := t) t0 (by omega)] at e
  exact e
end HSB2
/-! a law that looks at no part -/
theorem hgx_x {x : Nat → Int32} {a b p q : Int32} : hgx (hgx x a b) p q = hgx x p q := by
  funext i
  unfold hgx
  split
  · rfl
  · split
    · rfl
    · rfl
theorem hgw_ev_cg {x y : Nat → Int32} : ∀ {c : hg_C} {s : List Int32}, (∀ v : Int, (1, v) ∈ c → x v.toNat = y v.toNat) → hgw_ev x c s = hgw_ev y c s
  | [], _, _ => rfl
  | p :: l, s, h => by
    have e : hgw_st x p s = hgw_st y p s := by
      unfold hgw_st
      by_cases k0 : p.1 = 0
      · rw [if_pos k0, if_pos k0]
      · rw [if_neg k0, if_neg k0]
        by_cases k1 : p.1 = 1
        · rw [if_pos k1, if_pos k1, h p.2 (by rw [← k1]; exact List.mem_cons_self)]
        · rw [if_neg k1, if_neg k1]
    show (match hgw_st x p s with
      | none => none
      | some s' => hgw_ev x l s') = (match hgw_st y p s with
      | none => none
      | some s' => hgw_ev y l s')
    rw [e]
    cases hgw_st y p s with
    | none => rfl
    | some s' => exact hgw_ev_cg (fun v hv => h v (List.mem_cons_of_mem _ hv))
theorem hgw_law_cg {x y : Nat → Int32} {tm : hg_C} {f : Nat} : ∀ {br : hg_B} {s : Nat}, (∀ v : Int, (1, v) ∈ hg_br s br ++ (tm ++ [(7, 0)]) → x v.toNat = y v.toNat) → hgw_law x br tm = hgw_law y br tm
  | [], s, h => by
    show hgw_top (hgw_ev x tm []) = hgw_top (hgw_ev y tm [])
    rw [hgw_ev_cg (fun v hv => h v (List.mem_append.mpr (Or.inr (List.mem_append.mpr (Or.inl hv)))))]
  | q :: r, s, h => by
    have hb : ∀ v : Int, (1, v) ∈ hg_br s (q :: r) → x v.toNat = y v.toNat := fun v hv => h v (List.mem_append.mpr (Or.inl hv))
    have hm : ∀ v : Int, ((1, v) ∈ q.1 ∨ (1, v) ∈ q.2.1 ∨ (1, v) ∈ q.2.2 ∨ (1, v) ∈ hg_br (s + q.1.length + q.2.1.length + q.2.2.length + 2) r) → x v.toNat = y v.toNat := fun v hv => hb v (by
      show (1, v) ∈ q.1 ++ (q.2.1 ++ ((6, ((s + q.1.length + q.2.1.length + q.2.2.length + 2 : Nat) : Int)) :: (q.2.2 ++ ((7, 0) :: hg_br (s + q.1.length + q.2.1.length + q.2.2.length + 2) r))))
      rcases hv with hv | hv | hv | hv
      · exact List.mem_append.mpr (Or.inl hv)
      · exact List.mem_append.mpr (Or.inr (List.mem_append.mpr (Or.inl hv)))
      · exact List.mem_append.mpr (Or.inr (List.mem_append.mpr (Or.inr (List.mem_cons_of_mem _ (List.mem_append.mpr (Or.inl hv))))))
      · exact List.mem_append.mpr (Or.inr (List.mem_append.mpr (Or.inr (List.mem_cons_of_mem _ (List.mem_append.mpr (Or.inr (List.mem_cons_of_mem _ hv))))))))
    have e1 : hgw_ev x (q.1 ++ q.2.1) [] = hgw_ev y (q.1 ++ q.2.1) [] := hgw_ev_cg (fun v hv => by
      rcases List.mem_append.mp hv with m | m
      · exact hm v (Or.inl m)
      · exact hm v (Or.inr (Or.inl m)))
    have e2 : hgw_ev x q.2.2 [] = hgw_ev y q.2.2 [] := hgw_ev_cg (fun v hv => hm v (Or.inr (Or.inr (Or.inl hv))))
    have e3 : hgw_law x r tm = hgw_law y r tm := hgw_law_cg (f := f) (s := s + q.1.length + q.2.1.length + q.2.2.length + 2) (fun v hv => by
      rcases List.mem_append.mp hv with m | m
      · exact hm v (Or.inr (Or.inr (Or.inr m)))
      · exact h v (List.mem_append.mpr (Or.inr m)))
    show (match hgw_ev x (q.1 ++ q.2.1) [] with
      | some (v :: u :: _) => if u.toInt < v.toInt then hgw_top (hgw_ev x q.2.2 []) else hgw_law x r tm
      | _ => 0) = (match hgw_ev y (q.1 ++ q.2.1) [] with
      | some (v :: u :: _) => if u.toInt < v.toInt then hgw_top (hgw_ev y q.2.2 []) else hgw_law y r tm
      | _ => 0)
    rw [e1, e2, e3]
theorem huL_np {D : hg_D} {q f : Nat} {x : Nat → Int32} {a b r : Int32} (h : (1, 3) ∉ hg_law f (D.2.2.2 q)) : huL D q (hgx x a r) = huL D q (hgx x b r) := by
  refine hgw_law_cg (f := f) (s := f) (fun v hv => ?_)
  have hv3 : ¬ v.toNat = 3 := fun e => h (by
    have e3 : v = 3 := by omega
    rw [← e3]
    exact hv)
  unfold hgx
  rw [if_neg hv3, if_neg hv3]
/-! THE CLASS'S CONTENT that is live: terrace T tells D -/
def hdK (T : Nat) (D : hg_D) (A : hs_A) : Prop := (∀ q, q < 4 → hgw_wl (D.2.2.2 q)) ∧ ∃ (V : Nat → Int) (ns : List Nat) (zz : Nat), zz ≤ 408 ∧ ns.length ≤ 10 ∧ hcM V T A ns D [] zz ∧ (A.1 T 4).toInt = (ns.length : Int)
noncomputable def hdG (W : Nat) : Bool := ([2, 11].all fun T => !Nat.testBit W (ug_o (ug_g T) 4) && (!Nat.testBit W (ug_o (ug_g T) 6) && (!Nat.testBit W (ug_o (ug_g T) 7) && (!Nat.testBit W (ug_o (ug_g (T + 4)) 4) && !Nat.testBit W (ug_o (ug_g (T + 4)) 5))))) && [3, 4, 5, 7, 8, 9, 12, 13, 14, 16, 17, 18].all (fun c => !Nat.testBit W (ug_g c))
theorem hdG.get {W : Nat} (e : hdG W = true) : (∀ T, hTT T → Nat.testBit W (ug_o (ug_g T) 4) = false ∧ Nat.testBit W (ug_o (ug_g T) 6) = false ∧ Nat.testBit W (ug_o (ug_g T) 7) = false ∧ Nat.testBit W (ug_o (ug_g (T + 4)) 4) = false ∧ Nat.testBit W (ug_o (ug_g (T + 4)) 5) = false) ∧ ∀ c, c ∈ [3, 4, 5, 7, 8, 9, 12, 13, 14, 16, 17, 18] → Nat.testBit W (ug_g c) = false := by
  unfold hdG at e
  rw [Bool.and_eq_true] at e
  obtain ⟨e1, e2⟩ := e
  refine ⟨fun T hT => ?_, fun c hc => ?_⟩
  · have q := List.all_eq_true.mp e1 T (by rcases hT with rfl | rfl <;> decide)
    simp only [Bool.and_eq_true, Bool.not_eq_true'] at q
    exact q
  · have q := List.all_eq_true.mp e2 c hc
    simp only [Bool.not_eq_true'] at q
    exact q
theorem hcM.pt {V : Nat → Int} {T : Nat} {A A' : hs_A} {ns : List Nat} {d : hg_D} {z : Nat} (h : hcM V T A ns d [] z) (hz : z ≤ 408) (hn : ns.length ≤ 10) (f1 : A'.1 (T + 4) 4 = A.1 (T + 4) 4) (f2 : A'.1 (T + 4) 5 = A.1 (T + 4) 5) (f3 : A'.1 T 6 = A.1 T 6) (f4 : A'.1 T 7 = A.1 T 7) (e1 : ∀ i, i < 10 → A'.2.1 (T + 1) i = A.2.1 (T + 1) i ∧ A'.2.1 (T + 2) i = A.2.1 (T + 2) i) (e3 : ∀ i, i < 24 → A'.2.1 (T + 3) i = A.2.1 (T + 3) i) (e5 : ∀ i, i < 408 → A'.2.1 (T + 5) i = A.2.1 (T + 5) i) (e6 : ∀ i, i < 4 → A'.2.1 (T + 6) i = A.2.1 (T + 6) i ∧ A'.2.1 (T + 7) i = A.2.1 (T + 7) i) : hcM V T A' ns d [] z := by
  obtain ⟨⟨a1, a2, a3, a4⟩, b, ⟨c1, c2, c3⟩, c4⟩ := h
  refine ⟨⟨by rw [f1]; exact a1, a2, trivial, by rw [f2]; exact a4⟩, fun k hk => ?_, ⟨fun h hh => by rw [e3 h hh]; exact c1 h hh, by rw [f3]; exact c2, by rw [f4]; exact c3⟩, c4.mv (fun i hi => e1 i (by omega))⟩
  obtain ⟨f, b1, b2, b3, b4⟩ := b k hk
  have b2' : f + (hg_law f (d.2.2.2 k)).length ≤ z := b2
  exact ⟨f, by rw [(e6 k hk).1]; exact b1, b2, b3.mv (fun i h1 h2 => e5 i (by omega)), by rw [(e6 k hk).2]; exact b4⟩
theorem hdK.uf {W T : Nat} {D : hg_D} {A A' : hs_A} (h : hdK T D A) (hT : hTT T) (w : uf_W W A A') (e : hdG W = true) : hdK T D A' := by
  obtain ⟨h1, V, ns, zz, h2, h3, h4, h5⟩ := h
  obtain ⟨g1, g2⟩ := hdG.get e
  obtain ⟨t4, t6, t7, t44, t45⟩ := g1 T hT
  refine ⟨h1, V, ns, zz, h2, h3, ?_, ?_⟩
  · rcases hT with rfl | rfl
    · exact h4.pt h2 h3 (w.1 6 _ _ 4 rfl rfl t44) (w.1 6 _ _ 5 rfl rfl t45) (w.1 2 _ _ 6 rfl rfl t6) (w.1 2 _ _ 7 rfl rfl t7) (fun i hi => ⟨w.2.1 3 _ _ i rfl hi (g2 _ (by decide)), w.2.1 4 _ _ i rfl hi (g2 _ (by decide))⟩) (fun i hi => w.2.1 5 _ _ i rfl hi (g2 _ (by decide))) (fun i hi => w.2.1 7 _ _ i rfl hi (g2 _ (by decide))) (fun i hi => ⟨w.2.1 8 _ _ i rfl hi (g2 _ (by decide)), w.2.1 9 _ _ i rfl hi (g2 _ (by decide))⟩)
    · exact h4.pt h2 h3 (w.1 15 _ _ 4 rfl rfl t44) (w.1 15 _ _ 5 rfl rfl t45) (w.1 11 _ _ 6 rfl rfl t6) (w.1 11 _ _ 7 rfl rfl t7) (fun i hi => ⟨w.2.1 12 _ _ i rfl hi (g2 _ (by decide)), w.2.1 13 _ _ i rfl hi (g2 _ (by decide))⟩) (fun i hi => w.2.1 14 _ _ i rfl hi (g2 _ (by decide))) (fun i hi => w.2.1 16 _ _ i rfl hi (g2 _ (by decide))) (fun i hi => ⟨w.2.1 17 _ _ i rfl hi (g2 _ (by decide)), w.2.1 18 _ _ i rfl hi (g2 _ (by decide))⟩)
  · rcases hT with rfl | rfl
    · rw [w.1 2 _ _ 4 rfl rfl t4]
      exact h5
    · rw [w.1 11 _ _ 4 rfl rfl t4]
      exact h5
/-! the air -/
def hdV (T : Nat) (x : Nat → Int32) (A : hs_A) : Prop := A.2.2.2 323 5 = T + 5 ∧ ∀ i, i < 9 → ¬ i = 3 → ¬ i = 6 → A.2.1 324 i = x i
def hdB1 (k w : Int32) (K : Nat → Bool) : Prop := ∀ p, p < 8 → (hub k p = true → hub w p = K p) ∧ (hub k p = false → hub w p = false)
def hdQk (D : hg_D) (x : Nat → Int32) (A : hs_A) : Prop := ∀ q, q ≤ 8 → hdB1 (A.2.1 325 q) (A.2.1 326 q) (huK D x (Int32.ofNat q))
def hdQt (D : hg_D) (x : Nat → Int32) (A : hs_A) : Prop := ∀ q, q ≤ 8 → A.2.1 327 q = Int32.ofNat 4294967295 ∨ A.2.1 327 q = huT D x (Int32.ofNat q)
def hdQh (D : hg_D) (x : Nat → Int32) (A : hs_A) : Prop := A.1 323 4 = Int32.ofNat 4294967295 ∨ A.1 323 4 = huU D x
def hdS (T : Nat) (D : hg_D) (x : Nat → Int32) (A : hs_A) : Prop := hdV T x A ∧ hdQk D x A ∧ hdQt D x A ∧ hdQh D x A
/-- what telling a law leaves alone -/
def hdF (T : Nat) (A A' : hs_A) : Prop := A'.1 = A.1 ∧ A'.2.2 = A.2.2 ∧ ∀ i, ¬ i = 324 → ¬ i = T + 8 → A'.2.1 i = A.2.1 i
theorem hP14k {g d T q : Nat} {D : hg_D} {x : Nat → Int32} {A : hs_A} (a1 a3 a4 : Int32) (hT : hTT T) (hC : hdK T D A) (hV : hdV T x A) (hq : q < 4) (h1 : a1.toInt = (q : Int)) : hpC g d 14 hm_m14 [.ref (T + 5), .int a1, .ref 325, .int a3, .int a4] A (fun r A' => ∃ z : Int32, r = some (.int z) ∧ z = huL D q (hgx x a3 a4) ∧ hdF T A A' ∧ hdV T x A') := by
  obtain ⟨kw, V, ns, zz, k1, k2, kM, k3⟩ := hC
  refine (hP14 (x := hgx x (A.2.1 324 3) (A.2.1 324 6)) hT a1 a3 a4 kM hq h1 (fun i hi => ?_) (kw q hq)).imp (fun r A' h => ?_)
  · unfold hgx
    by_cases q3 : i = 3
    · rw [if_pos q3, q3]
    · rw [if_neg q3]
      by_cases q6 : i = 6
      · rw [if_pos q6, q6]
      · rw [if_neg q6]
        exact hV.2 i hi q3 q6
  · obtain ⟨z, e, hz, f1, f2, f3, f4⟩ := h
    rw [hgx_x] at hz
    refine ⟨z, e, hz, ⟨f1, f2, f3⟩, by rw [f2]; exact hV.1, fun i hi h3 h6 => ?_⟩
    rw [f4 i hi]
    unfold hgx
    rw [if_neg h3, if_neg h6, if_neg h3, if_neg h6]
theorem hdB1.and {a k w : Int32} {K : Nat → Bool} (h : hdB1 k w K) (e : (a &&& (k ^^^ Int32.ofNat 4294967295)).toInt = 0) : ∀ p, p < 8 → hub (a &&& w) p = (hub a p && K p) := fun p hp => by
  have q := hub_z (p := p) e
  rw [hub_and, hub_not (by omega)] at q
  rw [hub_and]
  cases h1 : hub a p with
  | false => rfl
  | true =>
    rw [h1] at q
    have k1 : hub k p = true := by
      cases h2 : hub k p with
      | true => rfl
      | false => rw [h2] at q; exact absurd q (by decide)
    rw [(h p hp).1 k1]
/-- while parts are asked for one by one -/
def hdB2 (n : Nat) (a k w : Int32) (K : Nat → Bool) : Prop := ∀ p, p < 8 → (hub k p = true → hub w p = K p) ∧ (hub k p = false → hub w p = (decide (p < n) && (hub a p && K p)))
theorem hdB1.two {a k w : Int32} {K : Nat → Bool} (h : hdB1 k w K) : hdB2 0 a k w K := fun p hp => ⟨(h p hp).1, fun e => by rw [(h p hp).2 e]; rfl⟩
theorem hdB2.no {n : Nat} {a k w : Int32} {K : Nat → Bool} (h : hdB2 n a k w K) (hn : n < 8) (e : ¬ (hub a n = true ∧ hub k n = false) ∨ K n = false) : hdB2 (n + 1) a k w K := fun p hp => ⟨(h p hp).1, fun q => by
  rw [(h p hp).2 q]
  by_cases s : p = n
  · subst s
    rw [decide_eq_false (by omega), decide_eq_true (by omega)]
    rcases e with e | e
    · cases h1 : hub a p with
      | false => rfl
      | true => exact absurd ⟨h1, q⟩ e
    · rw [e]
      simp
  · by_cases s2 : p < n
    · rw [decide_eq_true s2, decide_eq_true (by omega)]
    · rw [decide_eq_false s2, decide_eq_false (by omega)]⟩
theorem hdB2.yes {n : Nat} {a k w : Int32} {K : Nat → Bool} (h : hdB2 n a k w K) (hn : n < 8) (h1 : hub a n = true) (h2 : hub k n = false) (h3 : K n = true) : hdB2 (n + 1) a k (w ||| (Int32.ofNat 1 <<< (Int32.ofNat n &&& 31))) K := fun p hp => ⟨fun q => by
    have hne : ¬ p = n := fun s => by rw [s, h2] at q; exact absurd q (by decide)
    rw [hub_or, hub_bit n hn p (by omega), decide_eq_false hne, (h p hp).1 q, Bool.or_false], fun q => by
    rw [hub_or, hub_bit n hn p (by omega), (h p hp).2 q]
    by_cases s : p = n
    · subst s
      rw [decide_eq_true (rfl : p = p), decide_eq_true (by omega : p < p + 1), h1, h3]
      simp
    · rw [decide_eq_false s, Bool.or_false]
      by_cases s2 : p < n
      · rw [decide_eq_true s2, decide_eq_true (by omega)]
      · rw [decide_eq_false s2, decide_eq_false (by omega)]⟩
theorem hdB2.fin {a k w : Int32} {K : Nat → Bool} (h : hdB2 8 a k w K) : hdB1 (k ||| a) w K := fun p hp => by
  rw [hub_or]
  cases h1 : hub k p with
  | true => exact ⟨fun _ => (h p hp).1 h1, fun q => absurd q (by simp)⟩
  | false =>
    have q := (h p hp).2 h1
    rw [decide_eq_true hp, Bool.true_and] at q
    rw [Bool.false_or]
    exact ⟨fun e => by rw [q, e, Bool.true_and], fun e => by rw [q, e, Bool.false_and]⟩
theorem hdB2.and {a k w : Int32} {K : Nat → Bool} (h : hdB2 8 a k w K) : ∀ p, p < 8 → hub (a &&& w) p = (hub a p && K p) := fun p hp => by
  rw [hub_and]
  cases h1 : hub k p with
  | true => rw [(h p hp).1 h1]
  | false =>
    rw [(h p hp).2 h1, decide_eq_true hp]
    cases hub a p <;> simp
theorem hdB1.all {K : Nat → Bool} {w : Int32} {b : Bool} (hK : ∀ p, p < 8 → K p = b) (hw : w = Int32.ofNat (if b then 255 else 0)) : hdB1 (Int32.ofNat 255) w K := fun p hp => by
  have key : ∀ p, p < 8 → hub (Int32.ofNat 255) p = true := by decide +kernel
  rw [key p hp]
  refine ⟨fun _ => ?_, fun q => absurd q (by decide)⟩
  rw [hK p hp, hw]
  cases b with
  | true => exact key p hp
  | false => exact hub_0
/-! A LIFE IN THE CLASS, as a row of the reference: n houses -/
def hdL (L : Nat) (ro : Nat → Int32) (n : Nat) (A : hs_A) : Prop := n ≤ 10 ∧ (A.1 L 6).toInt = (n : Int) ∧ (A.1 L 7 = ro 70 ∧ A.1 L 8 = ro 71 ∧ A.1 L 10 = ro 72) ∧ hOnb (A.1 L 9) ro (n : Int) ∧ ∀ h, h < n → (A.2.1 (L + 1) h = ro h ∧ A.2.1 (L + 2) h = ro (10 + h) ∧ A.2.1 (L + 3) h = ro (40 + h)) ∧ (A.2.1 (L + 4) h = ro (20 + h) ∧ A.2.1 (L + 5) h = ro (30 + h) ∧ A.2.1 (L + 6) h = ro (60 + h))
theorem hLw.d {L n : Nat} {g : Nat → Int32} {A : hs_A} (h : hLw L g (n : Int) A) (hn : n ≤ 10) : hdL L g n A := ⟨hn, h.1, h.2.1, h.2.2.1, fun k hk => h.2.2.2 k (by omega)⟩
theorem hdL.w {L n : Nat} {g : Nat → Int32} {A : hs_A} (h : hdL L g n A) : hLw L g (n : Int) A := ⟨h.2.1, h.2.2.1, h.2.2.2.1, fun k hk => h.2.2.2.2 k (by omega)⟩
theorem hdL.mv {L L' n : Nat} {ro ro' : Nat → Int32} {A A' : hs_A} (h : hdL L ro n A) (e : ∀ k, 6 ≤ k → k ≤ 10 → A'.1 L' k = A.1 L k) (f : ∀ j, 1 ≤ j → j ≤ 6 → ∀ x : Nat, x < 10 → A'.2.1 (L' + j) x = A.2.1 (L + j) x) (g : ∀ k, k < 73 → ro' k = ro k) : hdL L' ro' n A' := by
  obtain ⟨h0, h1, ⟨h2, h3, h4⟩, ⟨m, m1, m2, m3⟩, h5⟩ := h
  refine ⟨h0, by rw [e 6 (by omega) (by omega)]; exact h1, ⟨by rw [e 7 (by omega) (by omega), g 70 (by omega)]; exact h2, by rw [e 8 (by omega) (by omega), g 71 (by omega)]; exact h3, by rw [e 10 (by omega) (by omega), g 72 (by omega)]; exact h4⟩, ⟨m, m1, by rw [e 9 (by omega) (by omega)]; exact m2, fun k hk => by rw [g (50 + k) (by omega)]; exact m3 k hk⟩, fun k hk => ?_⟩
  obtain ⟨⟨a1, a2, a3⟩, a4, a5, a6⟩ := h5 k hk
  exact ⟨⟨by rw [f 1 (by omega) (by omega) k (by omega), g k (by omega)]; exact a1, by rw [f 2 (by omega) (by omega) k (by omega), g (10 + k) (by omega)]; exact a2, by rw [f 3 (by omega) (by omega) k (by omega), g (40 + k) (by omega)]; exact a3⟩, by rw [f 4 (by omega) (by omega) k (by omega), g (20 + k) (by omega)]; exact a4, by rw [f 5 (by omega) (by omega) k (by omega), g (30 + k) (by omega)]; exact a5, by rw [f 6 (by omega) (by omega) k (by omega), g (60 + k) (by omega)]; exact a6⟩
noncomputable def hdLm (L W : Nat) : Bool := [6, 7, 8, 9, 10].all (fun k => !Nat.testBit W (ug_o (ug_g L) k)) && [1, 2, 3, 4, 5, 6].all (fun j => !Nat.testBit W (ug_g (L + j)))
theorem hdLm.get {L W : Nat} (e : hdLm L W = true) : (∀ k, k ∈ [6, 7, 8, 9, 10] → Nat.testBit W (ug_o (ug_g L) k) = false) ∧ ∀ j, j ∈ [1, 2, 3, 4, 5, 6] → Nat.testBit W (ug_g (L + j)) = false := by
  unfold hdLm at e
  rw [Bool.and_eq_true] at e
  refine ⟨fun k hk => ?_, fun k hk => ?_⟩
  · have q := List.all_eq_true.mp e.1 k hk
    simp only [Bool.not_eq_true'] at q
    exact q
  · have q := List.all_eq_true.mp e.2 k hk
    simp only [Bool.not_eq_true'] at q
    exact q
theorem hdL.uf {W L n : Nat} {ro : Nat → Int32} {A A' : hs_A} (h : hdL L ro n A) (hL : hLL L) (w : uf_W W A A') (e : hdLm L W = true) : hdL L ro n A' := by
  obtain ⟨g1, g2⟩ := hdLm.get e
  refine h.mv (fun k a b => ?_) (fun j a b x hx => ?_) (fun _ _ => rfl)
  · have hk : k = 6 ∨ k = 7 ∨ k = 8 ∨ k = 9 ∨ k = 10 := by omega
    rcases hk with rfl | rfl | rfl | rfl | rfl <;> exact w.1 _ _ _ _ (hsL hL) rfl (g1 _ (by decide))
  · exact w.2.1 _ _ _ x (hsLa hL a b) hx (g2 _ (by
      have hj : j = 1 ∨ j = 2 ∨ j = 3 ∨ j = 4 ∨ j = 5 ∨ j = 6 := by omega
      rcases hj with rfl | rfl | rfl | rfl | rfl | rfl <;> decide))
theorem hs_upN1 {f : Nat → Nat → Nat} {i k x : Nat} : hs_upN f i k x i k = x := by
  unfold hs_upN
  rw [if_pos rfl, if_pos rfl]
theorem hs_upN2 {f : Nat → Nat → Nat} {i k x a b : Nat} (h : ¬ (a = i ∧ b = k)) : hs_upN f i k x a b = f a b := by
  unfold hs_upN
  by_cases q : a = i
  · rw [if_pos q, if_neg (fun s => h ⟨q, s⟩)]
  · rw [if_neg q]
theorem uf_putl {M x : Nat} {A A' : hs_A} (e : A'.1 = A.1) (f : A'.2.1 = A.2.1) (g : A'.2.2.1 = A.2.2.1) (i : A'.2.2.2 = hs_upN A.2.2.2 323 5 x) (b : Nat.testBit M (ug_o (ug_g 323) 5) = true) : uf_W M A A' :=
  ⟨fun _ _ _ _ _ _ _ => by rw [e], fun _ _ _ _ _ _ _ => by rw [f], fun _ _ _ _ _ _ _ => by rw [g], fun a c ks j _ _ h => by
    rw [i]
    refine hs_upN2 (fun q => ?_)
    rw [q.1, q.2, b] at h
    cases h⟩
theorem uf_H.putl {T : Nat} {A A' : hs_A} (h : uf_H A) (hT : hTT T) (i : A'.2.2.2 = hs_upN A.2.2.2 323 5 (T + 5)) : uf_H A' := by
  obtain ⟨h1, h2, h3, -⟩ := h
  refine ⟨?_, ?_, ?_, ?_⟩
  · rw [i, hs_upN2 (by omega)]; exact h1
  · rw [i, hs_upN2 (by omega)]; exact h2
  · rw [i, hs_upN2 (by omega)]; exact h3
  · rw [i, hs_upN1]
    rcases hT with rfl | rfl
    · exact Or.inl rfl
    · exact Or.inr rfl
theorem hdT4 {W T : Nat} {A A' : hs_A} (w : uf_W W A A') (hT : hTT T) (e : hdG W = true) : A'.1 T 4 = A.1 T 4 := by
  have t := ((hdG.get e).1 T hT).1
  rcases hT with rfl | rfl
  · exact w.1 2 _ _ 4 rfl rfl t
  · exact w.1 11 _ _ 4 rfl rfl t
theorem hLL_26 : hLL 26 := by
  show 26 ∈ hl_L
  decide
theorem hLL_33 : hLL 33 := by
  show 33 ∈ hl_L
  decide
def huH (ro : Nat → Int32) (h : Nat) : Bool := decide ((ro (50 + h)).toInt = 1) && decide ((ro (60 + h)).toInt = 0)
/-- what is sent in this hour -/
def huN (D : hg_D) (ro : Nat → Int32) : Int32 := if (ro 71).toInt = -1 then Int32.ofInt (D.1 ((ro 70).toInt % 24).toNat) else ro 71
def huMy (x : Int32) : Int32 := x ^^^ (((x).toUInt32 >>> ((Int32.ofNat 15).toUInt32 &&& Int32.toUInt32 31)).toInt32)
def huMx (h v : Int32) : Int32 := huMy ((h ^^^ v) * Int32.ofNat 1103515245 + Int32.ofNat 12345)
def huLu (x : Int32) : Int32 := (((x).toUInt32 >>> ((Int32.ofNat 1).toUInt32 &&& Int32.toUInt32 31)).toInt32)
def huLv (x : Int32) : Int32 := x - x / Int32.ofNat 100 * Int32.ofNat 100
/-- LOT 100 -/
def huLt (s w : Int32) : Int32 := huLv (huLu (huMx (huMx s (Int32.ofNat 137)) w))
/-- what house h hears in this hour -/
def huHd (D : hg_D) (n : Nat) (ro : Nat → Int32) (h : Nat) : Int32 := if huH ro h then (if h = 0 then huN D ro else huW D (huX (Int32.ofNat n) ro (Int32.ofNat h) (ro 70)) (ro (29 + h))) else Int32.ofNat 0
def huDy (D : hg_D) (n : Nat) (ro : Nat → Int32) (b : Bool) (s : Int32) (h : Nat) : Bool := b && (decide ((ro (60 + h)).toInt = 0) && decide ((huLt s (Int32.ofNat 16 * ro 70 + Int32.ofNat h)).toInt < (huE D (huX (Int32.ofNat n) ro (Int32.ofNat h) (ro 70))).toInt))
def huGr (D : hg_D) (n : Nat) (ro : Nat → Int32) (b : Bool) (s : Int32) (h : Nat) : Int32 := if 0 < (ro (60 + h)).toInt then ro (60 + h) - Int32.ofNat 1 else if huDy D n ro b s h then Int32.ofInt D.2.1 else ro (60 + h)
def huCt (b : Nat → Bool) : Nat → Nat
  | 0 => 0
  | k + 1 => huCt b k + (if b k then 1 else 0)
/-- an hour: n houses, b with deaths, s the seed -/
def huR (D : hg_D) (n : Nat) (b : Bool) (s : Int32) (ro : Nat → Int32) : Nat → Int32 := fun k =>
  if 30 ≤ k ∧ k < 30 + n then huHd D n ro (k - 30)
  else if 40 ≤ k ∧ k < 40 + n then ro k ||| (huHd D n ro (k - 40) &&& ro (k - 40))
  else if 60 ≤ k ∧ k < 60 + n then huGr D n ro b s (k - 60)
  else if k = 70 then ro 70 + Int32.ofNat 1
  else if k = 71 then Int32.ofNat 4294967295
  else if k = 72 then ro 72 + Int32.ofNat (huCt (huDy D n ro b s) n)
  else ro k
