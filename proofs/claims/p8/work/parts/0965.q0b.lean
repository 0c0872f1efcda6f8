section HCM2
variable {V S : Nat → Int} {T : Nat} {A A0 A1 A2 A' : hs_A} {ns : List Nat} {p : Option Nat} {sn : Nat} {o : Option (Nat × Nat)} {dd : hg_D} {fl : hg_C} {zz : Nat} {k : Nat} {v : Int}
theorem hcM.add (h : hcM V T A ns dd fl zz) (el : (A'.1 (T + 4) 4).toInt = (zz : Int) + 1) (ef : ∀ i q, T ≤ i → i ≤ T + 8 → ¬ (i = T ∧ (q = 4 ∨ q = 5)) → ¬ (i = T + 4 ∧ (q = 4 ∨ q = 5)) → A'.1 i q = A.1 i q) (ea : ∀ i, T ≤ i → i ≤ T + 7 → ¬ i = T + 5 → A'.2.1 i = A.2.1 i) (eb : ∀ j, ¬ j = zz → A'.2.1 (T + 5) j = A.2.1 (T + 5) j) (ec : (A'.2.1 (T + 5) zz).toInt = 8 * v + (k : Int)) (np : hg_np (A'.1 (T + 4) 5) (fl ++ [(k, v)])) : hcM V T A' ns dd (fl ++ [(k, v)]) (zz + 1) := by
  obtain ⟨⟨a1, a2, a3, a4⟩, b, ⟨c1, c2, c3⟩, c4⟩ := h
  have hl : (fl ++ [(k, v)]).length = fl.length + 1 := List.length_append
  have hs : zz + 1 - (fl ++ [(k, v)]).length = zz - fl.length := by rw [hl]; omega
  refine ⟨⟨by omega, by omega, ?_, np⟩, fun q hq => ?_, ⟨fun h hh => ?_, ?_, ?_⟩, c4.mv (fun i _ => ⟨by rw [ea _ (by omega) (by omega) (by omega)], by rw [ea _ (by omega) (by omega) (by omega)]⟩)⟩
  · rw [hs]
    refine (hg_seg_app fl [(k, v)] _).mpr ⟨a3.mv (fun i h1 h2 => eb i (by omega)), ?_, trivial⟩
    rw [show zz - fl.length + fl.length = zz by omega]
    exact ec
  · obtain ⟨f, f1, f2, f3, f4⟩ := b q hq
    exact ⟨f, by rw [ea _ (by omega) (by omega) (by omega)]; exact f1, by rw [hs]; exact f2, f3.mv (fun i h1 h2 => eb i (by omega)), by rw [ea _ (by omega) (by omega) (by omega)]; exact f4⟩
  · rw [ea _ (by omega) (by omega) (by omega)]; exact c1 h hh
  · rw [ef _ 6 (by omega) (by omega) (by omega) (by omega)]; exact c2
  · rw [ef _ 7 (by omega) (by omega) (by omega) (by omega)]; exact c3
theorem hcM.start (h : hcM V T A ns dd [] zz) (e : A'.1 = hs_up A.1 (T + 4) 5 (Int32.ofNat 0)) (f : A'.2 = A.2) : hcM V T A' ns dd [] zz := by
  obtain ⟨⟨a1, a2, a3, a4⟩, b, ⟨c1, c2, c3⟩, c4⟩ := h
  refine ⟨⟨by rw [e, hup2 (by omega)]; exact a1, a2, trivial, hg_np0⟩, fun q hq => ?_, ⟨fun h hh => ?_, ?_, ?_⟩, c4.mv (fun i _ => ⟨by rw [f], by rw [f]⟩)⟩
  · rw [f]; exact b q hq
  · rw [f]; exact c1 h hh
  · rw [e, hup2 (by omega)]; exact c2
  · rw [e, hup2 (by omega)]; exact c3
theorem hcM.put {s q : Nat} {l : hg_L} {x : Int32} (h : hcM V T A ns dd (hg_law s l) zz) (hs : s + (hg_law s l).length = zz) (hq : q < 4) (hx : x.toInt = (s : Int)) (e1 : A1.1 = A.1) (f1 : A1.2.1 = hs_up A.2.1 (T + 6) q x) (e2 : A'.1 = A1.1) (f2 : A'.2.1 = hs_up A1.2.1 (T + 7) q (A.1 (T + 4) 5)) : hcM V T A' ns (dd.1, dd.2.1, dd.2.2.1, fun k => if k = q then l else dd.2.2.2 k) [] zz := by
  obtain ⟨⟨a1, a2, a3, a4⟩, b, ⟨c1, c2, c3⟩, c4⟩ := h
  have e : A'.1 = A.1 := e2.trans e1
  have ea : ∀ i j, ¬ i = T + 6 → ¬ i = T + 7 → A'.2.1 i j = A.2.1 i j := fun i j h1 h2 => by rw [f2, hup2 (fun w => h2 w.1), f1, hup2 (fun w => h1 w.1)]
  refine ⟨⟨by rw [e]; exact a1, Nat.zero_le _, trivial, hg_np0⟩, fun j hj => ?_, ⟨fun h hh => ?_, ?_, ?_⟩, c4.mv (fun i _ => ⟨ea _ _ (by omega) (by omega), ea _ _ (by omega) (by omega)⟩)⟩
  · have hz : zz - ([] : hg_C).length = zz := rfl
    show ∃ f : Nat, (A'.2.1 (T + 6) j).toInt = (f : Int) ∧ f + (hg_law f (if j = q then l else dd.2.2.2 j)).length ≤ zz - ([] : hg_C).length ∧ hg_seg (A'.2.1 (T + 5)) f (hg_law f (if j = q then l else dd.2.2.2 j)) ∧ hg_np (A'.2.1 (T + 7) j) (hg_law f (if j = q then l else dd.2.2.2 j))
    rw [hz]
    by_cases w : j = q
    · subst w
      rw [if_pos rfl]
      refine ⟨s, by rw [f2, hup2 (by omega), f1, hup1]; exact hx, by omega, ?_, by rw [f2, hup1]; exact a4⟩
      rw [show zz - (hg_law s l).length = s by omega] at a3
      exact a3.mv (fun i _ _ => ea _ _ (by omega) (by omega))
    · rw [if_neg w]
      obtain ⟨f, b1, b2, b3, b4⟩ := b j hj
      refine ⟨f, by rw [f2, hup2 (by omega), f1, hup2 (by omega)]; exact b1, by omega, b3.mv (fun i _ _ => ea _ _ (by omega) (by omega)), by rw [f2, hup2 (by omega), f1, hup2 (by omega)]; exact b4⟩
  · rw [ea _ _ (by omega) (by omega)]; exact c1 h hh
  · rw [e]; exact c2
  · rw [e]; exact c3
theorem hcM.land {l1 l2 : hg_C} {j : Nat} {x : Int32} (h : hcM V T A ns dd (l1 ++ (6, v) :: l2) zz) (hj : j + (l2.length + 1) = zz) (hx : x.toInt = 8 * (zz : Int) + 6) (e : A'.1 = A.1) (f : A'.2.1 = hs_up A.2.1 (T + 5) j x) : hcM V T A' ns dd (l1 ++ (6, (zz : Int)) :: l2) zz := by
  obtain ⟨⟨a1, a2, a3, a4⟩, b, ⟨c1, c2, c3⟩, c4⟩ := h
  have hl : (l1 ++ (6, v) :: l2).length = l1.length + (l2.length + 1) := by rw [List.length_append]; rfl
  have hl' : (l1 ++ (6, (zz : Int)) :: l2).length = l1.length + (l2.length + 1) := by rw [List.length_append]; rfl
  have ea : ∀ i q, ¬ (i = T + 5 ∧ q = j) → A'.2.1 i q = A.2.1 i q := fun i q w => by rw [f, hup2 w]
  rw [hl] at a2 a3 b
  refine ⟨⟨by rw [e]; exact a1, by omega, ?_, fun w m => ?_⟩, fun q hq => ?_, ⟨fun h hh => ?_, ?_, ?_⟩, c4.mv (fun i _ => ⟨ea _ _ (by omega), ea _ _ (by omega)⟩)⟩
  · rw [hl']
    obtain ⟨s1, s2, s3⟩ := (hg_seg_app l1 ((6, v) :: l2) _).mp a3
    refine (hg_seg_app l1 ((6, (zz : Int)) :: l2) _).mpr ⟨s1.mv (fun i _ _ => ea _ _ (by omega)), ?_, s3.mv (fun i _ _ => ea _ _ (by omega))⟩
    rw [show zz - (l1.length + (l2.length + 1)) + l1.length = j by omega, f, hup1]
    exact hx
  · rw [e] at w
    refine a4 w ?_
    rcases List.mem_append.mp m with m | m
    · exact List.mem_append.mpr (Or.inl m)
    · refine List.mem_append.mpr (Or.inr ?_)
      rcases List.mem_cons.mp m with m | m
      · exact absurd (show (1 : Nat) = 6 from congrArg Prod.fst m) (by decide)
      · exact List.mem_cons_of_mem _ m
  · obtain ⟨f0, b1, b2, b3, b4⟩ := b q hq
    refine ⟨f0, by rw [ea _ _ (by omega)]; exact b1, by rw [hl']; exact b2, b3.mv (fun i _ _ => ea _ _ (by omega)), by rw [ea _ _ (by omega)]; exact b4⟩
  · rw [ea _ _ (by omega)]; exact c1 h hh
  · rw [e]; exact c2
  · rw [e]; exact c3
theorem hcM.house {u j : Nat} {x y z : Int32} (h : hcM V T A ns dd fl zz) (hj : j = ns.length) (e1 : A1.1 = A.1) (f1 : A1.2.1 = hs_up A.2.1 (T + 1) j x) (e2 : A2.1 = A1.1) (f2 : A2.2.1 = hs_up A1.2.1 (T + 2) j y) (e3 : A'.1 = hs_up A2.1 T 4 z) (f3 : A'.2 = A2.2) (hx : x.toInt = V (u + 1)) (hy : y.toInt = V (u + 2)) : hcM V T A' (u :: ns) dd fl zz := by
  obtain ⟨⟨a1, a2, a3, a4⟩, b, ⟨c1, c2, c3⟩, c4⟩ := h
  have ee : ∀ i q, ¬ (i = T ∧ q = 4) → A'.1 i q = A.1 i q := fun i q w => by rw [e3, hup2 w, e2, e1]
  have ea : ∀ i q, ¬ (i = T + 1 ∧ q = j) → ¬ (i = T + 2 ∧ q = j) → A'.2.1 i q = A.2.1 i q := fun i q w1 w2 => by rw [f3, f2, hup2 w2, f1, hup2 w1]
  refine ⟨⟨by rw [ee _ _ (by omega)]; exact a1, a2, a3.mv (fun i _ _ => ea _ _ (by omega) (by omega)), by rw [ee _ _ (by omega)]; exact a4⟩, fun q hq => ?_, ⟨fun h hh => ?_, ?_, ?_⟩, ?_, ?_, c4.mv (fun i hi => ⟨ea _ _ (by omega) (by omega), ea _ _ (by omega) (by omega)⟩)⟩
  · obtain ⟨f0, b1, b2, b3, b4⟩ := b q hq
    exact ⟨f0, by rw [ea _ _ (by omega) (by omega)]; exact b1, b2, b3.mv (fun i _ _ => ea _ _ (by omega) (by omega)), by rw [ea _ _ (by omega) (by omega)]; exact b4⟩
  · rw [ea _ _ (by omega) (by omega)]; exact c1 h hh
  · rw [ee _ _ (by omega)]; exact c2
  · rw [ee _ _ (by omega)]; exact c3
  · rw [← hj, f3, f2, hup2 (by omega), f1, hup1]; exact hx
  · rw [← hj, f3, f2, hup1]; exact hy
theorem hcM.sendN {x : Int32} {b c : Int} (h : hcM V T A ns dd fl zz) (hb : ¬ (0 ≤ b ∧ b ≤ 23)) (e : A'.1 = hs_up A.1 T 5 x) (f : A'.2 = A.2) : hcM V T A' ns (fun h => if (h : Int) = b then c else dd.1 h, dd.2) fl zz := by
  obtain ⟨a, q, ⟨c1, c2, c3⟩, c4⟩ := h
  have ee : ∀ i q, ¬ (i = T ∧ q = 5) → A'.1 i q = A.1 i q := fun i q w => by rw [e, hup2 w]
  refine ⟨by rw [ee _ _ (by omega), ee _ _ (by omega), f]; exact a, by rw [f]; exact q, ⟨fun j hj => ?_, by rw [ee _ _ (by omega)]; exact c2, by rw [ee _ _ (by omega)]; exact c3⟩, c4.mv (fun i _ => ⟨by rw [f], by rw [f]⟩)⟩
  rw [f]
  show _ = if (j : Int) = b then c else dd.1 j
  rw [if_neg (by omega)]
  exact c1 j hj
theorem hcM.sendY {x y : Int32} {b c : Int} {j : Nat} (h : hcM V T A ns dd fl zz) (hj : (j : Int) = b) (e1 : A1.1 = A.1) (f1 : A1.2.1 = hs_up A.2.1 (T + 3) j y) (hy : y.toInt = c) (e : A'.1 = hs_up A1.1 T 5 x) (f : A'.2 = A1.2) : hcM V T A' ns (fun h => if (h : Int) = b then c else dd.1 h, dd.2) fl zz := by
  obtain ⟨⟨a1, a2, a3, a4⟩, q, ⟨c1, c2, c3⟩, c4⟩ := h
  have ee : ∀ i q, ¬ (i = T ∧ q = 5) → A'.1 i q = A.1 i q := fun i q w => by rw [e, hup2 w, e1]
  have ea : ∀ i q, ¬ (i = T + 3 ∧ q = j) → A'.2.1 i q = A.2.1 i q := fun i q w => by rw [f, f1, hup2 w]
  refine ⟨⟨by rw [ee _ _ (by omega)]; exact a1, a2, a3.mv (fun i _ _ => ea _ _ (by omega)), by rw [ee _ _ (by omega)]; exact a4⟩, fun k hk => ?_, ⟨fun i hi => ?_, by rw [ee _ _ (by omega)]; exact c2, by rw [ee _ _ (by omega)]; exact c3⟩, c4.mv (fun i _ => ⟨ea _ _ (by omega), ea _ _ (by omega)⟩)⟩
  · obtain ⟨f0, b1, b2, b3, b4⟩ := q k hk
    exact ⟨f0, by rw [ea _ _ (by omega)]; exact b1, b2, b3.mv (fun i _ _ => ea _ _ (by omega)), by rw [ea _ _ (by omega)]; exact b4⟩
  · show _ = if (i : Int) = b then c else dd.1 i
    by_cases w : i = j
    · rw [if_pos (by omega), w, f, f1, hup1]
      exact hy
    · rw [if_neg (by omega), ea _ _ (by omega)]
      exact c1 i hi
theorem hcM.fld {x : Int32} (h : hcM V T A ns dd fl zz) (hk : k = 6 ∨ k = 7) (e : A'.1 = hs_up A.1 T k x) (f : A'.2 = A.2) (hx : x.toInt = v) : hcM V T A' ns (dd.1, (if k = 6 then v else dd.2.1), (if k = 7 then v else dd.2.2.1), dd.2.2.2) fl zz := by
  obtain ⟨a, q, ⟨c1, c2, c3⟩, c4⟩ := h
  have ee : ∀ i q, ¬ (i = T ∧ q = k) → A'.1 i q = A.1 i q := fun i q w => by rw [e, hup2 w]
  refine ⟨by rw [ee _ _ (by omega), ee _ _ (by omega), f]; exact a, by rw [f]; exact q, ⟨fun j hj => by rw [f]; exact c1 j hj, ?_, ?_⟩, c4.mv (fun i _ => ⟨by rw [f], by rw [f]⟩)⟩
  · show (A'.1 T 6).toInt = if k = 6 then v else dd.2.1
    by_cases w : k = 6
    · rw [if_pos w, ← w, e, hup1]; exact hx
    · rw [if_neg w, ee _ _ (by omega)]; exact c2
  · show (A'.1 T 7).toInt = if k = 7 then v else dd.2.2.1
    by_cases w : k = 7
    · rw [if_pos w, ← w, e, hup1]; exact hx
    · rw [if_neg w, ee _ _ (by omega)]; exact c3
/-! both at once -/
def hcR2 (V S : Nat → Int) (T : Nat) (A : hs_A) (ns : List Nat) (p : Option Nat) (sn : Nat) (o : Option (Nat × Nat)) (dd : hg_D) (fl : hg_C) (zz : Nat) : Prop := (A.1 T 4).toInt = (ns.length : Int) ∧ (A.1 T 5).toInt = (sn : Int) ∧ hcN A ns ∧ (∀ u, p = some u → A.2.2.1 25 ns.length = A.2.2.1 23 u) ∧ hcL S (A.1 20 7).toInt (A.1 20 8).toInt o ∧ hcM V T A ns dd fl zz
theorem hcR2.r (h : hcR2 V S T A ns p sn o dd fl zz) : hcR S T A ns p sn o := ⟨h.1, h.2.1, h.2.2.1, h.2.2.2.1, h.2.2.2.2.1⟩
theorem hcR2.m (h : hcR2 V S T A ns p sn o dd fl zz) : hcM V T A ns dd fl zz := h.2.2.2.2.2
theorem hcR2.of (h : hcR S T A ns p sn o) (m : hcM V T A ns dd fl zz) : hcR2 V S T A ns p sn o dd fl zz := ⟨h.1, h.2.1, h.2.2.1, h.2.2.2.1, h.2.2.2.2, m⟩
theorem hcR2.up {i q : Nat} {x : Int32} (h : hcR2 V S T A ns p sn o dd fl zz) (e : A'.1 = hs_up A.1 i q x) (f : A'.2 = A.2) (h1 : T + 8 < i) (h2 : ¬ (i = 20 ∧ (q = 7 ∨ q = 8))) : hcR2 V S T A' ns p sn o dd fl zz := .of (h.r.up e f (by omega) h2) (h.m.mv (fun a b _ _ _ => by rw [e, hup2 (by omega)]) (fun a _ _ => by rw [f]))
theorem hcR2.late {x y : Int32} {c t : Nat} (h : hcR2 V S T A ns p sn o dd fl zz) (hT : T ≤ 11) (e : A1.1 = hs_up A.1 20 7 x) (f : A1.2 = A.2) (e' : A'.1 = hs_up A1.1 20 8 y) (f' : A'.2 = A1.2) (h0 : (A.1 20 7).toInt = 0) (hx : x.toInt = (c : Int)) (hy : y.toInt = S t) (hc : c ≠ 0) : hcR2 V S T A' ns p sn (hq_late c t o) dd fl zz := .of (h.r.late hT e f e' f' h0 hx hy hc) (h.m.mv (fun a b _ _ _ => by rw [e', hup2 (by omega), e, hup2 (by omega)]) (fun a _ _ => by rw [f', f]))
theorem hcR2.late0 {c t : Nat} (h : hcR2 V S T A ns p sn o dd fl zz) (h0 : ¬ (A.1 20 7).toInt = 0) : hcR2 V S T A ns p sn (hq_late c t o) dd fl zz := .of (h.r.late0 h0) h.m
theorem hcR2.name {j t : Nat} {x : Int64} (h : hcR2 V S T A ns p sn o dd fl zz) (e : A'.1 = A.1) (f : A'.2.1 = A.2.1) (g : A'.2.2.1 = hs_upL A.2.2.1 25 j x) (hj : ns.length = j) (hx : x = A.2.2.1 23 t) : hcR2 V S T A' ns (some t) sn o dd fl zz := .of (h.r.name e g hj hx) (h.m.mv (fun a b _ _ _ => by rw [e]) (fun a _ _ => by rw [f]))
theorem hcR2.addN {x y : Int32} (h : hcR2 V S T A ns p sn o dd fl zz) (hT : T ≤ 11) (hk : ¬ k = 1) (e1 : A1.1 = A.1) (f1 : A1.2.1 = hs_up A.2.1 (T + 5) zz x) (g1 : A1.2.2 = A.2.2) (e2 : A'.1 = hs_up A1.1 (T + 4) 4 y) (f2 : A'.2 = A1.2) (hx : x.toInt = 8 * v + (k : Int)) (hy : y.toInt = (zz : Int) + 1) : hcR2 V S T A' ns p sn o dd (fl ++ [(k, v)]) (zz + 1) := by
  have ee : ∀ i q, ¬ (i = T + 4 ∧ q = 4) → A'.1 i q = A.1 i q := fun i q w => by rw [e2, hup2 w, e1]
  have ea : ∀ i q, ¬ (i = T + 5 ∧ q = zz) → A'.2.1 i q = A.2.1 i q := fun i q w => by rw [f2, f1, hup2 w]
  refine .of (h.r.fr (ee _ _ (by omega)) (ee _ _ (by omega)) (by rw [f2, g1]) (by rw [f2, g1]) (ee _ _ (by omega)) (ee _ _ (by omega))) (h.m.add ?_ (fun i q _ _ _ w => ee i q (by omega)) (fun i _ _ w => funext (fun j => ea i j (by omega))) (fun j w => ea _ j (by omega)) ?_ ?_)
  · rw [e2, hup1]; exact hy
  · rw [f2, f1, hup1]; exact hx
  · rw [ee _ _ (by omega)]; exact h.m.1.2.2.2.app hk
theorem hcR2.addV {a x y : Int32} (h : hcR2 V S T A ns p sn o dd fl zz) (hT : T ≤ 11) (ha : a.toInt = v) (h0 : 0 ≤ v) (h8 : v ≤ 8) (e0 : A0.1 = hs_up A.1 (T + 4) 5 (A.1 (T + 4) 5 ||| (Int32.ofNat 1 <<< (a &&& 31)))) (f0 : A0.2 = A.2) (e1 : A1.1 = A0.1) (f1 : A1.2.1 = hs_up A0.2.1 (T + 5) zz x) (g1 : A1.2.2 = A0.2.2) (e2 : A'.1 = hs_up A1.1 (T + 4) 4 y) (f2 : A'.2 = A1.2) (hx : x.toInt = 8 * v + ((1 : Nat) : Int)) (hy : y.toInt = (zz : Int) + 1) : hcR2 V S T A' ns p sn o dd (fl ++ [(1, v)]) (zz + 1) := by
  have ee : ∀ i q, ¬ (i = T + 4 ∧ (q = 4 ∨ q = 5)) → A'.1 i q = A.1 i q := fun i q w => by rw [e2, hup2 (by omega), e1, e0, hup2 (by omega)]
  have ea : ∀ i q, ¬ (i = T + 5 ∧ q = zz) → A'.2.1 i q = A.2.1 i q := fun i q w => by rw [f2, f1, hup2 w, f0]
  refine .of (h.r.fr (ee _ _ (by omega)) (ee _ _ (by omega)) (by rw [f2, g1, f0]) (by rw [f2, g1, f0]) (ee _ _ (by omega)) (ee _ _ (by omega))) (h.m.add ?_ (fun i q _ _ _ w => ee i q (by omega)) (fun i _ _ w => funext (fun j => ea i j (by omega))) (fun j w => ea _ j (by omega)) ?_ ?_)
  · rw [e2, hup1]; exact hy
  · rw [f2, f1, hup1]; exact hx
  · rw [e2, hup2 (by omega), e1, e0, hup1]
    exact h.m.1.2.2.2.var ha h0 h8 rfl
theorem hcR2.W0 {dd' : hg_D} {fl' : hg_C} {zz' : Nat} (h : hcR2 V S T A ns p sn o dd fl zz) (hT : T ≤ 11) (w : hcW T A A') (m : hcM V T A' ns dd' fl' zz') : hcR2 V S T A' ns p sn o dd' fl' zz' := .of (h.r.W hT w) m
end HCM2
def hcOK2 (K V S : Nat → Int) (E : Nat → Nat → Bool) (T : Nat) (A : hs_A) (t : Nat) : Prop := ∃ (t' a b c : Nat) (ns : List Nat) (nm sn : Nat) (o : Option (Nat × Nat)) (zz : Nat), t < t' ∧ hcB K V S E T A t' (0, a, b, c, ns, nm, sn, o) ∧ hcR2 V S T A ns none sn o (hg_q K V E t').1 [] zz ∧ zz ≤ 8 + t'
theorem hg_as {l1 c : hg_C} {x y : Nat × Int} : ((l1 ++ [x]) ++ c) ++ [y] = l1 ++ x :: (c ++ [y]) := by
  simp only [List.append_assoc, List.singleton_append, List.cons_append, List.nil_append]
theorem hg_ln {l : hg_C} {x : Nat × Int} : (l ++ [x]).length = l.length + 1 := List.length_append
theorem hg_as2 {a b c d : hg_C} : ((a ++ b) ++ c) ++ d = a ++ (b ++ (c ++ d)) := by rw [List.append_assoc, List.append_assoc]
theorem hg_nil : ([] : hg_C).length = 0 := rfl
