/-! WHAT A LAW TELLS: codes over a pile; branches -/
def hgv_ap (k : Nat) (a b : Int32) : Int32 := if k = 2 then a + b else if k = 3 then a - b else if k = 4 then a * b else a / b
def hgw_st (x : Nat → Int32) (p : Nat × Int) (s : List Int32) : Option (List Int32) :=
  if p.1 = 0 then some (Int32.ofInt p.2 :: s)
  else if p.1 = 1 then some (x p.2.toNat :: s)
  else match s with
    | b :: a :: r => if p.1 = 5 ∧ b = 0 then none else some (hgv_ap p.1 a b :: r)
    | _ => none
def hgw_ev (x : Nat → Int32) : hg_C → List Int32 → Option (List Int32)
  | [], s => some s
  | p :: l, s => match hgw_st x p s with
    | none => none
    | some s' => hgw_ev x l s'
def hgw_top : Option (List Int32) → Int32
  | some (v :: _) => v
  | _ => 0
def hgw_law (x : Nat → Int32) : hg_B → hg_C → Int32
  | [], tm => hgw_top (hgw_ev x tm [])
  | q :: r, tm => match hgw_ev x (q.1 ++ q.2.1) [] with
    | some (v :: u :: _) => if u.toInt < v.toInt then hgw_top (hgw_ev x q.2.2 []) else hgw_law x r tm
    | _ => 0
/-- heights: from h to h', never above B ahead of a number -/
def hgw_wf (B : Nat) : hg_C → Nat → Nat → Prop
  | [], h, h' => h = h'
  | p :: l, h, h' => ((p.1 = 0 ∨ p.1 = 1 ∧ 0 ≤ p.2 ∧ p.2 ≤ 8) ∧ h ≤ B ∧ hgw_wf B l (h + 1) h') ∨ ((2 ≤ p.1 ∧ p.1 ≤ 5) ∧ 2 ≤ h ∧ hgw_wf B l (h - 1) h')
def hgw_wb : hg_B → Prop
  | [] => True
  | q :: r => (hgw_wf 14 q.1 0 1 ∧ hgw_wf 14 q.2.1 0 1 ∧ hgw_wf 14 q.2.2 0 1) ∧ hgw_wb r
def hgw_wl (l : hg_L) : Prop := hgw_wb l.1 ∧ hgw_wf 14 l.2 0 1
section HWV
variable {x : Nat → Int32} {B : Nat}
theorem hgw_wf_app : ∀ {a b : hg_C} {h h1 h2 : Nat}, hgw_wf B a h h1 → hgw_wf B b h1 h2 → hgw_wf B (a ++ b) h h2
  | [], b, h, h1, h2, e, w => by
    have e' : h = h1 := e
    subst e'
    exact w
  | p :: a, b, h, h1, h2, e, w => by
    rcases e with ⟨e1, e2, e3⟩ | ⟨e1, e2, e3⟩
    · exact Or.inl ⟨e1, e2, hgw_wf_app e3 w⟩
    · exact Or.inr ⟨e1, e2, hgw_wf_app e3 w⟩
theorem hgw_wf_up : ∀ {a : hg_C} {h h1 : Nat}, hgw_wf B a h h1 → hgw_wf (B + 1) a (h + 1) (h1 + 1)
  | [], h, h1, e => congrArg Nat.succ (show h = h1 from e)
  | p :: a, h, h1, e => by
    rcases e with ⟨e1, e2, e3⟩ | ⟨e1, e2, e3⟩
    · exact Or.inl ⟨e1, by omega, hgw_wf_up e3⟩
    · refine Or.inr ⟨e1, by omega, ?_⟩
      have q := hgw_wf_up e3
      rw [show h - 1 + 1 = h + 1 - 1 by omega] at q
      exact q
theorem hgw_wf_le : ∀ {a : hg_C} {h h1 : Nat}, hgw_wf B a h h1 → hgw_wf (B + 1) a h h1
  | [], h, h1, e => e
  | p :: a, h, h1, e => by
    rcases e with ⟨e1, e2, e3⟩ | ⟨e1, e2, e3⟩
    · exact Or.inl ⟨e1, by omega, hgw_wf_le e3⟩
    · exact Or.inr ⟨e1, e2, hgw_wf_le e3⟩
theorem hgw_wf_ab {a b : hg_C} (ha : hgw_wf 14 a 0 1) (hb : hgw_wf 14 b 0 1) : hgw_wf 15 (a ++ b) 0 2 := hgw_wf_app (hgw_wf_le ha) (hgw_wf_up hb)
/-- a code that goes its way: its pile is as high as it says, what lay below stays -/
theorem hgw_ev_len : ∀ {c : hg_C} {s s' : List Int32} {h : Nat}, hgw_wf B c s.length h → hgw_ev x c s = some s' → s'.length = h
  | [], s, s', h, w, e => by
    have w' : s.length = h := w
    have e' : some s = some s' := e
    cases e'
    exact w'
  | p :: c, s, s', h, w, e => by
    have e' : (match hgw_st x p s with
      | none => none
      | some s' => hgw_ev x c s') = some s' := e
    split at e'
    · cases e'
    next s1 hs =>
      refine hgw_ev_len (s := s1) ?_ e'
      unfold hgw_st at hs
      rcases w with ⟨w1, w2, w3⟩ | ⟨w1, w2, w3⟩
      · split at hs
        · cases hs; exact w3
        · split at hs
          · cases hs; exact w3
          · omega
      · rw [if_neg (by omega), if_neg (by omega)] at hs
        split at hs
        next b a r =>
          split at hs
          · cases hs
          · cases hs
            exact w3
        · cases hs
theorem hgw_ev_app : ∀ {a b : hg_C} {s : List Int32}, hgw_ev x (a ++ b) s = match hgw_ev x a s with
    | none => none
    | some s' => hgw_ev x b s'
  | [], b, s => rfl
  | p :: a, b, s => by
    show (match hgw_st x p s with
      | none => none
      | some s' => hgw_ev x (a ++ b) s') = match (match hgw_st x p s with
      | none => none
      | some s' => hgw_ev x a s') with
      | none => none
      | some s' => hgw_ev x b s'
    cases hgw_st x p s with
    | none => rfl
    | some s' => exact hgw_ev_app
theorem hgw_ev_ext : ∀ {c : hg_C} {s t : List Int32} {h : Nat}, hgw_wf B c s.length h → hgw_ev x c (s ++ t) = (hgw_ev x c s).map (fun u => u ++ t)
  | [], s, t, h, _ => rfl
  | p :: c, s, t, h, w => by
    show (match hgw_st x p (s ++ t) with
      | none => none
      | some s' => hgw_ev x c s') = (match hgw_st x p s with
      | none => none
      | some s' => hgw_ev x c s').map (fun u => u ++ t)
    rcases w with ⟨w1, w2, w3⟩ | ⟨w1, w2, w3⟩
    · by_cases k0 : p.1 = 0
      · have e1 : hgw_st x p (s ++ t) = some ((Int32.ofInt p.2 :: s) ++ t) := by unfold hgw_st; rw [if_pos k0]; rfl
        have e2 : hgw_st x p s = some (Int32.ofInt p.2 :: s) := by unfold hgw_st; rw [if_pos k0]
        rw [e1, e2]
        exact hgw_ev_ext w3
      · have k1 : p.1 = 1 := by omega
        have e1 : hgw_st x p (s ++ t) = some ((x p.2.toNat :: s) ++ t) := by unfold hgw_st; rw [if_neg k0, if_pos k1]; rfl
        have e2 : hgw_st x p s = some (x p.2.toNat :: s) := by unfold hgw_st; rw [if_neg k0, if_pos k1]
        rw [e1, e2]
        exact hgw_ev_ext w3
    · match s, w2, w3 with
      | [], w2, _ => exact absurd w2 (by show ¬ 2 ≤ 0; omega)
      | [_], w2, _ => exact absurd w2 (by show ¬ 2 ≤ 1; omega)
      | b :: a :: r, _, w3 =>
        have e0 : ∀ r' : List Int32, hgw_st x p (b :: a :: r') = if p.1 = 5 ∧ b = 0 then none else some (hgv_ap p.1 a b :: r') := fun r' => by unfold hgw_st; rw [if_neg (by omega), if_neg (by omega)]
        have e1 := e0 (r ++ t)
        have e2 := e0 r
        show (match hgw_st x p (b :: a :: (r ++ t)) with
          | none => none
          | some s' => hgw_ev x c s') = _
        rw [e1, e2]
        by_cases q : p.1 = 5 ∧ b = 0
        · rw [if_pos q, if_pos q]; rfl
        · rw [if_neg q, if_neg q]
          exact hgw_ev_ext (s := hgv_ap p.1 a b :: r) w3
/-- both sides of <, one behind the other -/
theorem hgw_ev_two {a b : hg_C} (ha : hgw_wf 14 a 0 1) (hb : hgw_wf 14 b 0 1) : hgw_ev x (a ++ b) [] = match hgw_ev x a [], hgw_ev x b [] with
    | some (u :: _), some (v :: _) => some [v, u]
    | _, _ => none := by
  rw [hgw_ev_app]
  cases e1 : hgw_ev x a [] with
  | none => rfl
  | some s1 =>
    have l1 := hgw_ev_len (s := []) ha e1
    match s1, l1 with
    | [u], _ =>
      have e2 := hgw_ev_ext (x := x) (c := b) (s := []) (t := [u]) hb
      show hgw_ev x b [u] = _
      rw [show ([u] : List Int32) = [] ++ [u] from rfl, e2]
      cases e3 : hgw_ev x b [] with
      | none => rfl
      | some s2 =>
        have l2 := hgw_ev_len (s := []) hb e3
        match s2, l2 with
        | [v], _ => rfl
end HWV
/-! the codes that a text tells are of the right heights -/
def hgv_nw : List Nat → Nat
  | [] => 0
  | y :: w => if y = 31 then hgv_nw w else hgv_nw w + 1
def hgv_wo : List Nat → Prop
  | [] => True
  | y :: r => (y = 31 ∨ (26 ≤ y ∧ y < 28 ∧ hg_t0 r) ∨ (28 ≤ y ∧ y ≤ 29 ∧ hg_t1 r)) ∧ hgv_wo r
theorem hgv_nw_le : ∀ (w : List Nat), hgv_wo w → hgv_nw w ≤ 2 * hg_ct w + 2 ∧ (hg_t1 w → hgv_nw w ≤ 2 * hg_ct w + 1) ∧ (hg_t0 w → hgv_nw w ≤ 2 * hg_ct w)
  | [], _ => ⟨Nat.zero_le _, fun _ => Nat.zero_le _, fun _ => Nat.zero_le _⟩
  | y :: w, h => by
    obtain ⟨a, b, c⟩ := hgv_nw_le w h.2
    by_cases q : y = 31
    · have e1 : hgv_nw (y :: w) = hgv_nw w := by
        show (if y = 31 then hgv_nw w else hgv_nw w + 1) = _
        rw [if_pos q]
      have e2 : hg_ct (y :: w) = hg_ct w + 1 := by
        show (if y = 31 then hg_ct w + 1 else hg_ct w) = _
        rw [if_pos q]
      rw [e1, e2]
      exact ⟨by omega, fun _ => by omega, fun _ => by omega⟩
    · have e1 : hgv_nw (y :: w) = hgv_nw w + 1 := by
        show (if y = 31 then hgv_nw w else hgv_nw w + 1) = _
        rw [if_neg q]
      have e2 : hg_ct (y :: w) = hg_ct w := by
        show (if y = 31 then hg_ct w + 1 else hg_ct w) = _
        rw [if_neg q]
      rw [e1, e2]
      rcases h.1 with h1 | ⟨h1, h2, h3⟩ | ⟨h1, h2, h3⟩
      · exact absurd h1 q
      · have := c h3
        exact ⟨by omega, fun _ => by omega, fun t => absurd (show y = 31 from t) q⟩
      · have := b h3
        refine ⟨by omega, fun t => ?_, fun t => absurd (show y = 31 from t) q⟩
        have t' : y = 31 ∨ y < 28 := t
        omega
/-- what comes out keeps the heights -/
theorem hgv_fl_wf {st : Bool} : ∀ (w : List Nat) (o : hg_C), hgv_wo w → hgw_wf 14 o 0 (hgv_nw w + 1) → hgw_wf 14 (hg_fl st o w).1 0 (hgv_nw (hg_fl st o w).2 + 1) ∧ hgv_wo (hg_fl st o w).2
  | [], o, h, e => ⟨e, h⟩
  | y :: w, o, h, e => by
    by_cases q : y = 31 ∨ (st = true ∧ y < 28)
    · rw [hg_fl_stop q]
      exact ⟨e, h⟩
    · rw [hg_fl_pop q]
      have q31 : ¬ y = 31 := fun t => q (Or.inl t)
      have e1 : hgv_nw (y :: w) = hgv_nw w + 1 := by
        show (if y = 31 then hgv_nw w else hgv_nw w + 1) = _
        rw [if_neg q31]
      rw [e1] at e
      refine hgv_fl_wf w _ h.2 (hgw_wf_app e (Or.inr ⟨?_, by omega, rfl⟩))
      show 2 ≤ y - 24 ∧ y - 24 ≤ 5
      rcases h.1 with h1 | ⟨h1, h2, h3⟩ | ⟨h1, h2, h3⟩ <;> omega
theorem hgv_fl_t1 : ∀ (w : List Nat) (o : hg_C), hg_t1 (hg_fl true o w).2
  | [], o => trivial
  | y :: w, o => by
    by_cases q : y = 31 ∨ (true = true ∧ y < 28)
    · rw [hg_fl_stop q]
      rcases q with q | q
      · exact Or.inl q
      · exact Or.inr q.2
    · rw [hg_fl_pop q]
      exact hgv_fl_t1 w _
/-- what holds of all that was told so far -/
def hgw_iv (s : hq_S) (e : hg_S) : Prop :=
  ((∀ k, k < 4 → hgw_wl (e.1.2.2.2 k)) ∧ hgw_wb e.2.1.2.1) ∧
  (s.1 = 12 → e.2.2.1 = [] ∧ e.2.2.2 = []) ∧
  (s.1 = 13 → e.2.2.1 = [] ∧ e.2.2.2 = []) ∧
  (s.1 = 14 → hgw_wf 14 e.2.2.1 0 (hgv_nw e.2.2.2) ∧ hgv_wo e.2.2.2 ∧ hg_ct e.2.2.2 = s.2.2.2.1 ∧ s.2.2.2.1 ≤ 6) ∧
  (s.1 = 15 → hgw_wf 14 e.2.2.1 0 (hgv_nw e.2.2.2 + 1) ∧ hgv_wo e.2.2.2 ∧ hg_ct e.2.2.2 = s.2.2.2.1 ∧ s.2.2.2.1 ≤ 6) ∧
  (s.1 = 14 ∨ s.1 = 15 → (s.2.2.1 = 1 → hgw_wf 14 e.2.1.2.2.1 0 1) ∧ (s.2.2.1 = 2 → hgw_wf 14 e.2.1.2.2.1 0 1 ∧ hgw_wf 14 e.2.1.2.2.2 0 1))
theorem hgw_wb_app : ∀ {l : hg_B} {q : hg_C × hg_C × hg_C}, hgw_wb l → hgw_wf 14 q.1 0 1 → hgw_wf 14 q.2.1 0 1 → hgw_wf 14 q.2.2 0 1 → hgw_wb (l ++ [q])
  | [], q, _, a, b, c => ⟨⟨a, b, c⟩, trivial⟩
  | p :: l, q, h, a, b, c => ⟨h.1, hgw_wb_app h.2 a b c⟩
section HGWI
variable {K V : Nat → Int} {E : Nat → Nat → Bool} {t ifs ctx dp : Nat} {r : List Nat × Nat × Nat × Option (Nat × Nat)} {s s' : hq_S} {e : hg_S}
/-- a unit -/
theorem hgw_iv_un (hV : hg_V K V) (hl : (∀ k, k < 4 → hgw_wl (e.1.2.2.2 k)) ∧ hgw_wb e.2.1.2.1) (hw : hgw_wf 14 e.2.2.1 0 (hgv_nw e.2.2.2) ∧ hgv_wo e.2.2.2 ∧ hg_ct e.2.2.2 = dp ∧ dp ≤ 6) (hc : (ctx = 1 → hgw_wf 14 e.2.1.2.2.1 0 1) ∧ (ctx = 2 → hgw_wf 14 e.2.1.2.2.1 0 1 ∧ hgw_wf 14 e.2.1.2.2.2 0 1)) (hd : hq_unit K t ifs ctx dp r = .inl s') : hgw_iv s' (hg_un K V t e) := by
  obtain ⟨d, k, o, w⟩ := e
  obtain ⟨w1, w2, w3, w4⟩ := hw
  have w1' : hgw_wf 14 o 0 (hgv_nw w) := w1
  have w3' : hg_ct w = dp := w3
  have w2' : hgv_wo w := w2
  have hn := (hgv_nw_le w w2').1
  unfold hq_unit at hd
  split at hd
  next q =>
    obtain ⟨-, rfl⟩ := hq_go_inl hd
    by_cases h21 : K t = 21
    · rw [hg_un21 h21]
      exact ⟨hl, fun z => (by simp at z), fun z => (by simp at z), fun z => (by simp at z), fun _ => ⟨hgw_wf_app w1' (Or.inl ⟨Or.inl rfl, by omega, rfl⟩), w2', w3', w4⟩, fun _ => hc⟩
    · have hv : 11 ≤ K t ∧ K t ≤ 19 := by omega
      rw [hg_unv hv]
      exact ⟨hl, fun z => (by simp at z), fun z => (by simp at z), fun z => (by simp at z), fun _ => ⟨hgw_wf_app w1' (Or.inl ⟨Or.inr ⟨rfl, by show 0 ≤ K t - 11; omega, by show K t - 11 ≤ 8; omega⟩, by omega, rfl⟩), w2', w3', w4⟩, fun _ => hc⟩
  · split at hd
    next h31 =>
      split at hd
      next h6 =>
        obtain ⟨-, rfl⟩ := hq_go_inl hd
        rw [hg_un31 h31]
        refine ⟨hl, fun z => (by simp at z), fun z => (by simp at z), fun _ => ⟨?_, ⟨Or.inl rfl, w2'⟩, ?_, ?_⟩, fun z => (by simp at z), fun _ => hc⟩
        · show hgw_wf 14 o 0 (if 31 = 31 then hgv_nw w else hgv_nw w + 1)
          rw [if_pos rfl]
          exact w1'
        · show (if 31 = 31 then hg_ct w + 1 else hg_ct w) = dp + 1
          rw [if_pos rfl, w3']
        · show dp + 1 ≤ 6
          omega
      · cases hd
    · cases hd
theorem hgw_dl_iv (hV : hg_V K V) (hs15 : s.1 ≤ 15) (h : hgw_iv s e) (hd : hq_dl K V E t s = .inl s') : hgw_iv s' (hg_dl K V t s e) := by
  obtain ⟨hl, h12, h13, h14, h15, hc⟩ := h
  have keep : ∀ {s' : hq_S} {e' : hg_S}, s'.1 ≤ 11 → e'.1.2.2.2 = e.1.2.2.2 → e'.2.1 = e.2.1 → hgw_iv s' e' := fun {s' e'} a b c => ⟨⟨fun k hk => by rw [b]; exact hl.1 k hk, by rw [c]; exact hl.2⟩, fun z => absurd z (by omega), fun z => absurd z (by omega), fun z => absurd z (by omega), fun z => absurd z (by omega), fun z => absurd z (by omega)⟩
  obtain ⟨n, ifs, ctx, dp, ns, nm, sn, oo⟩ := s
  have hn15 : n ≤ 15 := hs15
  have hn : n = 0 ∨ n = 1 ∨ n = 2 ∨ n = 3 ∨ n = 4 ∨ n = 5 ∨ n = 6 ∨ n = 7 ∨ n = 8 ∨ n = 9 ∨ n = 10 ∨ n = 11 ∨ n = 12 ∨ n = 13 ∨ n = 14 ∨ n = 15 := by omega
  rcases hn with rfl | rfl | rfl | rfl | rfl | rfl | rfl | rfl | rfl | rfl | rfl | rfl | rfl | rfl | rfl | rfl
  · by_cases k22 : K t = 22
    · rw [hqd0_end k22] at hd; cases hd
    · by_cases k0 : K t = 0
      · rw [hqd0_house k0] at hd
        split at hd
        · obtain ⟨-, rfl⟩ := hq_go_inl hd
          rw [hg_d0n (by omega)]; exact keep (by dsimp only; omega) rfl rfl
        · cases hd
      · by_cases k1 : K t = 1
        · rw [hqd0_sends k1] at hd
          split at hd
          · obtain ⟨-, rfl⟩ := hq_go_inl hd
            rw [hg_d0n (by omega)]; exact keep (by dsimp only; omega) rfl rfl
          · cases hd
        · by_cases k6 : K t = 6
          · rw [hqd0_grief k6] at hd
            obtain ⟨-, rfl⟩ := hq_go_inl hd
            rw [hg_d0n (by omega)]; exact keep (by dsimp only; omega) rfl rfl
          · by_cases k7 : K t = 7
            · rw [hqd0_seed k7] at hd
              obtain ⟨-, rfl⟩ := hq_go_inl hd
              rw [hg_d0n (by omega)]; exact keep (by dsimp only; omega) rfl rfl
            · by_cases hk : 2 ≤ K t ∧ K t ≤ 5
              · rw [hqd0_law hk] at hd
                obtain ⟨-, rfl⟩ := hq_go_inl hd
                rw [hg_d0l hk]
                exact ⟨⟨hl.1, trivial⟩, fun _ => ⟨rfl, rfl⟩, fun z => (by simp at z), fun z => (by simp at z), fun z => (by simp at z), fun z => (by simp at z)⟩
              · rw [hqd0_else k22 (by omega)] at hd; cases hd
  · obtain ⟨-, -, rfl⟩ := hq_must_inl (show hq_must K 20 t _ = _ from hd); exact keep (by dsimp only; omega) rfl rfl
  · obtain ⟨-, -, rfl⟩ := hq_must_inl (show hq_must K 21 t _ = _ from hd); exact keep (by dsimp only; omega) rfl rfl
  · obtain ⟨-, -, rfl⟩ := hq_must_inl (show hq_must K 21 t _ = _ from hd); exact keep (by dsimp only; omega) rfl rfl
  · obtain ⟨-, -, rfl⟩ := hq_must_inl (show hq_must K 24 t _ = _ from hd); exact keep (by dsimp only; omega) rfl rfl
  · obtain ⟨-, -, rfl⟩ := hq_must_inl (show hq_must K 21 t _ = _ from hd); exact keep (by dsimp only; omega) rfl rfl
  · obtain ⟨-, -, rfl⟩ := hq_must_inl (show hq_must K 21 t _ = _ from hd); exact keep (by dsimp only; omega) rfl rfl
  · obtain ⟨-, -, rfl⟩ := hq_must_inl (show hq_must K 24 t _ = _ from hd); exact keep (by dsimp only; omega) rfl rfl
  · obtain ⟨-, -, rfl⟩ := hq_must_inl (show hq_must K 21 t _ = _ from hd); exact keep (by dsimp only; omega) rfl rfl
  · obtain ⟨-, -, rfl⟩ := hq_must_inl (show hq_must K 24 t _ = _ from hd); exact keep (by dsimp only; omega) rfl rfl
  · obtain ⟨-, -, rfl⟩ := hq_must_inl (show hq_must K 21 t _ = _ from hd); exact keep (by dsimp only; omega) rfl rfl
  · obtain ⟨-, -, rfl⟩ := hq_must_inl (show hq_must K 24 t _ = _ from hd); exact keep (by dsimp only; omega) rfl rfl
  · obtain ⟨-, -, rfl⟩ := hq_must_inl (show hq_must K 25 t _ = _ from hd)
    exact ⟨hl, fun z => (by simp at z), fun _ => h12 rfl, fun z => (by simp at z), fun z => (by simp at z), fun z => (by simp at z)⟩
  · obtain ⟨o0, w0⟩ := h13 rfl
    by_cases hk : K t = 8
    · rw [hqd13_if hk] at hd
      split at hd
      · obtain ⟨-, rfl⟩ := hq_go_inl hd
        rw [hg_d13i hk]
        refine ⟨hl, fun z => (by simp at z), fun z => (by simp at z), fun _ => ?_, fun z => (by simp at z), fun _ => ⟨fun z => (by simp at z), fun z => (by simp at z)⟩⟩
        rw [o0, w0]
        exact ⟨rfl, trivial, rfl, Nat.zero_le _⟩
      · cases hd
    · rw [hqd13_un hk] at hd
      rw [hg_d13u hk]
      refine hgw_iv_un hV hl ?_ ⟨fun z => (by simp at z), fun z => (by simp at z)⟩ hd
      rw [o0, w0]
      exact ⟨rfl, trivial, rfl, Nat.zero_le _⟩
  · exact hgw_iv_un hV hl (h14 rfl) (hc (Or.inl rfl)) hd
  · obtain ⟨d, k, o, w⟩ := e
    obtain ⟨w1, w2, w3, w4⟩ := h15 rfl
    have w1' : hgw_wf 14 o 0 (hgv_nw w + 1) := w1
    have w2' : hgv_wo w := w2
    have w3' : hg_ct w = dp := w3
    have hcc := hc (Or.inr rfl)
    by_cases hop : 26 ≤ K t ∧ K t ≤ 29
    · rw [hqd15_op hop] at hd
      obtain ⟨-, rfl⟩ := hq_go_inl hd
      obtain ⟨o1, v1, e1⟩ : ∃ o1 v1, hg_fl (decide (28 ≤ (K t).toNat)) o w = (o1, v1) := ⟨_, _, rfl⟩
      have f1 := hgv_fl_wf (st := decide (28 ≤ (K t).toNat)) w o w2' w1'
      rw [e1] at f1
      rw [hg_dop (x := (K t).toNat) (by omega) (by omega) (by omega) e1]
      refine ⟨hl, fun z => (by simp at z), fun z => (by simp at z), fun _ => ⟨?_, ⟨?_, f1.2⟩, ?_, w4⟩, fun z => (by simp at z), fun _ => hcc⟩
      · show hgw_wf 14 o1 0 (if (K t).toNat = 31 then hgv_nw v1 else hgv_nw v1 + 1)
        rw [if_neg (by omega)]
        exact f1.1
      · by_cases h28 : 28 ≤ (K t).toNat
        · rw [decide_eq_true h28] at e1
          have := hgv_fl_t1 w o
          rw [e1] at this
          exact Or.inr (Or.inr ⟨h28, by omega, this⟩)
        · rw [decide_eq_false h28] at e1
          have := (hg_ct_fl w o).2
          rw [e1] at this
          exact Or.inr (Or.inl ⟨by omega, by omega, this⟩)
      · show hg_ct ((K t).toNat :: v1) = dp
        rw [hg_ct_op (by omega), hg_ct_st e1]
        exact w3'
    · obtain ⟨o1, v1, e1⟩ : ∃ o1 v1, hg_fl false o w = (o1, v1) := ⟨_, _, rfl⟩
      have f1 := hgv_fl_wf (st := false) w o w2' w1'
      rw [e1] at f1
      match dp, w3', w4, hd with
      | 0, w3', w4, hd =>
        rw [hqd15_out hop] at hd
        rw [hg_dout hop e1]
        have hv1 := hg_ct0 e1 w3'
        subst hv1
        have f2 : hgw_wf 14 o1 0 1 := f1.1
        match ctx, hcc, hd with
        | 0, hcc, hd =>
          obtain ⟨-, -, rfl⟩ := hq_must_inl (show hq_must K 30 t _ = _ from hd)
          exact ⟨hl, fun z => (by simp at z), fun z => (by simp at z), fun _ => ⟨rfl, trivial, rfl, Nat.zero_le _⟩, fun z => (by simp at z), fun _ => ⟨fun _ => f2, fun z => (by simp at z)⟩⟩
        | 1, hcc, hd =>
          obtain ⟨-, -, rfl⟩ := hq_must_inl (show hq_must K 9 t _ = _ from hd)
          exact ⟨hl, fun z => (by simp at z), fun z => (by simp at z), fun _ => ⟨rfl, trivial, rfl, Nat.zero_le _⟩, fun z => (by simp at z), fun _ => ⟨fun z => (by simp at z), fun _ => ⟨hcc.1 rfl, f2⟩⟩⟩
        | 2, hcc, hd =>
          obtain ⟨-, -, rfl⟩ := hq_must_inl (show hq_must K 10 t _ = _ from hd)
          exact ⟨⟨hl.1, hgw_wb_app hl.2 (hcc.2 rfl).1 (hcc.2 rfl).2 f2⟩, fun z => (by simp at z), fun _ => ⟨rfl, rfl⟩, fun z => (by simp at z), fun z => (by simp at z), fun z => (by simp at z)⟩
        | c + 3, hcc, hd =>
          obtain ⟨-, -, rfl⟩ := hq_must_inl (show hq_must K 24 t _ = _ from hd)
          refine ⟨⟨fun q hq => ?_, hl.2⟩, fun z => (by simp at z), fun z => (by simp at z), fun z => (by simp at z), fun z => (by simp at z), fun z => (by simp at z)⟩
          show hgw_wl (if q = k.1 then (k.2.1, o1) else d.2.2.2 q)
          by_cases z : q = k.1
          · rw [if_pos z]
            exact ⟨hl.2, f2⟩
          · rw [if_neg z]
            exact hl.1 q hq
      | dp + 1, w3', w4, hd =>
        rw [hqd15_cl hop] at hd
        obtain ⟨-, -, rfl⟩ := hq_must_inl hd
        obtain ⟨r3, rfl, c3⟩ := hg_ctS e1 w3'
        rw [hg_dcl hop e1]
        have f2 : hgw_wf 14 o1 0 ((if 31 = 31 then hgv_nw r3 else hgv_nw r3 + 1) + 1) := f1.1
        rw [if_pos rfl] at f2
        have w4' : dp + 1 ≤ 6 := w4
        exact ⟨hl, fun z => (by simp at z), fun z => (by simp at z), fun z => (by simp at z), fun _ => ⟨f2, f1.2.2, c3, by show dp ≤ 6; omega⟩, fun _ => hcc⟩
theorem hgw_q_iv (hV : hg_V K V) : ∀ {t : Nat} {s : hq_S}, hq_q K V E t = some s → hgw_iv s (hg_q K V E t)
  | 0, s, h => by
    cases h
    refine ⟨⟨fun k _ => ⟨trivial, Or.inl ⟨Or.inl rfl, Nat.zero_le _, rfl⟩⟩, trivial⟩, fun z => (by simp at z), fun z => (by simp at z), fun z => (by simp at z), fun z => (by simp at z), fun z => (by simp at z)⟩
  | t + 1, s, h => by
    have h' : (match hq_q K V E t with
      | none => none
      | some s => match hq_dl K V E t s with
        | .inl s' => some s'
        | .inr _ => none) = some s := h
    split at h'
    · cases h'
    next s1 hs1 =>
      split at h'
      next s2 hd =>
        cases h'
        rw [hg_next hs1]
        exact hgw_dl_iv hV (hq_q_inv hs1).1.2.2.2.2 (hgw_q_iv hV hs1) hd
      · cases h'
end HGWI
