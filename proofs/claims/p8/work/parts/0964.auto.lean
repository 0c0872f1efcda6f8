/-! THE READING as a prefix automaton over the tokens: K their kinds, V their ints, E whether two names are the same.
    A state: where (0 a statement; 1-4 a house's name, wants, age, end; 5-7 sends; 8, 9 grief; 10, 11 seed; 12 a law's =; 13 a branch; 14 a unit is wanted; 15 behind a unit),
    the ifs, the context (0 left of <, 1 right of it, 2 behind then, 3 the last term), the depth, the tokens of the houses' names (the last first), its own name's token, the sends, the late fault (code and token). -/
abbrev hq_S : Type := Nat × Nat × Nat × Nat × List Nat × Nat × Nat × Option (Nat × Nat)
section HQ
variable (K V : Nat → Int) (E : Nat → Nat → Bool)
def hq_late (c t : Nat) (o : Option (Nat × Nat)) : Option (Nat × Nat) := match o with
  | none => some (c, t)
  | some x => some x
/-- an int within bounds, else WRONG is noted -/
def hq_rng (lo hi : Int) (t : Nat) (o : Option (Nat × Nat)) : Option (Nat × Nat) := if lo ≤ V t ∧ V t ≤ hi then o else hq_late 5 t o
def hq_go (t : Nat) (s : hq_S) : hq_S ⊕ Nat := if t < 400 then .inl s else .inr 2
/-- a token of kind k is wanted -/
def hq_must (k : Int) (t : Nat) (s : hq_S) : hq_S ⊕ Nat := if K t = k then hq_go t s else .inr 1
def hq_unit (t : Nat) (ifs ctx dp : Nat) (r : List Nat × Nat × Nat × Option (Nat × Nat)) : hq_S ⊕ Nat :=
  if K t = 21 ∨ (11 ≤ K t ∧ K t ≤ 19) then hq_go t (15, ifs, ctx, dp, r)
  else if K t = 31 then (if dp < 6 then hq_go t (14, ifs, ctx, dp + 1, r) else .inr 2)
  else .inr 1
def hq_out (t : Nat) (ifs ctx : Nat) (r : List Nat × Nat × Nat × Option (Nat × Nat)) : hq_S ⊕ Nat := match ctx with
  | 0 => hq_must K 30 t (14, ifs, 1, 0, r)
  | 1 => hq_must K 9 t (14, ifs, 2, 0, r)
  | 2 => hq_must K 10 t (13, ifs, 0, 0, r)
  | _ => hq_must K 24 t (0, 0, 0, 0, r)
def hq_dl (t : Nat) (s : hq_S) : hq_S ⊕ Nat := match s with
  | (0, _, _, _, ns, nm, sn, o) =>
    if K t = 22 then .inr 0
    else if K t = 0 then (if ns.length < 10 then hq_go t (1, 0, 0, 0, ns, nm, sn, o) else .inr 2)
    else if K t = 1 then (if sn < 8 then hq_go t (5, 0, 0, 0, ns, nm, sn, o) else .inr 2)
    else if K t = 6 then hq_go t (8, 0, 0, 0, ns, nm, sn, o)
    else if K t = 7 then hq_go t (10, 0, 0, 0, ns, nm, sn, o)
    else if 2 ≤ K t ∧ K t ≤ 5 then hq_go t (12, 0, 0, 0, ns, nm, sn, o)
    else .inr 1
  | (1, _, _, _, ns, _, sn, o) => hq_must K 20 t (2, 0, 0, 0, ns, t, sn, if ns.any (fun u => E u t) then hq_late 3 t o else o)
  | (2, _, _, _, ns, nm, sn, o) => hq_must K 21 t (3, 0, 0, 0, ns, nm, sn, hq_rng V 0 255 t o)
  | (3, _, _, _, ns, nm, sn, o) => hq_must K 21 t (4, 0, 0, 0, ns, nm, sn, hq_rng V 0 99 t o)
  | (4, _, _, _, ns, nm, sn, o) => hq_must K 24 t (0, 0, 0, 0, nm :: ns, nm, sn, o)
  | (5, _, _, _, ns, nm, sn, o) => hq_must K 21 t (6, 0, 0, 0, ns, nm, sn, hq_rng V 0 23 t o)
  | (6, _, _, _, ns, nm, sn, o) => hq_must K 21 t (7, 0, 0, 0, ns, nm, sn, hq_rng V 0 255 t o)
  | (7, _, _, _, ns, nm, sn, o) => hq_must K 24 t (0, 0, 0, 0, ns, nm, sn + 1, o)
  | (8, _, _, _, ns, nm, sn, o) => hq_must K 21 t (9, 0, 0, 0, ns, nm, sn, hq_rng V 1 99 t o)
  | (9, _, _, _, ns, nm, sn, o) => hq_must K 24 t (0, 0, 0, 0, ns, nm, sn, o)
  | (10, _, _, _, ns, nm, sn, o) => hq_must K 21 t (11, 0, 0, 0, ns, nm, sn, hq_rng V 0 9999 t o)
  | (11, _, _, _, ns, nm, sn, o) => hq_must K 24 t (0, 0, 0, 0, ns, nm, sn, o)
  | (12, _, _, _, ns, nm, sn, o) => hq_must K 25 t (13, 0, 0, 0, ns, nm, sn, o)
  | (13, ifs, _, _, r) =>
    if K t = 8 then (if ifs < 4 then hq_go t (14, ifs + 1, 0, 0, r) else .inr 2)
    else hq_unit K t ifs 3 0 r
  | (14, ifs, ctx, dp, r) => hq_unit K t ifs ctx dp r
  | (_, ifs, ctx, dp, r) =>
    if 26 ≤ K t ∧ K t ≤ 29 then hq_go t (14, ifs, ctx, dp, r)
    else match dp with
      | 0 => hq_out K t ifs ctx r
      | dp + 1 => hq_must K 32 t (15, ifs, ctx, dp, r)
def hq_q : Nat → Option hq_S
  | 0 => some (0, 0, 0, 0, [], 0, 0, none)
  | t + 1 => match hq_q t with
    | none => none
    | some s => match hq_dl K V E t s with
      | .inl s' => some s'
      | .inr _ => none
/-- at token t the reading ends, with k (0: the end of the text at a statement) -/
def hq_f (t k : Nat) : Prop := ∃ s, hq_q K V E t = some s ∧ hq_dl K V E t s = .inr k
theorem hq_dead {t : Nat} (h : hq_q K V E t = none) : ∀ n, hq_q K V E (t + n) = none
  | 0 => h
  | n + 1 => by
    show (match hq_q K V E (t + n) with
      | none => none
      | some s => match hq_dl K V E (t + n) s with
        | .inl s' => some s'
        | .inr _ => none) = none
    rw [hq_dead h n]
theorem hq_next {t : Nat} {s s' : hq_S} (h : hq_q K V E t = some s) (hd : hq_dl K V E t s = .inl s') : hq_q K V E (t + 1) = some s' := by
  show (match hq_q K V E t with
    | none => none
    | some s => match hq_dl K V E t s with
      | .inl s' => some s'
      | .inr _ => none) = some s'
  rw [h]
  dsimp only
  rw [hd]
theorem hq_f_dead {t k : Nat} (h : hq_f K V E t k) : hq_q K V E (t + 1) = none := by
  obtain ⟨s, h1, h2⟩ := h
  show (match hq_q K V E t with
    | none => none
    | some s => match hq_dl K V E t s with
      | .inl s' => some s'
      | .inr _ => none) = none
  rw [h1]
  dsimp only
  rw [h2]
theorem hq_f_one {t k t' k' : Nat} (h : hq_f K V E t k) (h' : hq_f K V E t' k') : t = t' ∧ k = k' := by
  have key : ∀ {a ka b kb : Nat}, hq_f K V E a ka → hq_f K V E b kb → ¬ a < b := by
    intro a ka b kb ha hb hlt
    obtain ⟨s, h1, -⟩ := hb
    have := hq_dead K V E (hq_f_dead K V E ha) (b - (a + 1))
    rw [show a + 1 + (b - (a + 1)) = b by omega, h1] at this
    cases this
  have e : t = t' := by
    have h1 := key h h'
    have h2 := key h' h
    omega
  subst e
  obtain ⟨s, h1, h2⟩ := h
  obtain ⟨s', h3, h4⟩ := h'
  rw [h1] at h3
  cases h3
  rw [h2] at h4
  cases h4
  exact ⟨rfl, rfl⟩
theorem hq_le {t : Nat} : ∀ {s : hq_S}, hq_q K V E t = some s → t ≤ 400 := by
  intro s h
  match t, h with
  | 0, _ => omega
  | t + 1, h =>
    have h' : (match hq_q K V E t with
      | none => none
      | some s => match hq_dl K V E t s with
        | .inl s' => some s'
        | .inr _ => none) = some s := h
    split at h'
    · cases h'
    next s1 hs1 =>
      split at h'
      next s2 hd =>
        have hgo : ∀ {s3 s4 : hq_S}, hq_go t s3 = .inl s4 → t < 400 := by
          intro s3 s4 hg
          unfold hq_go at hg
          split at hg
          · assumption
          · cases hg
        have hmu : ∀ {k : Int} {s3 s4 : hq_S}, hq_must K k t s3 = .inl s4 → t < 400 := by
          intro k s3 s4 hg
          unfold hq_must at hg
          split at hg
          · exact hgo hg
          · cases hg
        have hun : ∀ {a b c : Nat} {r : List Nat × Nat × Nat × Option (Nat × Nat)} {s4 : hq_S}, hq_unit K t a b c r = .inl s4 → t < 400 := by
          intro a b c r s4 hg
          unfold hq_unit at hg
          split at hg
          · exact hgo hg
          · split at hg
            · split at hg
              · exact hgo hg
              · cases hg
            · cases hg
        have hou : ∀ {a b : Nat} {r : List Nat × Nat × Nat × Option (Nat × Nat)} {s4 : hq_S}, hq_out K t a b r = .inl s4 → t < 400 := by
          intro a b r s4 hg
          unfold hq_out at hg
          split at hg <;> exact hmu hg
        have : t < 400 := by
          unfold hq_dl at hd
          split at hd
          · repeat' split at hd
            all_goals first | (cases hd; done) | exact hgo hd
          all_goals first | exact hmu hd | skip
          · repeat' split at hd
            all_goals first | (cases hd; done) | exact hgo hd | exact hun hd
          · exact hun hd
          · repeat' split at hd
            all_goals first | exact hgo hd | exact hou hd | exact hmu hd
        omega
      · cases h'
end HQ
