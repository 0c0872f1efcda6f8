/-! WHAT A TEXT TELLS, token by token: sends by the hour, grief, seed, laws; the law under way: its number, branches, both sides of <; what has come out, what waits -/
abbrev hg_C : Type := List (Nat × Int)
abbrev hg_B : Type := List (List (Nat × Int) × List (Nat × Int) × List (Nat × Int))
abbrev hg_L : Type := List (List (Nat × Int) × List (Nat × Int) × List (Nat × Int)) × List (Nat × Int)
abbrev hg_D : Type := (Nat → Int) × Int × Int × (Nat → List (List (Nat × Int) × List (Nat × Int) × List (Nat × Int)) × List (Nat × Int))
abbrev hg_W : Type := Nat × List (List (Nat × Int) × List (Nat × Int) × List (Nat × Int)) × List (Nat × Int) × List (Nat × Int)
abbrev hg_S : Type := hg_D × hg_W × List (Nat × Int) × List Nat
/-- what waits comes out: all of it down to a bracket; strong: down to + or - -/
def hg_fl (st : Bool) : hg_C → List Nat → hg_C × List Nat
  | o, [] => (o, [])
  | o, x :: w => if x = 31 ∨ (st = true ∧ x < 28) then (o, x :: w) else hg_fl st (o ++ [(x - 24, 0)]) w
def hg_un (K V : Nat → Int) (t : Nat) (e : hg_S) : hg_S :=
  if K t = 21 then (e.1, e.2.1, e.2.2.1 ++ [(0, V t)], e.2.2.2)
  else if K t = 31 then (e.1, e.2.1, e.2.2.1, 31 :: e.2.2.2)
  else (e.1, e.2.1, e.2.2.1 ++ [(1, K t - 11)], e.2.2.2)
def hg_op (K : Nat → Int) (t : Nat) (e : hg_S) : hg_S := (e.1, e.2.1, (hg_fl (decide (28 ≤ K t)) e.2.2.1 e.2.2.2).1, (K t).toNat :: (hg_fl (decide (28 ≤ K t)) e.2.2.1 e.2.2.2).2)
def hg_cl (e : hg_S) : hg_S := (e.1, e.2.1, (hg_fl false e.2.2.1 e.2.2.2).1, (hg_fl false e.2.2.1 e.2.2.2).2.tail)
/-- an expression is at its end, out is all of it -/
def hg_end (ctx : Nat) (d : hg_D) (k : hg_W) (o : hg_C) : hg_S := match ctx with
  | 0 => (d, (k.1, k.2.1, o, k.2.2.2), [], [])
  | 1 => (d, (k.1, k.2.1, k.2.2.1, o), [], [])
  | 2 => (d, (k.1, k.2.1 ++ [(k.2.2.1, k.2.2.2, o)], [], []), [], [])
  | _ => ((d.1, d.2.1, d.2.2.1, fun q => if q = k.1 then (k.2.1, o) else d.2.2.2 q), k, [], [])
def hg_dl (K V : Nat → Int) (t : Nat) (s : hq_S) (e : hg_S) : hg_S := match s with
  | (0, _, _, _, _) => if 2 ≤ K t ∧ K t ≤ 5 then (e.1, ((K t - 2).toNat, [], [], []), [], []) else e
  | (7, _, _, _, _) => ((fun h => if (h : Int) = V (t - 2) then V (t - 1) else e.1.1 h, e.1.2), e.2)
  | (9, _, _, _, _) => ((e.1.1, V (t - 1), e.1.2.2), e.2)
  | (11, _, _, _, _) => ((e.1.1, e.1.2.1, V (t - 1), e.1.2.2.2), e.2)
  | (13, _, _, _, _) => if K t = 8 then e else hg_un K V t e
  | (14, _, _, _, _) => hg_un K V t e
  | (15, _, ctx, dp, _) => if 26 ≤ K t ∧ K t ≤ 29 then hg_op K t e else match dp with
    | 0 => hg_end ctx e.1 e.2.1 (hg_fl false e.2.2.1 e.2.2.2).1
    | _ + 1 => hg_cl e
  | _ => e
def hg_d0 : hg_D := (fun _ => 0, 6, 0, fun k => ([], [(0, if k = 0 then 1 else 0)]))
def hg_q (K V : Nat → Int) (E : Nat → Nat → Bool) : Nat → hg_S
  | 0 => (hg_d0, (0, [], [], []), [], [])
  | t + 1 => match hq_q K V E t with
    | none => hg_q K V E t
    | some s => hg_dl K V t s (hg_q K V E t)
section HG
variable {K V : Nat → Int} {E : Nat → Nat → Bool}
theorem hg_next {t : Nat} {s : hq_S} (h : hq_q K V E t = some s) : hg_q K V E (t + 1) = hg_dl K V t s (hg_q K V E t) := by
  show (match hq_q K V E t with
    | none => hg_q K V E t
    | some s => hg_dl K V t s (hg_q K V E t)) = _
  rw [h]
/-- bounds of the ints -/
def hg_V (K V : Nat → Int) : Prop := ∀ t, K t = 21 → 0 ≤ V t ∧ V t ≤ 9999
theorem hg_fl_app {st : Bool} {a : hg_C} : ∀ (w : List Nat) (o : hg_C), hg_fl st (a ++ o) w = (a ++ (hg_fl st o w).1, (hg_fl st o w).2)
  | [], o => rfl
  | x :: w, o => by
    unfold hg_fl
    split
    · rfl
    · rw [List.append_assoc]
      exact hg_fl_app w _
theorem hg_fl_ff : ∀ (w : List Nat) (o : hg_C), hg_fl false o w = hg_fl false (hg_fl true o w).1 (hg_fl true o w).2
  | [], o => rfl
  | x :: w, o => by
    by_cases h : x = 31
    · subst h; rfl
    · by_cases h2 : x < 28
      · rw [show hg_fl true o (x :: w) = (o, x :: w) by unfold hg_fl; rw [if_pos (Or.inr ⟨rfl, h2⟩)]]
      · rw [show hg_fl true o (x :: w) = hg_fl true (o ++ [(x - 24, 0)]) w by
          show (if x = 31 ∨ (true = true ∧ x < 28) then _ else _) = _
          rw [if_neg (by omega)]]
        rw [show hg_fl false o (x :: w) = hg_fl false (o ++ [(x - 24, 0)]) w by
          show (if x = 31 ∨ (false = true ∧ x < 28) then _ else _) = _
          rw [if_neg (by omega)]]
        exact hg_fl_ff w _
/-- nothing waits that is * or / -/
def hg_t1 : List Nat → Prop
  | [] => True
  | x :: _ => x = 31 ∨ x < 28
/-- nothing waits -/
def hg_t0 : List Nat → Prop
  | [] => True
  | x :: _ => x = 31
theorem hg_fl_t1 {w : List Nat} {o : hg_C} (h : hg_t1 w) : hg_fl true o w = (o, w) := by
  cases w with
  | nil => rfl
  | cons x w =>
    show (if x = 31 ∨ (true = true ∧ x < 28) then _ else _) = _
    rw [if_pos (by rcases h with h | h; exact Or.inl h; exact Or.inr ⟨rfl, h⟩)]
theorem hg_fl_t0 {st : Bool} {w : List Nat} {o : hg_C} (h : hg_t0 w) : hg_fl st o w = (o, w) := by
  cases w with
  | nil => rfl
  | cons x w =>
    show (if x = 31 ∨ (st = true ∧ x < 28) then _ else _) = _
    rw [if_pos (Or.inl (show x = 31 from h))]
theorem hg_t0.t1 {w : List Nat} (h : hg_t0 w) : hg_t1 w := by
  cases w with
  | nil => trivial
  | cons x w => exact Or.inl h
/-- behind a product: an operator * or / that waited is out -/
theorem hg_fl_mul {w : List Nat} {o : hg_C} {x : Nat} (h : hg_t1 w) (h1 : 28 ≤ x) (h2 : x ≤ 29) : hg_fl true o (x :: w) = (o ++ [(x - 24, 0)], w) := by
  show (if x = 31 ∨ (true = true ∧ x < 28) then _ else hg_fl true (o ++ [(x - 24, 0)]) w) = _
  rw [if_neg (by omega)]
  exact hg_fl_t1 h
theorem hg_fl_add {w w3 : List Nat} {o o4 : hg_C} {x : Nat} (h : hg_t0 w) (h1 : x < 28) (e : hg_fl true o w3 = (o4, x :: w)) : hg_fl false o w3 = (o4 ++ [(x - 24, 0)], w) := by
  rw [hg_fl_ff, e]
  show (if x = 31 ∨ (false = true ∧ x < 28) then _ else hg_fl false (o4 ++ [(x - 24, 0)]) w) = _
  rw [if_neg (fun q => by rcases q with q | q; omega; exact absurd q.1 (by decide))]
  exact hg_fl_t0 h
theorem hg_fl_one {w w3 : List Nat} {o o4 : hg_C} (h : hg_t0 w) (e : hg_fl true o w3 = (o4, w)) : hg_fl false o w3 = (o4, w) := by
  rw [hg_fl_ff, e]
  exact hg_fl_t0 h
/-! the states by their kinds -/
variable {t a c n : Nat} {r : List Nat × Nat × Nat × Option (Nat × Nat)} {d : hg_D} {k : hg_W} {o o1 : hg_C} {w w1 : List Nat}
theorem hg_un21 (h : K t = 21) : hg_un K V t (d, k, o, w) = (d, k, o ++ [(0, V t)], w) := by
  unfold hg_un; rw [if_pos h]
theorem hg_un31 (h : K t = 31) : hg_un K V t (d, k, o, w) = (d, k, o, 31 :: w) := by
  unfold hg_un; rw [if_neg (by omega), if_pos h]
theorem hg_unv (h : 11 ≤ K t ∧ K t ≤ 19) : hg_un K V t (d, k, o, w) = (d, k, o ++ [(1, K t - 11)], w) := by
  unfold hg_un; rw [if_neg (by omega), if_neg (by omega)]
theorem hg_dop {x : Nat} (h : K t = (x : Int)) (h1 : 26 ≤ x) (h2 : x ≤ 29) (e : hg_fl (decide (28 ≤ x)) o w = (o1, w1)) : hg_dl K V t (15, a, c, n, r) (d, k, o, w) = (d, k, o1, x :: w1) := by
  show (if 26 ≤ K t ∧ K t ≤ 29 then hg_op K t (d, k, o, w) else _) = _
  rw [if_pos (by omega)]
  unfold hg_op
  have q : decide (28 ≤ K t) = decide (28 ≤ x) := by
    rw [h]
    apply decide_eq_decide.mpr
    omega
  rw [q, show (K t).toNat = x by omega]
  dsimp only
  rw [e]
theorem hg_dcl (h : ¬ (26 ≤ K t ∧ K t ≤ 29)) (e : hg_fl false o w = (o1, 31 :: w1)) : hg_dl K V t (15, a, c, n + 1, r) (d, k, o, w) = (d, k, o1, w1) := by
  show (if 26 ≤ K t ∧ K t ≤ 29 then hg_op K t (d, k, o, w) else hg_cl (d, k, o, w)) = _
  rw [if_neg h]
  unfold hg_cl
  dsimp only
  rw [e]
  rfl
theorem hg_dout (h : ¬ (26 ≤ K t ∧ K t ≤ 29)) (e : hg_fl false o w = (o1, w1)) : hg_dl K V t (15, a, c, 0, r) (d, k, o, w) = hg_end c d k o1 := by
  show (if 26 ≤ K t ∧ K t ≤ 29 then hg_op K t (d, k, o, w) else hg_end c d k (hg_fl false o w).1) = _
  rw [if_neg h, e]
theorem hg_d13u (h : ¬ K t = 8) {e : hg_S} : hg_dl K V t (13, a, c, n, r) e = hg_un K V t e := by
  show (if K t = 8 then e else hg_un K V t e) = _
  rw [if_neg h]
theorem hg_d13i (h : K t = 8) {e : hg_S} : hg_dl K V t (13, a, c, n, r) e = e := by
  show (if K t = 8 then e else hg_un K V t e) = _
  rw [if_pos h]
theorem hg_d0l (h : 2 ≤ K t ∧ K t ≤ 5) {e : hg_S} : hg_dl K V t (0, a, c, n, r) e = (e.1, ((K t - 2).toNat, [], [], []), [], []) := by
  show (if 2 ≤ K t ∧ K t ≤ 5 then _ else e) = _
  rw [if_pos h]
theorem hg_d0n (h : ¬ (2 ≤ K t ∧ K t ≤ 5)) {e : hg_S} : hg_dl K V t (0, a, c, n, r) e = e := by
  show (if 2 ≤ K t ∧ K t ≤ 5 then _ else e) = _
  rw [if_neg h]
end HG
/-! CODES OF THE CLASS: steps of laws, one behind the other -/
def hg_seg (a : Nat → Int32) : Nat → hg_C → Prop
  | _, [] => True
  | s, x :: r => (a s).toInt = 8 * x.2 + (x.1 : Int) ∧ hg_seg a (s + 1) r
def hg_br : Nat → hg_B → hg_C
  | _, [] => []
  | s, q :: r => q.1 ++ (q.2.1 ++ ((6, ((s + q.1.length + q.2.1.length + q.2.2.length + 2 : Nat) : Int)) :: (q.2.2 ++ ((7, 0) :: hg_br (s + q.1.length + q.2.1.length + q.2.2.length + 2) r))))
def hg_law (s : Nat) (l : hg_L) : hg_C := hg_br s l.1 ++ (l.2 ++ [(7, 0)])
def hg_np (x : Int32) (l : hg_C) : Prop := ((x >>> (Int32.ofNat 3 &&& 31)) &&& Int32.ofNat 1).toInt = 0 → (1, 3) ∉ l
def hg_hs (V : Nat → Int) (T : Nat) (A : hs_A) : List Nat → Prop
  | [] => True
  | u :: r => (A.2.1 (T + 1) r.length).toInt = V (u + 1) ∧ (A.2.1 (T + 2) r.length).toInt = V (u + 2) ∧ hg_hs V T A r
theorem hg_seg_app {a : Nat → Int32} : ∀ (l r : hg_C) (s : Nat), hg_seg a s (l ++ r) ↔ hg_seg a s l ∧ hg_seg a (s + l.length) r
  | [], r, s => by
    show hg_seg a s r ↔ True ∧ hg_seg a s r
    exact ⟨fun h => ⟨trivial, h⟩, fun h => h.2⟩
  | x :: l, r, s => by
    show ((a s).toInt = 8 * x.2 + (x.1 : Int) ∧ hg_seg a (s + 1) (l ++ r)) ↔ ((a s).toInt = 8 * x.2 + (x.1 : Int) ∧ hg_seg a (s + 1) l) ∧ hg_seg a (s + (l.length + 1)) r
    rw [hg_seg_app l r (s + 1), show s + 1 + l.length = s + (l.length + 1) by omega]
    exact ⟨fun h => ⟨⟨h.1, h.2.1⟩, h.2.2⟩, fun h => ⟨h.1.1, h.1.2, h.2⟩⟩
theorem hg_seg.mv {a a' : Nat → Int32} : ∀ {l : hg_C} {s : Nat}, hg_seg a s l → (∀ i, s ≤ i → i < s + l.length → a' i = a i) → hg_seg a' s l
  | [], _, _, _ => trivial
  | x :: l, s, h, e => by
    have hl : (x :: l).length = l.length + 1 := rfl
    exact ⟨by rw [e s (Nat.le_refl s) (by omega)]; exact h.1, hg_seg.mv h.2 (fun i h1 h2 => e i (by omega) (by omega))⟩
theorem hg_br_app : ∀ (l r : hg_B) (s : Nat), hg_br s (l ++ r) = hg_br s l ++ hg_br (s + (hg_br s l).length) r
  | [], r, s => rfl
  | q :: l, r, s => by
    have e := hg_br_app l r (s + q.1.length + q.2.1.length + q.2.2.length + 2)
    show q.1 ++ (q.2.1 ++ ((6, ((s + q.1.length + q.2.1.length + q.2.2.length + 2 : Nat) : Int)) :: (q.2.2 ++ ((7, 0) :: hg_br (s + q.1.length + q.2.1.length + q.2.2.length + 2) (l ++ r))))) = (q.1 ++ (q.2.1 ++ ((6, ((s + q.1.length + q.2.1.length + q.2.2.length + 2 : Nat) : Int)) :: (q.2.2 ++ ((7, 0) :: hg_br (s + q.1.length + q.2.1.length + q.2.2.length + 2) l))))) ++ hg_br (s + (q.1 ++ (q.2.1 ++ ((6, ((s + q.1.length + q.2.1.length + q.2.2.length + 2 : Nat) : Int)) :: (q.2.2 ++ ((7, 0) :: hg_br (s + q.1.length + q.2.1.length + q.2.2.length + 2) l))))).length) r
    rw [e]
    have hl : s + (q.1 ++ (q.2.1 ++ ((6, ((s + q.1.length + q.2.1.length + q.2.2.length + 2 : Nat) : Int)) :: (q.2.2 ++ ((7, 0) :: hg_br (s + q.1.length + q.2.1.length + q.2.2.length + 2) l))))).length = s + q.1.length + q.2.1.length + q.2.2.length + 2 + (hg_br (s + q.1.length + q.2.1.length + q.2.2.length + 2) l).length := by
      simp only [List.length_append, List.length_cons]
      omega
    rw [hl]
    simp only [List.append_assoc, List.cons_append]
/-- one branch more -/
theorem hg_br_one {l : hg_B} {s z : Nat} {a b c : hg_C} (h : s + (hg_br s l ++ (a ++ (b ++ (6, 0) :: (c ++ [(7, 0)])))).length = z) : hg_br s (l ++ [(a, b, c)]) = hg_br s l ++ (a ++ (b ++ (6, (z : Int)) :: (c ++ [(7, 0)]))) := by
  rw [hg_br_app]
  show hg_br s l ++ (a ++ (b ++ ((6, ((s + (hg_br s l).length + a.length + b.length + c.length + 2 : Nat) : Int)) :: (c ++ ((7, 0) :: []))))) = _
  rw [← h]
  have e : s + (hg_br s l).length + a.length + b.length + c.length + 2 = s + (hg_br s l ++ (a ++ (b ++ (6, 0) :: (c ++ [(7, 0)])))).length := by
    simp only [List.length_append, List.length_cons, List.length_nil]
    omega
  rw [e]
/-- what the class's reading has told into a terrace: d, the law under way fl, all steps z -/
def hcM (V : Nat → Int) (T : Nat) (A : hs_A) (ns : List Nat) (d : hg_D) (fl : hg_C) (z : Nat) : Prop :=
  ((A.1 (T + 4) 4).toInt = (z : Int) ∧ fl.length ≤ z ∧ hg_seg (A.2.1 (T + 5)) (z - fl.length) fl ∧ hg_np (A.1 (T + 4) 5) fl) ∧
  (∀ k, k < 4 → ∃ f : Nat, (A.2.1 (T + 6) k).toInt = (f : Int) ∧ f + (hg_law f (d.2.2.2 k)).length ≤ z - fl.length ∧ hg_seg (A.2.1 (T + 5)) f (hg_law f (d.2.2.2 k)) ∧ hg_np (A.2.1 (T + 7) k) (hg_law f (d.2.2.2 k))) ∧
  ((∀ h : Nat, h < 24 → (A.2.1 (T + 3) h).toInt = d.1 h) ∧ (A.1 T 6).toInt = d.2.1 ∧ (A.1 T 7).toInt = d.2.2.1) ∧ hg_hs V T A ns
section HCM
variable {V : Nat → Int} {T : Nat} {A A' : hs_A} {ns : List Nat} {d : hg_D} {fl : hg_C} {z : Nat}
theorem hg_hs.mv : ∀ {ns : List Nat}, hg_hs V T A ns → (∀ i, i < ns.length → A'.2.1 (T + 1) i = A.2.1 (T + 1) i ∧ A'.2.1 (T + 2) i = A.2.1 (T + 2) i) → hg_hs V T A' ns
  | [], _, _ => trivial
  | u :: r, h, e => by
    have hl : (u :: r).length = r.length + 1 := rfl
    have q := e r.length (by omega)
    exact ⟨by rw [q.1]; exact h.1, by rw [q.2]; exact h.2.1, hg_hs.mv h.2.2 (fun i hi => e i (by omega))⟩
theorem hcM.mv (h : hcM V T A ns d fl z) (e1 : ∀ i k, T ≤ i → i ≤ T + 8 → ¬ (i = T ∧ (k = 4 ∨ k = 5)) → A'.1 i k = A.1 i k) (e2 : ∀ i, T ≤ i → i ≤ T + 7 → A'.2.1 i = A.2.1 i) : hcM V T A' ns d fl z := by
  obtain ⟨⟨a1, a2, a3, a4⟩, b, ⟨c1, c2, c3⟩, c4⟩ := h
  refine ⟨⟨?_, a2, ?_, ?_⟩, fun k hk => ?_, ⟨fun h hh => ?_, ?_, ?_⟩, c4.mv (fun i _ => ⟨by rw [e2 _ (by omega) (by omega)], by rw [e2 _ (by omega) (by omega)]⟩)⟩
  · rw [e1 _ 4 (by omega) (by omega) (by omega)]; exact a1
  · rw [e2 _ (by omega) (by omega)]; exact a3
  · rw [e1 _ 5 (by omega) (by omega) (by omega)]; exact a4
  · rw [e2 (T + 6) (by omega) (by omega), e2 (T + 5) (by omega) (by omega), e2 (T + 7) (by omega) (by omega)]
    exact b k hk
  · rw [e2 _ (by omega) (by omega)]; exact c1 h hh
  · rw [e1 _ 6 (by omega) (by omega) (by omega)]; exact c2
  · rw [e1 _ 7 (by omega) (by omega) (by omega)]; exact c3
theorem hg_k8 {x y : Int32} {k : Nat} {v : Int} (hx : x.toInt = v) (hy : y.toInt = (k : Int)) (h0 : 0 ≤ v) (h1 : v < 134217728) (hk : k < 8) : ((x <<< (Int32.ofNat 3 &&& 31)) ||| y).toInt = 8 * v + (k : Int) := by
  have e1 : (x <<< (Int32.ofNat 3 &&& 31)).toBitVec = x.toBitVec <<< 3 := rfl
  have bx : x.toBitVec.toNat = v.toNat := by
    have q : x.toBitVec.toInt = v := hx
    have := BitVec.toInt_eq_toNat_cond x.toBitVec
    omega
  have by' : y.toBitVec.toNat = k := by
    have q : y.toBitVec.toInt = (k : Int) := hy
    have := BitVec.toInt_eq_toNat_cond y.toBitVec
    omega
  have hn : ((x.toBitVec <<< 3) ||| y.toBitVec).toNat = 8 * v.toNat + k := by
    rw [BitVec.toNat_or, BitVec.toNat_shiftLeft, bx, by']
    have e2 : v.toNat <<< 3 % 2 ^ 32 = v.toNat <<< 3 := by
      rw [Nat.shiftLeft_eq]
      exact Nat.mod_eq_of_lt (by omega)
    rw [e2, Nat.shiftLeft_eq, Nat.mul_comm, show (2 : Nat) ^ 3 = 8 from rfl]
    have := Nat.two_pow_add_eq_or_of_lt (i := 3) (b := k) (by omega) v.toNat
    rw [show (2 : Nat) ^ 3 = 8 from rfl] at this
    exact this.symm
  show ((x <<< (Int32.ofNat 3 &&& 31)).toBitVec ||| y.toBitVec).toInt = _
  rw [e1, BitVec.toInt_eq_toNat_cond, hn, if_pos (by omega)]
  omega
theorem hg_np0 {x : Int32} : hg_np x [] := fun _ h => nomatch h
theorem hg_np.app {x : Int32} {l : hg_C} {k : Nat} {v : Int} (h : hg_np x l) (hk : ¬ k = 1) : hg_np x (l ++ [(k, v)]) := fun q m => by
  rcases List.mem_append.mp m with m | m
  · exact h q m
  · rcases List.mem_singleton.mp m with e
    have := congrArg Prod.fst e
    exact hk this.symm
theorem hg_npb : ∀ n, n < 9 → ¬ n = 3 → (((Int32.ofNat 1 <<< (Int32.ofNat n &&& 31)) >>> (Int32.ofNat 3 &&& 31)) &&& Int32.ofNat 1) = 0 := by decide +kernel
theorem hg_or3 {x y : Int32} : (((x ||| y) >>> (Int32.ofNat 3 &&& 31)) &&& Int32.ofNat 1) = ((x >>> (Int32.ofNat 3 &&& 31)) &&& Int32.ofNat 1) ||| ((y >>> (Int32.ofNat 3 &&& 31)) &&& Int32.ofNat 1) := by
  apply Int32.toBitVec_inj.mp
  show ((x.toBitVec ||| y.toBitVec).sshiftRight 3 &&& 1#32) = (x.toBitVec.sshiftRight 3 &&& 1#32) ||| (y.toBitVec.sshiftRight 3 &&& 1#32)
  apply BitVec.eq_of_getLsbD_eq
  intro i hi
  simp only [BitVec.getLsbD_and, BitVec.getLsbD_or, BitVec.getLsbD_sshiftRight, BitVec.msb_or]
  split <;> simp only [Bool.and_or_distrib_left, Bool.and_or_distrib_right]
theorem hg_np.var {x x' a : Int32} {l : hg_C} {v : Int} (h : hg_np x l) (ha : a.toInt = v) (h0 : 0 ≤ v) (h8 : v ≤ 8) (e : x' = x ||| (Int32.ofNat 1 <<< (a &&& 31))) : hg_np x' (l ++ [(1, v)]) := fun q m => by
  have hb : (x' >>> (Int32.ofNat 3 &&& 31)) &&& Int32.ofNat 1 = 0 := Int32.toInt_inj.mp q
  rw [e, hg_or3] at hb
  have ea : a = Int32.ofNat v.toNat := by
    apply Int32.toInt_inj.mp
    rw [hn_c (n := v.toNat) rfl (by omega)]
    omega
  have b1 : ∀ p q : Int32, p ||| q = 0 → p = 0 ∧ q = 0 := by
    intro p q e
    have e' := congrArg Int32.toBitVec e
    have e2 : p.toBitVec ||| q.toBitVec = 0#32 := e'
    have e3 := BitVec.or_eq_zero_iff.mp e2
    exact ⟨Int32.toBitVec_inj.mp e3.1, Int32.toBitVec_inj.mp e3.2⟩
  obtain ⟨b2, b3⟩ := b1 _ _ hb
  rcases List.mem_append.mp m with m | m
  · exact h (by rw [b2]; rfl) m
  · have e3 : v = 3 := (congrArg Prod.snd (List.mem_singleton.mp m)).symm
    subst e3
    rw [ea] at b3
    exact absurd b3 (by decide)
end HCM
