/-! A LAW UNDER WAY IN THE CLASS: the steps l from i on, the pile s, what comes of it -/
def hgx (x : Nat → Int32) (p q : Int32) : Nat → Int32 := fun i => if i = 3 then p else if i = 6 then q else x i
def hgw_pl (a : Nat → Int32) : List Int32 → Prop
  | [] => True
  | v :: r => a r.length = v ∧ hgw_pl a r
def hgw_cd (x : Nat → Int32) (c3 : hg_C) (br : hg_B) (tm : hg_C) : Option (List Int32) → Int32
  | some (v :: u :: _) => if u.toInt < v.toInt then hgw_top (hgw_ev x c3 []) else hgw_law x br tm
  | _ => 0
def hgw_ok (x : Nat → Int32) (l : hg_C) (i : Nat) (s : List Int32) (res : Int32) : Prop := ∃ c : hg_C,
  (hgw_wf 15 c s.length 2 ∧ ∃ (c3 tm : hg_C) (br : hg_B) (tg : Nat), l = c ++ (6, (tg : Int)) :: (c3 ++ (7, 0) :: (hg_br tg br ++ (tm ++ [(7, 0)]))) ∧ tg = i + c.length + 1 + (c3.length + 1) ∧ hgw_wf 14 c3 0 1 ∧ hgw_wb br ∧ hgw_wf 14 tm 0 1 ∧ res = hgw_cd x c3 br tm (hgw_ev x c s)) ∨
  (hgw_wf 15 c s.length 1 ∧ ∃ R : hg_C, l = c ++ (7, 0) :: R ∧ res = hgw_top (hgw_ev x c s))
section HGOK
variable {x : Nat → Int32} {l : hg_C} {i : Nat} {s : List Int32} {res : Int32}
theorem hgw_pl.mv {a a' : Nat → Int32} : ∀ {s : List Int32}, hgw_pl a s → (∀ j, j < s.length → a' j = a j) → hgw_pl a' s
  | [], _, _ => trivial
  | v :: r, h, e => by
    have hl : (v :: r).length = r.length + 1 := rfl
    exact ⟨by rw [e r.length (by omega)]; exact h.1, hgw_pl.mv h.2 (fun j hj => e j (by omega))⟩
theorem hgw_ok.law {br : hg_B} {tm : hg_C} (h : hgw_wb br) (ht : hgw_wf 14 tm 0 1) : hgw_ok x (hg_law i (br, tm)) i [] (hgw_law x br tm) := by
  cases br with
  | nil => exact ⟨tm, Or.inr ⟨hgw_wf_le ht, [], rfl, rfl⟩⟩
  | cons q r =>
    obtain ⟨a, b, c⟩ := q
    obtain ⟨⟨h1, h2, h3⟩, h4⟩ := h
    refine ⟨a ++ b, Or.inl ⟨hgw_wf_ab h1 h2, c, tm, r, i + a.length + b.length + c.length + 2, ?_, ?_, h3, h4, ht, ?_⟩⟩
    · show (a ++ (b ++ ((6, ((i + a.length + b.length + c.length + 2 : Nat) : Int)) :: (c ++ ((7, 0) :: hg_br (i + a.length + b.length + c.length + 2) r))))) ++ (tm ++ [(7, 0)]) = _
      simp only [List.append_assoc, List.cons_append]
    · rw [List.length_append]
      omega
    · show (match hgw_ev x (a ++ b) [] with
        | some (v :: u :: _) => if u.toInt < v.toInt then hgw_top (hgw_ev x c []) else hgw_law x r tm
        | _ => 0) = hgw_cd x c r tm (hgw_ev x (a ++ b) [])
      cases hgw_ev x (a ++ b) [] with
      | none => rfl
      | some s1 =>
        match s1 with
        | [] => rfl
        | [_] => rfl
        | v :: u :: _ => rfl
/-- one step of a code -/
theorem hgw_step {B : Nat} {p : Nat × Int} {c : hg_C} {h : Nat} (w : hgw_wf B (p :: c) s.length h) :
    (p.1 = 0 ∧ s.length ≤ B ∧ hgw_wf B c (Int32.ofInt p.2 :: s).length h ∧ hgw_ev x (p :: c) s = hgw_ev x c (Int32.ofInt p.2 :: s)) ∨
    (p.1 = 1 ∧ (0 ≤ p.2 ∧ p.2 ≤ 8) ∧ s.length ≤ B ∧ hgw_wf B c (x p.2.toNat :: s).length h ∧ hgw_ev x (p :: c) s = hgw_ev x c (x p.2.toNat :: s)) ∨
    ((2 ≤ p.1 ∧ p.1 ≤ 5) ∧ ∃ b a r, s = b :: a :: r ∧ ((p.1 = 5 ∧ b = 0 ∧ hgw_ev x (p :: c) s = none) ∨ (¬ (p.1 = 5 ∧ b = 0) ∧ hgw_wf B c (hgv_ap p.1 a b :: r).length h ∧ hgw_ev x (p :: c) s = hgw_ev x c (hgv_ap p.1 a b :: r)))) := by
  have e : hgw_ev x (p :: c) s = match hgw_st x p s with
    | none => none
    | some s' => hgw_ev x c s' := rfl
  rcases w with ⟨w1, w2, w3⟩ | ⟨w1, w2, w3⟩
  · by_cases k0 : p.1 = 0
    · refine Or.inl ⟨k0, w2, w3, ?_⟩
      rw [e]; unfold hgw_st; rw [if_pos k0]
    · have k1 : p.1 = 1 ∧ 0 ≤ p.2 ∧ p.2 ≤ 8 := by omega
      refine Or.inr (Or.inl ⟨k1.1, k1.2, w2, w3, ?_⟩)
      rw [e]; unfold hgw_st; rw [if_neg k0, if_pos k1.1]
  · match s, w2, w3, e with
    | [], w2, _, _ => exact absurd w2 (by show ¬ 2 ≤ 0; omega)
    | [_], w2, _, _ => exact absurd w2 (by show ¬ 2 ≤ 1; omega)
    | b :: a :: r, _, w3, e =>
      refine Or.inr (Or.inr ⟨w1, b, a, r, rfl, ?_⟩)
      have e1 : hgw_st x p (b :: a :: r) = if p.1 = 5 ∧ b = 0 then none else some (hgv_ap p.1 a b :: r) := by unfold hgw_st; rw [if_neg (by omega), if_neg (by omega)]
      rw [e, e1]
      by_cases q : p.1 = 5 ∧ b = 0
      · rw [if_pos q]; exact Or.inl ⟨q.1, q.2, rfl⟩
      · rw [if_neg q]; exact Or.inr ⟨q, w3, rfl⟩
/-- what the next step of a law is -/
theorem hgw_ok.cases (h : hgw_ok x l i s res) : ∃ (k : Nat) (v : Int) (l' : hg_C), l = (k, v) :: l' ∧ (
    (k = 0 ∧ s.length ≤ 15 ∧ hgw_ok x l' (i + 1) (Int32.ofInt v :: s) res) ∨
    (k = 1 ∧ (0 ≤ v ∧ v ≤ 8) ∧ s.length ≤ 15 ∧ hgw_ok x l' (i + 1) (x v.toNat :: s) res) ∨
    ((2 ≤ k ∧ k ≤ 5) ∧ ∃ b a r, s = b :: a :: r ∧ ((k = 5 ∧ b = 0 ∧ res = 0) ∨ (¬ (k = 5 ∧ b = 0) ∧ hgw_ok x l' (i + 1) (hgv_ap k a b :: r) res))) ∨
    (k = 6 ∧ ∃ (b a : Int32) (m L2 : hg_C), s = [b, a] ∧ l' = m ++ L2 ∧ v = ((i + 1 + m.length : Nat) : Int) ∧ ((a.toInt < b.toInt ∧ hgw_ok x l' (i + 1) [] res) ∨ (b.toInt ≤ a.toInt ∧ hgw_ok x L2 (i + 1 + m.length) [] res))) ∨
    (k = 7 ∧ ∃ (b : Int32) (r : List Int32), s = b :: r ∧ res = b)) := by
  obtain ⟨c, h⟩ := h
  cases c with
  | nil =>
    rcases h with ⟨w, c3, tm, br, tg, e1, e2, w3, w4, w5, e3⟩ | ⟨w, R, e1, e3⟩
    · have w' : s.length = 2 := w
      match s, w' with
      | [b, a], _ =>
        refine ⟨6, (tg : Int), _, e1, Or.inr (Or.inr (Or.inr (Or.inl ⟨rfl, b, a, c3 ++ [(7, 0)], hg_law tg (br, tm), rfl, ?_, ?_, ?_⟩)))⟩
        · show _ = (c3 ++ [(7, 0)]) ++ (hg_br tg br ++ (tm ++ [(7, 0)]))
          rw [List.append_assoc]
          rfl
        · rw [hg_ln, e2]
          show (((i + 0 + 1 + (c3.length + 1) : Nat)) : Int) = _
          omega
        · have e4 : res = if a.toInt < b.toInt then hgw_top (hgw_ev x c3 []) else hgw_law x br tm := e3
          by_cases q : a.toInt < b.toInt
          · rw [if_pos q] at e4
            exact Or.inl ⟨q, c3, Or.inr ⟨hgw_wf_le w3, _, rfl, e4⟩⟩
          · rw [if_neg q] at e4
            refine Or.inr ⟨by omega, ?_⟩
            have e5 : tg = i + 1 + (c3 ++ [(7, 0)]).length := by
              rw [hg_ln, e2]
              show i + 0 + 1 + (c3.length + 1) = _
              omega
            rw [← e5, e4]
            exact hgw_ok.law w4 w5
    · have w' : s.length = 1 := w
      match s, w' with
      | [b], _ => exact ⟨7, 0, R, e1, Or.inr (Or.inr (Or.inr (Or.inr ⟨rfl, b, [], rfl, e3⟩)))⟩
  | cons p c =>
    obtain ⟨k, v⟩ := p
    rcases h with ⟨w, c3, tm, br, tg, e1, e2, w3, w4, w5, e3⟩ | ⟨w, R, e1, e3⟩
    · refine ⟨k, v, _, e1, ?_⟩
      have e2' : tg = i + 1 + c.length + 1 + (c3.length + 1) := by
        have : ((k, v) :: c).length = c.length + 1 := rfl
        omega
      have go : ∀ s', hgw_wf 15 c s'.length 2 → hgw_ev x ((k, v) :: c) s = hgw_ev x c s' → hgw_ok x (c ++ (6, (tg : Int)) :: (c3 ++ (7, 0) :: (hg_br tg br ++ (tm ++ [(7, 0)])))) (i + 1) s' res := fun s' a b => ⟨c, Or.inl ⟨a, c3, tm, br, tg, rfl, e2', w3, w4, w5, by rw [← b]; exact e3⟩⟩
      rcases hgw_step (x := x) w with ⟨a, b, c1, d⟩ | ⟨a, b, b2, c1, d⟩ | ⟨a, b, a1, r, es, q⟩
      · exact Or.inl ⟨a, b, go _ c1 d⟩
      · exact Or.inr (Or.inl ⟨a, b, b2, go _ c1 d⟩)
      · refine Or.inr (Or.inr (Or.inl ⟨a, b, a1, r, es, ?_⟩))
        rcases q with ⟨q1, q2, q3⟩ | ⟨q1, q2, q3⟩
        · exact Or.inl ⟨q1, q2, by rw [e3, q3]; rfl⟩
        · exact Or.inr ⟨q1, go _ q2 q3⟩
    · refine ⟨k, v, _, e1, ?_⟩
      have go : ∀ s', hgw_wf 15 c s'.length 1 → hgw_ev x ((k, v) :: c) s = hgw_ev x c s' → hgw_ok x (c ++ (7, 0) :: R) (i + 1) s' res := fun s' a b => ⟨c, Or.inr ⟨a, R, rfl, by rw [← b]; exact e3⟩⟩
      rcases hgw_step (x := x) w with ⟨a, b, c1, d⟩ | ⟨a, b, b2, c1, d⟩ | ⟨a, b, a1, r, es, q⟩
      · exact Or.inl ⟨a, b, go _ c1 d⟩
      · exact Or.inr (Or.inl ⟨a, b, b2, go _ c1 d⟩)
      · refine Or.inr (Or.inr (Or.inl ⟨a, b, a1, r, es, ?_⟩))
        rcases q with ⟨q1, q2, q3⟩ | ⟨q1, q2, q3⟩
        · exact Or.inl ⟨q1, q2, by rw [e3, q3]; rfl⟩
        · exact Or.inr ⟨q1, go _ q2 q3⟩
/-- a step taken apart -/
theorem hg_dec {y : Int32} {k : Nat} {v : Int} (h : y.toInt = 8 * v + (k : Int)) (hk : k < 8) : (y &&& Int32.ofNat 7).toInt = (k : Int) ∧ (y >>> (Int32.ofNat 3 &&& 31)).toInt = v := by
  have hy : y.toBitVec.toInt = 8 * v + (k : Int) := h
  have hc := BitVec.toInt_eq_toNat_cond y.toBitVec
  have hlt := y.toBitVec.isLt
  constructor
  · have hn : (y.toBitVec &&& 7#32).toNat = k := by
      rw [BitVec.toNat_and, show (7#32).toNat = 2 ^ 3 - 1 from rfl, Nat.and_two_pow_sub_one_eq_mod]
      omega
    show (y.toBitVec &&& 7#32).toInt = _
    rw [BitVec.toInt_eq_toNat_cond, hn, if_pos (by omega)]
  · show (y.toBitVec.sshiftRight 3).toInt = v
    rw [BitVec.toInt_sshiftRight, Int.shiftRight_eq_div_pow, hy]
    show (8 * v + (k : Int)) / 8 = v
    omega
end HGOK
