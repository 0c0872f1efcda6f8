/-! THE TOKENS as a prefix function of the bytes: B the tape's bytes (-128 .. 127), n how many -/
section HT
variable (B : Nat → Int) (n : Nat)
def ht_rn (P : Int → Bool) : Nat → Nat → Nat
  | 0, i => i
  | f + 1, i => if i < n ∧ P (B i) = true then ht_rn P f (i + 1) else i
/-- the first place from i on that is n or whose byte isn't one of P -/
def ht_run (P : Int → Bool) (i : Nat) : Nat := ht_rn B n P n i
theorem ht_rn_more {P : Int → Bool} : ∀ (f g i : Nat), n - i ≤ f → n - i ≤ g → ht_rn B n P f i = ht_rn B n P g i
  | 0, 0, i, _, _ => rfl
  | 0, g + 1, i, hf, _ => by
    show i = if i < n ∧ P (B i) = true then ht_rn B n P g (i + 1) else i
    rw [if_neg (fun q => by omega)]
  | f + 1, 0, i, _, hg => by
    show (if i < n ∧ P (B i) = true then ht_rn B n P f (i + 1) else i) = i
    rw [if_neg (fun q => by omega)]
  | f + 1, g + 1, i, hf, hg => by
    show (if i < n ∧ P (B i) = true then ht_rn B n P f (i + 1) else i) = if i < n ∧ P (B i) = true then ht_rn B n P g (i + 1) else i
    by_cases h : i < n ∧ P (B i) = true
    · rw [if_pos h, if_pos h]
      exact ht_rn_more f g (i + 1) (by omega) (by omega)
    · rw [if_neg h, if_neg h]
theorem ht_run_go {P : Int → Bool} {i : Nat} (h1 : i < n) (h2 : P (B i) = true) : ht_run B n P i = ht_run B n P (i + 1) := by
  unfold ht_run
  match n, h1 with
  | n + 1, h1 =>
    show (if i < n + 1 ∧ P (B i) = true then ht_rn B (n + 1) P n (i + 1) else i) = _
    rw [if_pos ⟨h1, h2⟩]
    exact ht_rn_more B (n + 1) n (n + 1) (i + 1) (by omega) (by omega)
theorem ht_run_stop {P : Int → Bool} {i : Nat} (h : ¬ (i < n ∧ P (B i) = true)) : ht_run B n P i = i := by
  unfold ht_run
  match n, h with
  | 0, _ => rfl
  | n + 1, h =>
    show (if i < n + 1 ∧ P (B i) = true then ht_rn B (n + 1) P n (i + 1) else i) = i
    rw [if_neg h]
theorem ht_rn_ge {P : Int → Bool} : ∀ (f i : Nat), i ≤ ht_rn B n P f i
  | 0, i => Nat.le_refl _
  | f + 1, i => by
    show i ≤ if i < n ∧ P (B i) = true then ht_rn B n P f (i + 1) else i
    by_cases h : i < n ∧ P (B i) = true
    · rw [if_pos h]
      exact Nat.le_trans (Nat.le_succ i) (ht_rn_ge f (i + 1))
    · rw [if_neg h]
      exact Nat.le_refl _
theorem ht_run_ge {P : Int → Bool} (i : Nat) : i ≤ ht_run B n P i := ht_rn_ge B n n i
theorem ht_rn_le {P : Int → Bool} : ∀ (f i : Nat), i ≤ n → ht_rn B n P f i ≤ n
  | 0, i, h => h
  | f + 1, i, h => by
    show (if i < n ∧ P (B i) = true then ht_rn B n P f (i + 1) else i) ≤ n
    by_cases h1 : i < n ∧ P (B i) = true
    · rw [if_pos h1]
      exact ht_rn_le f (i + 1) h1.1
    · rw [if_neg h1]
      exact h
theorem ht_run_le {P : Int → Bool} {i : Nat} (h : i ≤ n) : ht_run B n P i ≤ n := ht_rn_le B n n i h
def ht_bl (c : Int) : Bool := decide (c = 9 ∨ c = 10 ∨ c = 13 ∨ c = 32)
def ht_le (c : Int) : Bool := decide (97 ≤ c ∧ c ≤ 122)
def ht_di (c : Int) : Bool := decide (48 ≤ c ∧ c ≤ 57)
def ht_ws : List (List Int) := [[104, 111, 117, 115, 101], [115, 101, 110, 100, 115], [107, 101, 101, 112, 115], [116, 117, 114, 110, 115], [104, 117, 109, 115], [100, 105, 101, 115], [103, 114, 105, 101, 102], [115, 101, 101, 100], [105, 102], [116, 104, 101, 110], [101, 108, 115, 101], [100, 111, 111, 114], [104, 111, 117, 114], [100, 97, 121], [112, 97, 114, 116], [119, 97, 110, 116, 115], [97, 103, 101], [112, 97, 114, 116, 115], [109, 97, 110, 121], [104, 97, 100]]
/-- the bytes from i to e -/
def ht_sub (i e : Nat) : List Int := (List.range (e - i)).map (fun j => B (i + j))
def ht_ix (l : List Int) : List (List Int) → Nat → Option Nat
  | [], _ => none
  | w :: ws, k => if w = l then some k else ht_ix l ws (k + 1)
def ht_sg (c : Int) : Int := if c = 59 then 24 else if c = 61 then 25 else if c = 43 then 26 else if c = 45 then 27 else if c = 42 then 28 else if c = 47 then 29 else if c = 60 then 30 else if c = 40 then 31 else if c = 41 then 32 else 23
/-- the kind of the token that begins at p (no blank) -/
def ht_kind (p : Nat) : Int := if n ≤ p then 22
  else if ht_le (B p) = true then (if ht_run B n ht_le p - p ≤ 8 then (match ht_ix (ht_sub B p (ht_run B n ht_le p)) ht_ws 0 with
    | some k => (k : Int)
    | none => 20) else 23)
  else if ht_di (B p) = true then (if ht_run B n ht_di p - p ≤ 4 then 21 else 23)
  else ht_sg (B p)
def ht_end (p : Nat) : Nat := if n ≤ p then p
  else if ht_le (B p) = true then ht_run B n ht_le p
  else if ht_di (B p) = true then ht_run B n ht_di p
  else p + 1
def ht_val (l : List Int) : Int := l.foldl (fun v c => 10 * v + (c - 48)) 0
/-- where token j begins to be looked for, where it begins -/
def ht_pos : Nat → Nat
  | 0 => 0
  | j + 1 => ht_end B n (ht_run B n ht_bl (ht_pos j))
def ht_S (j : Nat) : Nat := ht_run B n ht_bl (ht_pos B n j)
def ht_K (j : Nat) : Int := ht_kind B n (ht_S B n j)
def ht_V (j : Nat) : Int := ht_val (ht_sub B (ht_S B n j) (ht_end B n (ht_S B n j)))
/-- the letters of token j -/
def ht_N (j : Nat) : List Int := ht_sub B (ht_S B n j) (ht_end B n (ht_S B n j))
theorem ht_end_gt {p : Nat} (h : p < n) : p < ht_end B n p := by
  unfold ht_end
  rw [if_neg (by omega)]
  by_cases h1 : ht_le (B p) = true
  · rw [if_pos h1, ht_run_go B n h h1]
    exact Nat.lt_of_lt_of_le (Nat.lt_succ_self p) (ht_run_ge B n (p + 1))
  · rw [if_neg h1]
    by_cases h2 : ht_di (B p) = true
    · rw [if_pos h2, ht_run_go B n h h2]
      exact Nat.lt_of_lt_of_le (Nat.lt_succ_self p) (ht_run_ge B n (p + 1))
    · rw [if_neg h2]
      exact Nat.lt_succ_self p
theorem ht_end_le {p : Nat} (h : p ≤ n) : ht_end B n p ≤ n := by
  unfold ht_end
  by_cases h0 : n ≤ p
  · rw [if_pos h0]
    exact h
  · rw [if_neg h0]
    by_cases h1 : ht_le (B p) = true
    · rw [if_pos h1]
      exact ht_run_le B n h
    · rw [if_neg h1]
      by_cases h2 : ht_di (B p) = true
      · rw [if_pos h2]
        exact ht_run_le B n h
      · rw [if_neg h2]
        omega
theorem ht_pos_le : ∀ j, ht_pos B n j ≤ n
  | 0 => Nat.zero_le _
  | j + 1 => ht_end_le B n (ht_run_le B n (ht_pos_le j))
theorem ht_S_le (j : Nat) : ht_S B n j ≤ n := ht_run_le B n (ht_pos_le B n j)
/-- the places grow till the text's end -/
theorem ht_S_lt {j : Nat} (h : ht_S B n j < n) : ht_S B n j < ht_S B n (j + 1) := Nat.lt_of_lt_of_le (ht_end_gt B n h) (ht_run_ge B n _)
end HT
/-! the letters backwards, their codes -/
def ht_rv (B : Nat → Int) (p : Nat) : Nat → List Int
  | 0 => []
  | k + 1 => B (p + k) :: ht_rv B p k
def ht_g (b z : Int) : List Int → Int
  | [] => 0
  | c :: r => b * ht_g b z r + (c - z)
theorem ht_rv_len (B : Nat → Int) (p : Nat) : ∀ k, (ht_rv B p k).length = k
  | 0 => rfl
  | k + 1 => congrArg Nat.succ (ht_rv_len B p k)
theorem ht_rv_mem {B : Nat → Int} {p : Nat} {c : Int} : ∀ {k : Nat}, c ∈ ht_rv B p k → ∃ i, p ≤ i ∧ i < p + k ∧ c = B i
  | 0, h => absurd h List.not_mem_nil
  | k + 1, h => by
    rcases List.mem_cons.mp h with q | q
    · exact ⟨p + k, by omega, by omega, q⟩
    · obtain ⟨i, h1, h2, h3⟩ := ht_rv_mem q
      exact ⟨i, h1, by omega, h3⟩
theorem ht_rv_sub (B : Nat → Int) (p : Nat) : ∀ k, ht_rv B p k = (ht_sub B p (p + k)).reverse
  | 0 => by
    unfold ht_sub
    rw [show p + 0 - p = 0 by omega]
    rfl
  | k + 1 => by
    show B (p + k) :: ht_rv B p k = _
    rw [ht_rv_sub B p k]
    unfold ht_sub
    rw [show p + (k + 1) - p = k + 1 by omega, show p + k - p = k by omega, List.range_succ, List.map_append, List.reverse_append]
    rfl
theorem ht_g_bd {b z : Int} (hb : 1 < b) : ∀ {l : List Int}, (∀ c, c ∈ l → 0 ≤ c - z ∧ c - z < b) → 0 ≤ ht_g b z l ∧ ht_g b z l < b ^ l.length
  | [], _ => ⟨Int.le_refl 0, by show (0 : Int) < b ^ 0; rw [Int.pow_zero]; omega⟩
  | c :: r, h => by
    have h1 := h c List.mem_cons_self
    have h2 := ht_g_bd hb (l := r) (fun c hc => h c (List.mem_cons_of_mem _ hc))
    have e : b ^ (c :: r).length = b ^ r.length * b := Int.pow_succ b r.length
    have m1 : 0 ≤ b * ht_g b z r := Int.mul_nonneg (by omega) h2.1
    have m2 : b * (ht_g b z r + 1) ≤ b * b ^ r.length := Int.mul_le_mul_of_nonneg_left (by omega) (by omega)
    rw [e, Int.mul_comm (b ^ r.length) b]
    show 0 ≤ b * ht_g b z r + (c - z) ∧ b * ht_g b z r + (c - z) < _
    rw [Int.mul_add, Int.mul_one] at m2
    omega
theorem ht_g_inj {b z : Int} (hb : 1 < b) : ∀ {l l' : List Int}, (∀ c, c ∈ l → 1 ≤ c - z ∧ c - z < b) → (∀ c, c ∈ l' → 1 ≤ c - z ∧ c - z < b) → ht_g b z l = ht_g b z l' → l = l'
  | [], [], _, _, _ => rfl
  | [], c :: r, _, h, e => by
    have h1 := h c List.mem_cons_self
    have h2 := (ht_g_bd (z := z) hb (l := r) (fun c hc => by have := h c (List.mem_cons_of_mem _ hc); omega)).1
    have m1 : 0 ≤ b * ht_g b z r := Int.mul_nonneg (by omega) h2
    have e' : 0 = b * ht_g b z r + (c - z) := e
    omega
  | c :: r, [], h, _, e => by
    have h1 := h c List.mem_cons_self
    have h2 := (ht_g_bd (z := z) hb (l := r) (fun c hc => by have := h c (List.mem_cons_of_mem _ hc); omega)).1
    have m1 : 0 ≤ b * ht_g b z r := Int.mul_nonneg (by omega) h2
    have e' : b * ht_g b z r + (c - z) = 0 := e
    omega
  | c :: r, c' :: r', h, h', e => by
    have h1 := h c List.mem_cons_self
    have h2 := h' c' List.mem_cons_self
    have e' : b * ht_g b z r + (c - z) = b * ht_g b z r' + (c' - z) := e
    have q : ht_g b z r = ht_g b z r' := by
      rcases Int.lt_trichotomy (ht_g b z r) (ht_g b z r') with q | q | q
      · have m : b * (ht_g b z r + 1) ≤ b * ht_g b z r' := Int.mul_le_mul_of_nonneg_left (by omega) (by omega)
        rw [Int.mul_add, Int.mul_one] at m
        omega
      · exact q
      · have m : b * (ht_g b z r' + 1) ≤ b * ht_g b z r := Int.mul_le_mul_of_nonneg_left (by omega) (by omega)
        rw [Int.mul_add, Int.mul_one] at m
        omega
    rw [q] at e'
    have hc : c = c' := by omega
    rw [hc, ht_g_inj hb (fun c hc => h c (List.mem_cons_of_mem _ hc)) (fun c hc => h' c (List.mem_cons_of_mem _ hc)) q]
section HT2
variable {B : Nat → Int} {n : Nat}
theorem ht_rn_all {P : Int → Bool} : ∀ (f i : Nat) {m : Nat}, i ≤ m → m < ht_rn B n P f i → P (B m) = true
  | 0, i, m, h1, h2 => absurd h2 (by show ¬ m < i; omega)
  | f + 1, i, m, h1, h2 => by
    have h2' : m < if i < n ∧ P (B i) = true then ht_rn B n P f (i + 1) else i := h2
    by_cases h : i < n ∧ P (B i) = true
    · rw [if_pos h] at h2'
      by_cases q : m = i
      · subst q; exact h.2
      · exact ht_rn_all f (i + 1) (by omega) h2'
    · rw [if_neg h] at h2'
      omega
theorem ht_run_all {P : Int → Bool} {i m : Nat} (h1 : i ≤ m) (h2 : m < ht_run B n P i) : P (B m) = true := ht_rn_all n i h1 h2
theorem ht_ix_lt {l : List Int} : ∀ {ws : List (List Int)} {k j : Nat}, ht_ix l ws k = some j → k ≤ j ∧ j < k + ws.length
  | [], k, j, h => by cases h
  | w :: ws, k, j, h => by
    have h' : (if w = l then some k else ht_ix l ws (k + 1)) = some j := h
    by_cases q : w = l
    · rw [if_pos q] at h'
      cases h'
      exact ⟨Nat.le_refl _, by show k < k + (ws.length + 1); omega⟩
    · rw [if_neg q] at h'
      have := ht_ix_lt h'
      exact ⟨by omega, by show j < k + (ws.length + 1); omega⟩
theorem ht_ix_some {l : List Int} : ∀ {ws : List (List Int)} {k j : Nat}, (∀ i, i < j → ws[i]? ≠ some l) → ws[j]? = some l → ht_ix l ws k = some (k + j)
  | [], k, j, _, h => by cases h
  | w :: ws, k, 0, _, h => by
    have h' : w = l := Option.some.inj h
    show (if w = l then some k else ht_ix l ws (k + 1)) = some k
    rw [if_pos h']
  | w :: ws, k, j + 1, h0, h => by
    have h1 : ¬ w = l := fun q => h0 0 (by omega) (congrArg some q)
    show (if w = l then some k else ht_ix l ws (k + 1)) = some (k + (j + 1))
    rw [if_neg h1, ht_ix_some (k := k + 1) (j := j) (fun i hi => h0 (i + 1) (by omega)) h, show k + 1 + j = k + (j + 1) by omega]
theorem ht_ix_none {l : List Int} : ∀ {ws : List (List Int)} {k : Nat}, (∀ i, i < ws.length → ws[i]? ≠ some l) → ht_ix l ws k = none
  | [], k, _ => rfl
  | w :: ws, k, h0 => by
    have h1 : ¬ w = l := fun q => h0 0 (Nat.succ_pos _) (congrArg some q)
    show (if w = l then some k else ht_ix l ws (k + 1)) = none
    rw [if_neg h1]
    exact ht_ix_none (fun i hi => h0 (i + 1) (Nat.succ_lt_succ hi))
theorem ht_le_iff {c : Int} : ht_le c = true ↔ 97 ≤ c ∧ c ≤ 122 := decide_eq_true_iff
theorem ht_di_iff {c : Int} : ht_di c = true ↔ 48 ≤ c ∧ c ≤ 57 := decide_eq_true_iff
theorem ht_bl_iff {c : Int} : ht_bl c = true ↔ c = 9 ∨ c = 10 ∨ c = 13 ∨ c = 32 := decide_eq_true_iff
theorem ht_sg_rng (c : Int) : 23 ≤ ht_sg c ∧ ht_sg c ≤ 32 := by
  unfold ht_sg
  repeat' split
  all_goals omega
/-- what a word's, an int's kind says -/
theorem ht_kind_le {p : Nat} (h : p < n) (hl : ht_le (B p) = true) : ht_kind B n p = if ht_run B n ht_le p - p ≤ 8 then (match ht_ix (ht_sub B p (ht_run B n ht_le p)) ht_ws 0 with
    | some k => (k : Int)
    | none => 20) else 23 := by
  unfold ht_kind
  rw [if_neg (by omega), if_pos hl]
theorem ht_not_le {c : Int} (h : ¬ (97 ≤ c ∧ c ≤ 122)) : ¬ ht_le c = true := fun q => h (ht_le_iff.mp q)
theorem ht_not_di {c : Int} (h : ¬ (48 ≤ c ∧ c ≤ 57)) : ¬ ht_di c = true := fun q => h (ht_di_iff.mp q)
theorem ht_kind_di {p : Nat} (h : p < n) (hl : ¬ ht_le (B p) = true) (hd : ht_di (B p) = true) : ht_kind B n p = if ht_run B n ht_di p - p ≤ 4 then 21 else 23 := by
  unfold ht_kind
  rw [if_neg (by omega), if_neg hl, if_pos hd]
theorem ht_kind_sg {p : Nat} (h : p < n) (hl : ¬ ht_le (B p) = true) (hd : ¬ ht_di (B p) = true) : ht_kind B n p = ht_sg (B p) := by
  unfold ht_kind
  rw [if_neg (by omega), if_neg hl, if_neg hd]
theorem ht_kind_end {p : Nat} (h : n ≤ p) : ht_kind B n p = 22 := by
  unfold ht_kind
  rw [if_pos h]
theorem ht_end_le' {p : Nat} (h : p < n) (hl : ht_le (B p) = true) : ht_end B n p = ht_run B n ht_le p := by
  unfold ht_end
  rw [if_neg (by omega), if_pos hl]
theorem ht_end_di {p : Nat} (h : p < n) (hl : ¬ ht_le (B p) = true) (hd : ht_di (B p) = true) : ht_end B n p = ht_run B n ht_di p := by
  unfold ht_end
  rw [if_neg (by omega), if_neg hl, if_pos hd]
theorem ht_end_sg {p : Nat} (h : p < n) (hl : ¬ ht_le (B p) = true) (hd : ¬ ht_di (B p) = true) : ht_end B n p = p + 1 := by
  unfold ht_end
  rw [if_neg (by omega), if_neg hl, if_neg hd]
theorem ht_end_end {p : Nat} (h : n ≤ p) : ht_end B n p = p := by
  unfold ht_end
  rw [if_pos h]
theorem ht_kind_rng (p : Nat) : 0 ≤ ht_kind B n p ∧ ht_kind B n p ≤ 32 ∧ (ht_kind B n p = 22 → n ≤ p) ∧ (ht_kind B n p = 20 → p < n ∧ ht_le (B p) = true ∧ ht_run B n ht_le p - p ≤ 8) ∧ (ht_kind B n p = 21 → p < n ∧ ¬ ht_le (B p) = true ∧ ht_di (B p) = true ∧ ht_run B n ht_di p - p ≤ 4) := by
  by_cases h : n ≤ p
  · rw [ht_kind_end h]
    exact ⟨by omega, by omega, fun _ => h, fun q => absurd q (by omega), fun q => absurd q (by omega)⟩
  · by_cases hl : ht_le (B p) = true
    · rw [ht_kind_le (by omega) hl]
      by_cases h8 : ht_run B n ht_le p - p ≤ 8
      · rw [if_pos h8]
        cases hx : ht_ix (ht_sub B p (ht_run B n ht_le p)) ht_ws 0 with
        | none =>
          dsimp only
          exact ⟨by omega, by omega, fun q => absurd q (by omega), fun _ => ⟨by omega, hl, h8⟩, fun q => absurd q (by omega)⟩
        | some k =>
          have hk := (ht_ix_lt hx).2
          have hw : ht_ws.length = 20 := by decide
          dsimp only
          exact ⟨by omega, by omega, fun q => absurd q (by omega), fun q => absurd q (by omega), fun q => absurd q (by omega)⟩
      · rw [if_neg h8]
        exact ⟨by omega, by omega, fun q => absurd q (by omega), fun q => absurd q (by omega), fun q => absurd q (by omega)⟩
    · by_cases hd : ht_di (B p) = true
      · rw [ht_kind_di (by omega) hl hd]
        by_cases h4 : ht_run B n ht_di p - p ≤ 4
        · rw [if_pos h4]
          exact ⟨by omega, by omega, fun q => absurd q (by omega), fun q => absurd q (by omega), fun _ => ⟨by omega, hl, hd, h4⟩⟩
        · rw [if_neg h4]
          exact ⟨by omega, by omega, fun q => absurd q (by omega), fun q => absurd q (by omega), fun q => absurd q (by omega)⟩
      · rw [ht_kind_sg (by omega) hl hd]
        have := ht_sg_rng (B p)
        have h22 : ht_sg (B p) ≠ 22 := by omega
        exact ⟨by omega, by omega, fun q => absurd q (by omega), fun q => absurd q (by omega), fun q => absurd q (by omega)⟩
/-- the letters of a token backwards; which names are the same; its int -/
def ht_M (B : Nat → Int) (n j : Nat) : List Int := ht_rv B (ht_S B n j) (ht_end B n (ht_S B n j) - ht_S B n j)
def ht_E (B : Nat → Int) (n u t : Nat) : Bool := decide (ht_M B n u = ht_M B n t)
def ht_W (B : Nat → Int) (n j : Nat) : Int := ht_g 10 48 (ht_M B n j)
theorem ht_pre_S (j : Nat) (hp : ∀ i, i < j → ht_K B n i ≠ 22 ∧ ht_K B n i ≠ 23) : j ≤ ht_pos B n j := by
  induction j with
  | zero => exact Nat.zero_le _
  | succ j ih =>
    have h1 := ih (fun i hi => hp i (by omega))
    have h2 := (hp j (by omega)).1
    have h3 : ht_S B n j < n := by
      have h4 := ht_S_le B n j
      by_cases q : ht_S B n j < n
      · exact q
      · exact absurd (ht_kind_end (B := B) (p := ht_S B n j) (by omega)) h2
    have h5 : ht_pos B n j ≤ ht_S B n j := ht_run_ge B n _
    have h6 : ht_S B n j < ht_pos B n (j + 1) := ht_end_gt B n h3
    omega
end HT2
/-! THE CLASS'S TOKENS -/
def hcTp (B : Nat → Int) (n : Nat) (A : hs_A) : Prop := ∀ i, i < n → (A.2.1 1 i).toInt = B i
def hcG (B : Nat → Int) (n : Nat) (A A' : hs_A) (p j : Nat) : Prop := ∃ (k : Int32) (v : Int64), A'.1 = A.1 ∧ A'.2.1 = hs_up A.2.1 22 j k ∧ A'.2.2.1 = hs_upL A.2.2.1 23 j v ∧ A'.2.2.2 = A.2.2.2 ∧ k.toInt = ht_kind B n p ∧ (ht_kind B n p = 20 → v.toInt = ht_g 32 96 (ht_rv B p (ht_end B n p - p))) ∧ (ht_kind B n p = 21 → v.toInt = ht_g 10 48 (ht_rv B p (ht_end B n p - p)))
theorem hupL1 {f : Nat → Nat → Int64} {i k : Nat} {x : Int64} : hs_upL f i k x i k = x := by simp [hs_upL]
theorem hupL2 {f : Nat → Nat → Int64} {i k a b : Nat} {x : Int64} (h : ¬ (a = i ∧ b = k)) : hs_upL f i k x a b = f a b := by
  unfold hs_upL
  by_cases q : a = i
  · rw [if_pos q, if_neg (fun w => h ⟨q, w⟩)]
  · rw [if_neg q]
theorem hupLL {f : Nat → Nat → Int64} {i k : Nat} {x y : Int64} : hs_upL (hs_upL f i k x) i k y = hs_upL f i k y := by
  funext a b
  by_cases q : a = i ∧ b = k
  · obtain ⟨rfl, rfl⟩ := q
    rw [hupL1, hupL1]
  · rw [hupL2 q, hupL2 q, hupL2 q]
theorem hupL0 {f : Nat → Nat → Int64} {i k : Nat} {x : Int64} (h : f i k = x) : f = hs_upL f i k x := by
  funext a b
  by_cases q : a = i ∧ b = k
  · obtain ⟨rfl, rfl⟩ := q
    rw [hupL1, h]
  · rw [hupL2 q]
theorem hcG.pre {B : Nat → Int} {n p j : Nat} {A A1 A' : hs_A} {x : Int64} (h : hcG B n A1 A' p j) (e : A1.1 = A.1) (f : A1.2.1 = A.2.1) (g : A1.2.2.1 = hs_upL A.2.2.1 23 j x) (r : A1.2.2.2 = A.2.2.2) : hcG B n A A' p j := by
  obtain ⟨k, v, h1, h2, h3, h4, h5, h6, h7⟩ := h
  exact ⟨k, v, h1.trans e, by rw [h2, f], by rw [h3, g, hupLL], h4.trans r, h5, h6, h7⟩
theorem h64or {x : Int64} {y : Int32} (hx0 : 0 ≤ x.toInt) (hx1 : x.toInt < 1099511627776) (hy0 : 0 ≤ y.toInt) (hy1 : y.toInt < 32) : ((x <<< ((Int32.ofNat 5).toInt64 &&& 63)) ||| y.toInt64).toInt = 32 * x.toInt + y.toInt := by
  obtain ⟨m, hm⟩ : ∃ m : Nat, x.toInt = (m : Int) := ⟨x.toInt.toNat, by omega⟩
  obtain ⟨k, hk⟩ : ∃ k : Nat, y.toInt = (k : Int) := ⟨y.toInt.toNat, by omega⟩
  have hx : x = Int64.ofNat m := by
    apply Int64.toInt_inj.mp
    rw [hm, Int64.toInt_ofNat_of_lt (by omega)]
  have hy : y.toInt64 = Int64.ofNat k := by
    apply Int64.toInt_inj.mp
    rw [Int32.toInt_toInt64, hk, Int64.toInt_ofNat_of_lt (by omega)]
  have hsh : ((Int32.ofNat 5).toInt64 &&& 63) = (5 : Int64) := by decide
  rw [hsh, hy, hx]
  have e : (Int64.ofNat m <<< (5 : Int64)) ||| Int64.ofNat k = Int64.ofNat (32 * m + k) := by
    apply Int64.toBitVec_inj.mp
    apply BitVec.eq_of_toNat_eq
    rw [Int64.toBitVec_or, Int64.toBitVec_shiftLeft]
    rw [BitVec.toNat_or]
    have h5 : ((5 : Int64).toBitVec.smod 64) = 5#64 := by decide
    rw [h5]
    show ((BitVec.ofNat 64 m <<< (5#64)).toNat ||| (BitVec.ofNat 64 k).toNat) = (BitVec.ofNat 64 (32 * m + k)).toNat
    rw [BitVec.shiftLeft_eq', BitVec.toNat_shiftLeft]
    simp only [BitVec.toNat_ofNat]
    have hm1 : m < 1099511627776 := by omega
    have hk1 : k < 32 := by omega
    rw [Nat.mod_eq_of_lt (a := m) (b := 2 ^ 64) (by omega), Nat.mod_eq_of_lt (a := k) (b := 2 ^ 64) (by omega), Nat.mod_eq_of_lt (a := 32 * m + k) (b := 2 ^ 64) (by omega), show (5 % 2 ^ 64 : Nat) = 5 by decide]
    rw [Nat.shiftLeft_eq, Nat.mod_eq_of_lt (by omega), Nat.mul_comm m (2 ^ 5)]
    exact (Nat.two_pow_add_eq_or_of_lt hk1 m).symm
  rw [e, Int64.toInt_ofNat_of_lt (by omega), Int64.toInt_ofNat_of_lt (by omega)]
  omega
theorem h64add {x y : Int64} (h1 : -9223372036854775808 ≤ x.toInt + y.toInt) (h2 : x.toInt + y.toInt ≤ 9223372036854775807) : (x + y).toInt = x.toInt + y.toInt := by
  rw [Int64.toInt_add]
  exact Int.bmod_eq_of_le (by omega) (by omega)
theorem h64sub {x y : Int64} (h1 : -9223372036854775808 ≤ x.toInt - y.toInt) (h2 : x.toInt - y.toInt ≤ 9223372036854775807) : (x - y).toInt = x.toInt - y.toInt := by
  rw [Int64.toInt_sub]
  exact Int.bmod_eq_of_le (by omega) (by omega)
theorem h64mul {x y : Int64} (h1 : -9223372036854775808 ≤ x.toInt * y.toInt) (h2 : x.toInt * y.toInt ≤ 9223372036854775807) : (x * y).toInt = x.toInt * y.toInt := by
  rw [Int64.toInt_mul]
  exact Int.bmod_eq_of_le (by omega) (by omega)
theorem h64c (m : Nat) (h : m < 9223372036854775808) : (Int64.ofNat m).toInt = (m : Int) := Int64.toInt_ofNat_of_lt (by omega)
theorem h64dig {x : Int64} {y : Int32} (hx0 : 0 ≤ x.toInt) (hx1 : x.toInt < 100000) (hy0 : 48 ≤ y.toInt) (hy1 : y.toInt ≤ 57) : (x * (Int64.ofNat 10) + y.toInt64 - (Int64.ofNat 48)).toInt = 10 * x.toInt + (y.toInt - 48) := by
  have e1 := h64c 10 (by omega)
  have e2 := h64c 48 (by omega)
  have e3 : y.toInt64.toInt = y.toInt := Int32.toInt_toInt64 y
  have m := h64mul (x := x) (y := Int64.ofNat 10) (by rw [e1]; omega) (by rw [e1]; omega)
  rw [e1] at m
  have a := h64add (x := x * Int64.ofNat 10) (y := y.toInt64) (by omega) (by omega)
  have s := h64sub (x := x * Int64.ofNat 10 + y.toInt64) (y := Int64.ofNat 48) (by omega) (by omega)
  omega
/-! the words' text, by places -/
def hw_f (l : List Nat) : Nat × Nat := l.foldl (fun x c => if c = 32 then (x.1 + 1, 0) else (x.1, x.2 + 1)) (0, 0)
def hw_k (i : Nat) : Nat := (hw_f ((hc_txt 1).take i)).1
def hw_o (i : Nat) : Nat := (hw_f ((hc_txt 1).take i)).2
def hw_w (k : Nat) : List Int := ht_ws.getD k []
def hw_st (i : Nat) : Prop := (hc_txt 1)[i]? = some ((hc_txt 1).getD i 0) ∧ (hc_txt 1).getD i 0 < 128 ∧ hw_k i < 20 ∧ hw_o i < 100 ∧ (((hc_txt 1).getD i 0 ≠ 32 ∧ hw_k (i + 1) = hw_k i ∧ hw_o (i + 1) = hw_o i + 1 ∧ (hw_w (hw_k i)).getD (hw_o i) 0 = (((hc_txt 1).getD i 0 : Nat) : Int)) ∨ ((hc_txt 1).getD i 0 = 32 ∧ hw_k (i + 1) = hw_k i + 1 ∧ hw_o (i + 1) = 0 ∧ (hw_w (hw_k i)).length = hw_o i))
theorem hw_step {i : Nat} (h : i < 102) : hw_st i := by
  have key : ∀ j : Fin 102, (hc_txt 1)[j.1]? = some ((hc_txt 1).getD j.1 0) ∧ (hc_txt 1).getD j.1 0 < 128 ∧ hw_k j.1 < 20 ∧ hw_o j.1 < 100 ∧ (((hc_txt 1).getD j.1 0 ≠ 32 ∧ hw_k (j.1 + 1) = hw_k j.1 ∧ hw_o (j.1 + 1) = hw_o j.1 + 1 ∧ (hw_w (hw_k j.1)).getD (hw_o j.1) 0 = (((hc_txt 1).getD j.1 0 : Nat) : Int)) ∨ ((hc_txt 1).getD j.1 0 = 32 ∧ hw_k (j.1 + 1) = hw_k j.1 + 1 ∧ hw_o (j.1 + 1) = 0 ∧ (hw_w (hw_k j.1)).length = hw_o j.1)) := by decide +kernel
  exact key ⟨i, h⟩
def hw_AL (B : Nat → Int) (p m k o : Nat) : Prop := o ≤ m ∧ ∀ q, q < o → B (p + q) = (hw_w k).getD q 0
section HW
variable {B : Nat → Int} {p m k o e : Nat}
theorem hw_al1 (h : hw_AL B p m k o) (h1 : o < m) (h2 : B (p + o) = (hw_w k).getD o 0) : hw_AL B p m k (o + 1) := ⟨h1, fun q hq => by
  by_cases w : q = o
  · subst w; exact h2
  · exact h.2 q (by omega)⟩
theorem hw_al0 (h : ¬ hw_AL B p m k o) : ¬ hw_AL B p m k (o + 1) := fun w => h ⟨by have := w.1; omega, fun q hq => w.2 q (by omega)⟩
theorem hw_alm (h : ¬ o < m) : ¬ hw_AL B p m k (o + 1) := fun w => h w.1
theorem hw_alc (h : ¬ B (p + o) = (hw_w k).getD o 0) : ¬ hw_AL B p m k (o + 1) := fun w => h (w.2 o (by omega))
theorem hw_all : hw_AL B p m k 0 := ⟨Nat.zero_le _, fun q hq => absurd hq (Nat.not_lt_zero q)⟩
theorem hww_get (hk : k < 20) : ht_ws[k]? = some (hw_w k) := by
  have h20 : ht_ws.length = 20 := by decide
  unfold hw_w
  rw [List.getD_eq_getElem?_getD, List.getElem?_eq_getElem (by omega)]
  rfl
theorem hw_eq (hk : k < 20) (hl : (hw_w k).length = o) (he : p ≤ e) : ht_ws[k]? = some (ht_sub B p e) ↔ (o = e - p ∧ hw_AL B p (e - p) k o) := by
  rw [hww_get hk]
  have hsl : (ht_sub B p e).length = e - p := by unfold ht_sub; simp
  have hsg : ∀ q, q < e - p → (ht_sub B p e).getD q 0 = B (p + q) := fun q hq => by
    unfold ht_sub
    rw [List.getD_eq_getElem?_getD, List.getElem?_map, List.getElem?_range hq]
    rfl
  constructor
  · intro h
    have h' := Option.some.inj h
    have ho : o = e - p := by rw [← hl, h', hsl]
    refine ⟨ho, by omega, fun q hq => ?_⟩
    rw [h', hsg q (by omega)]
  · intro h
    apply congrArg some
    apply List.ext_getElem (by rw [hl, hsl]; exact h.1)
    intro q h1 h2
    have a := h.2.2 q (by omega)
    have b := hsg q (by omega)
    rw [List.getD_eq_getElem?_getD, List.getElem?_eq_getElem h2] at b
    rw [List.getD_eq_getElem?_getD, List.getElem?_eq_getElem h1] at a
    exact (a.symm.trans b.symm)
end HW
theorem hsg_ix {x : Int32} (h0 : 0 ≤ x.toInt) (h1 : x.toInt ≤ 127) : ((hc_ixf x (hc_txt 0) 0).toInt = -1 ∧ ht_sg x.toInt = 23) ∨ (0 ≤ (hc_ixf x (hc_txt 0) 0).toInt ∧ (hc_ixf x (hc_txt 0) 0).toInt ≤ 8 ∧ ht_sg x.toInt = 24 + (hc_ixf x (hc_txt 0) 0).toInt) := by
  have key : ∀ j : Fin 128, ((hc_ixf (Int32.ofNat j.1) (hc_txt 0) 0).toInt = -1 ∧ ht_sg (j.1 : Int) = 23) ∨ (0 ≤ (hc_ixf (Int32.ofNat j.1) (hc_txt 0) 0).toInt ∧ (hc_ixf (Int32.ofNat j.1) (hc_txt 0) 0).toInt ≤ 8 ∧ ht_sg (j.1 : Int) = 24 + (hc_ixf (Int32.ofNat j.1) (hc_txt 0) 0).toInt) := by decide +kernel
  have hx : x = Int32.ofNat x.toInt.toNat := by
    apply Int32.toInt_inj.mp
    rw [hn_c (n := x.toInt.toNat) rfl (by omega)]
    omega
  have := key ⟨x.toInt.toNat, by omega⟩
  dsimp only at this
  rw [← hx, show ((x.toInt.toNat : Nat) : Int) = x.toInt by omega] at this
  exact this
theorem hi2c {x : Int32} (h0 : 0 ≤ x.toInt) (h1 : x.toInt ≤ 127) : (x.toUInt32 % 65536).toInt32 = x := by
  have key : ∀ j : Fin 128, ((Int32.ofNat j.1).toUInt32 % 65536).toInt32 = Int32.ofNat j.1 := by decide +kernel
  have hx : x = Int32.ofNat x.toInt.toNat := by
    apply Int32.toInt_inj.mp
    rw [hn_c (n := x.toInt.toNat) rfl (by omega)]
    omega
  have := key ⟨x.toInt.toNat, by omega⟩
  dsimp only at this
  rw [← hx] at this
  exact this
theorem hpow1 {b : Int} (hb : 1 ≤ b) : ∀ m : Nat, 1 ≤ b ^ m
  | 0 => by rw [Int.pow_zero]; omega
  | m + 1 => by
    rw [Int.pow_succ]
    have h1 := hpow1 hb m
    have h2 := Int.mul_le_mul_of_nonneg_left hb (show 0 ≤ b ^ m by omega)
    rw [Int.mul_one] at h2
    omega
theorem hpow {b : Int} (hb : 1 ≤ b) {m : Nat} : ∀ d : Nat, b ^ m ≤ b ^ (m + d)
  | 0 => Int.le_refl _
  | d + 1 => by
    rw [show m + (d + 1) = (m + d) + 1 from rfl, Int.pow_succ]
    have h1 := hpow hb (m := m) d
    have h3 := hpow1 hb (m + d)
    have h2 := Int.mul_le_mul_of_nonneg_left hb (show 0 ≤ b ^ (m + d) by omega)
    rw [Int.mul_one] at h2
    omega
theorem hpowk {b : Int} (hb : 1 ≤ b) {m k : Nat} (h : m ≤ k) : b ^ m ≤ b ^ k := by
  have := hpow hb (m := m) (k - m)
  rw [show m + (k - m) = k by omega] at this
  exact this
theorem hW59 {g d f : Nat} {A : hs_A} {B : Nat → Int} {n i : Nat} (a1 a2 : Int32) (hA : hcTp B n A) (h1 : a1.toInt = (i : Int)) (h2 : a2.toInt = (n : Int)) (hi : i ≤ n) {P : Option Value → hs_A → Prop} (hP : ∀ (r : Option Value) (A' : hs_A), (A = A' ∧ ∃ z : Int32, r = some (.int z) ∧ z.toInt = (ht_run B n ht_bl i : Int)) → P r A') : hpa (f, g) d (some (.int)) hm_t59 0 [.ref 2, .int a1, .int a2, .retAddr 0, .retAddr 0] [] A P := by
  have k1 := hk_1
  have k10 := hk_10
  have k13 := hk_13
  have k32 := hk_32
  have k9 := hk_9
  have L2 : ∀ (f : Nat) (x2_3 : Int32) (x2_4 : Value) (lo : (i : Int) ≤ x2_3.toInt) (hh : x2_3.toInt ≤ (n : Int)) (run : ht_run B n ht_bl (x2_3.toInt).toNat = ht_run B n ht_bl i), hpa (f, g) d (some (.int)) hm_t59 2 [.ref 2, .int a1, .int a2, .int x2_3, x2_4] [] A P := by
    intro f
    induction f with
    | zero => intros; exact hpa.zero
    | succ f ih2 =>
      intro x2_3 x2_4 lo hh run
      refine hpa_iload_nS (by rfl) rfl ?_
      refine hpa_iload_n (by rfl) rfl ?_
      refine hpj_cge (by rfl) rfl rfl (fun q1 => ?_) (fun q1 => ?_)
      ·
        refine hpa_iload_n (by rfl) rfl ?_
        exact hpa_ireturn (by rfl) rfl (hP _ _ ⟨rfl, _, rfl, by have r := run; rw [ht_run_stop B n (fun q => absurd q.1 (by omega))] at r; omega⟩)
      ·
        refine hpa_aload_n (by rfl) rfl ?_
        refine hpa_iload_n (by rfl) rfl ?_
        refine hpx_bald (by rfl) (by rfl) (fun h0v2 h1v2 v2 ev2 => ?_)
        have tv2 : v2.toInt = B (x2_3.toInt).toNat := by rw [← ev2]; exact hA (x2_3.toInt).toNat (by omega)
        refine hpa_s1 (by rfl) (Or.inr ⟨_, rfl, rfl⟩) rfl ?_
        refine hpa_iload (by rfl) rfl ?_
        refine hpa_bipush (by rfl) rfl ?_
        refine hpj_ceq (by rfl) rfl hk_9 (fun q3 => ?_) (fun q3 => ?_)
        ·
          refine hpj_iinc (by rfl) rfl rfl hk_1 (by omega) (by omega) (fun _ => rfl) (fun z4 ez4 => ?_)
          refine hpa_goto (by rfl) ?_
          exact ih2 z4 (.int v2) (by omega) (by omega) (by rw [show z4.toInt.toNat = x2_3.toInt.toNat + 1 by omega, ← ht_run_go B n (by omega) (ht_bl_iff.mpr (by omega))]; exact run)
        ·
          refine hpa_iload (by rfl) rfl ?_
          refine hpa_bipush (by rfl) rfl ?_
          refine hpj_ceq (by rfl) rfl hk_10 (fun q5 => ?_) (fun q5 => ?_)
          ·
            refine hpj_iinc (by rfl) rfl rfl hk_1 (by omega) (by omega) (fun _ => rfl) (fun z6 ez6 => ?_)
            refine hpa_goto (by rfl) ?_
            exact ih2 z6 (.int v2) (by omega) (by omega) (by rw [show z6.toInt.toNat = x2_3.toInt.toNat + 1 by omega, ← ht_run_go B n (by omega) (ht_bl_iff.mpr (by omega))]; exact run)
          ·
            refine hpa_iload (by rfl) rfl ?_
            refine hpa_bipush (by rfl) rfl ?_
            refine hpj_ceq (by rfl) rfl hk_13 (fun q7 => ?_) (fun q7 => ?_)
            ·
              refine hpj_iinc (by rfl) rfl rfl hk_1 (by omega) (by omega) (fun _ => rfl) (fun z8 ez8 => ?_)
              refine hpa_goto (by rfl) ?_
              exact ih2 z8 (.int v2) (by omega) (by omega) (by rw [show z8.toInt.toNat = x2_3.toInt.toNat + 1 by omega, ← ht_run_go B n (by omega) (ht_bl_iff.mpr (by omega))]; exact run)
            ·
              refine hpa_iload (by rfl) rfl ?_
              refine hpa_bipush (by rfl) rfl ?_
              refine hpj_ceq (by rfl) rfl hk_32 (fun q9 => ?_) (fun q9 => ?_)
              ·
                refine hpj_iinc (by rfl) rfl rfl hk_1 (by omega) (by omega) (fun _ => rfl) (fun z10 ez10 => ?_)
                refine hpa_goto (by rfl) ?_
                exact ih2 z10 (.int v2) (by omega) (by omega) (by rw [show z10.toInt.toNat = x2_3.toInt.toNat + 1 by omega, ← ht_run_go B n (by omega) (ht_bl_iff.mpr (by omega))]; exact run)
              ·
                refine hpa_iload_n (by rfl) rfl ?_
                exact hpa_ireturn (by rfl) rfl (hP _ _ ⟨rfl, _, rfl, by have r := run; rw [ht_run_stop B n (fun q => absurd (ht_bl_iff.mp q.2) (by omega))] at r; omega⟩)
  refine hpa_iload_n (by rfl) rfl ?_
  refine hpa_s1 (by rfl) (Or.inl ⟨_, rfl, rfl⟩) rfl ?_
  exact L2 _ a1 (.retAddr 0) (by omega) (by omega) (by rw [show a1.toInt.toNat = i by omega])
theorem hP59 {g d : Nat} {A : hs_A} {B : Nat → Int} {n i : Nat} (a1 a2 : Int32) (hA : hcTp B n A) (h1 : a1.toInt = (i : Int)) (h2 : a2.toInt = (n : Int)) (hi : i ≤ n) : hpC g d 59 hm_m59 [.ref 2, .int a1, .int a2] A (fun r A' => A = A' ∧ ∃ z : Int32, r = some (.int z) ∧ z.toInt = (ht_run B n ht_bl i : Int)) := hpC.all (fun f d => hW59 a1 a2 hA h1 h2 hi (fun r A' h => h))
theorem hW62 {g d f : Nat} {A : hs_A} {B : Nat → Int} {n p e : Nat} (a1 a2 : Int32) (hA : hcTp B n A) (h1 : a1.toInt = (p : Int)) (h2 : a2.toInt = (e : Int)) (hpe : p ≤ e) (hen : e ≤ n) (hn : n ≤ 2000) {P : Option Value → hs_A → Prop} (hP : ∀ (r : Option Value) (A' : hs_A), (A = A' ∧ ∃ z : Int32, r = some (.int z) ∧ ((z.toInt = -1 ∧ ht_ix (ht_sub B p e) ht_ws 0 = none) ∨ (∃ k : Nat, z.toInt = (k : Int) ∧ ht_ix (ht_sub B p e) ht_ws 0 = some k))) → P r A') : hpa (f, g) d (some (.int)) hm_t62 0 [.ref 2, .int a1, .int a2, .retAddr 0, .retAddr 0, .retAddr 0, .retAddr 0, .retAddr 0] [] A P := by
  have k0 := hk_0
  have k1 := hk_1
  have k32 := hk_32
  have k4294967295 := hk_4294967295
  have L11 : ∀ (f : Nat) (x11_3 : Int32) (x11_4 : Int32) (x11_5 : Int32) (x11_6 : Int32) (x11_7 : Value) (lo : 0 ≤ x11_6.toInt) (hh : x11_6.toInt ≤ 102) (kk : x11_3.toInt = (hw_k (x11_6.toInt).toNat : Int)) (oo : x11_4.toInt = (p : Int) + (hw_o (x11_6.toInt).toNat : Int)) (aa : (x11_5.toInt = 1 ∧ hw_AL B p (e - p) (hw_k (x11_6.toInt).toNat) (hw_o (x11_6.toInt).toNat)) ∨ (x11_5.toInt = 0 ∧ ¬ hw_AL B p (e - p) (hw_k (x11_6.toInt).toNat) (hw_o (x11_6.toInt).toNat))) (no : ∀ k, k < hw_k (x11_6.toInt).toNat → ht_ws[k]? ≠ some (ht_sub B p e)), hpa (f, g) d (some (.int)) hm_t62 11 [.ref 2, .int a1, .int a2, .int x11_3, .int x11_4, .int x11_5, .int x11_6, x11_7] [] A P := by
    intro f
    induction f with
    | zero => intros; exact hpa.zero
    | succ f ih11 =>
      intro x11_3 x11_4 x11_5 x11_6 x11_7 lo hh kk oo aa no
      rcases aa with ⟨z5, al⟩ | ⟨z5, al⟩
      ·
        refine hpa_iloadS (by rfl) rfl ?_
        refine hpa_ldcS (k := 1) (by rfl) rfl ?_
        refine hpj_strLen (by rfl) (by rfl) (fun z1 ez1 => ?_)
        refine hpj_cge (by rfl) rfl rfl (fun q2 => ?_) (fun q2 => ?_)
        ·
          refine hpa_iconst (by rfl) rfl ?_
          exact hpa_ireturn (by rfl) rfl (hP _ _ ⟨rfl, _, rfl, Or.inl ⟨hk_4294967295, ht_ix_none (fun k hk => no k (by rw [show x11_6.toInt.toNat = 102 by omega, show hw_k 102 = 20 by decide +kernel]; exact hk))⟩⟩)
        ·
          refine hpa_ldcS (k := 1) (by rfl) rfl ?_
          refine hpa_iload (by rfl) rfl ?_
          obtain ⟨hb, hb8, hk20, ho99, hst⟩ := hw_step (i := x11_6.toInt.toNat) (by omega)
          refine hpa_strChar (k := 1) (by rfl) (by rfl) (hn_ix0 rfl (by omega)) hb ?_
          have tb := hn_c (n := ((hc_txt 1).getD x11_6.toInt.toNat 0)) rfl (by omega)
          rcases hst with ⟨hb32, hs1, hs2, hs3⟩ | ⟨hb32, hs1, hs2, hs3⟩
          ·
            refine hpa_s1 (by rfl) (Or.inr ⟨_, rfl, rfl⟩) rfl ?_
            refine hpa_iload (by rfl) rfl ?_
            refine hpa_bipush (by rfl) rfl ?_
            refine hpj_ceq (by rfl) rfl hk_32 (fun q3 => False.elim (by omega)) (fun q3 => ?_)
            refine hpa_iload (by rfl) rfl ?_
            refine hpj_zeq (by rfl) rfl (fun q4 => False.elim (by omega)) (fun q4 => ?_)
            refine hpa_iload (by rfl) rfl ?_
            refine hpa_iload_n (by rfl) rfl ?_
            refine hpj_cge (by rfl) rfl rfl (fun q5 => ?_) (fun q5 => ?_)
            ·
              refine hpa_iconst (by rfl) rfl ?_
              refine hpa_s1 (by rfl) (Or.inr ⟨_, rfl, rfl⟩) rfl ?_
              refine hpj_iinc (by rfl) rfl rfl hk_1 (by omega) (by omega) (fun _ => rfl) (fun z6 ez6 => ?_)
              refine hpa_goto (by rfl) ?_
              refine hpj_iinc (by rfl) rfl rfl hk_1 (by omega) (by omega) (fun _ => rfl) (fun z7 ez7 => ?_)
              refine hpa_goto (by rfl) ?_
              exact ih11 x11_3 z6 (Int32.ofNat 0) z7 (.int (Int32.ofNat ((hc_txt 1).getD x11_6.toInt.toNat 0))) (by omega) (by omega) (by rw [show z7.toInt.toNat = x11_6.toInt.toNat + 1 by omega, hs1]; omega) (by rw [show z7.toInt.toNat = x11_6.toInt.toNat + 1 by omega, hs2]; omega) (Or.inr ⟨hk_0, by rw [show z7.toInt.toNat = x11_6.toInt.toNat + 1 by omega, hs1, hs2]; exact hw_alm (by omega)⟩) (fun k hk => no k (by rw [show z7.toInt.toNat = x11_6.toInt.toNat + 1 by omega, hs1] at hk; exact hk))
            ·
              refine hpa_aload_n (by rfl) rfl ?_
              refine hpa_iload (by rfl) rfl ?_
              refine hpx_bald (by rfl) (by rfl) (fun h0v8 h1v8 v8 ev8 => ?_)
              have tv8 : v8.toInt = B (x11_4.toInt).toNat := by rw [← ev8]; exact hA (x11_4.toInt).toNat (by omega)
              rw [show (x11_4.toInt).toNat = p + hw_o x11_6.toInt.toNat by omega] at tv8
              refine hpa_iload (by rfl) rfl ?_
              refine hpj_cne (by rfl) rfl rfl (fun q9 => ?_) (fun q9 => ?_)
              ·
                refine hpa_iconst (by rfl) rfl ?_
                refine hpa_s1 (by rfl) (Or.inr ⟨_, rfl, rfl⟩) rfl ?_
                refine hpj_iinc (by rfl) rfl rfl hk_1 (by omega) (by omega) (fun _ => rfl) (fun z10 ez10 => ?_)
                refine hpa_goto (by rfl) ?_
                refine hpj_iinc (by rfl) rfl rfl hk_1 (by omega) (by omega) (fun _ => rfl) (fun z11 ez11 => ?_)
                refine hpa_goto (by rfl) ?_
                exact ih11 x11_3 z10 (Int32.ofNat 0) z11 (.int (Int32.ofNat ((hc_txt 1).getD x11_6.toInt.toNat 0))) (by omega) (by omega) (by rw [show z11.toInt.toNat = x11_6.toInt.toNat + 1 by omega, hs1]; omega) (by rw [show z11.toInt.toNat = x11_6.toInt.toNat + 1 by omega, hs2]; omega) (Or.inr ⟨hk_0, by rw [show z11.toInt.toNat = x11_6.toInt.toNat + 1 by omega, hs1, hs2]; exact hw_alc (by omega)⟩) (fun k hk => no k (by rw [show z11.toInt.toNat = x11_6.toInt.toNat + 1 by omega, hs1] at hk; exact hk))
              ·
                refine hpa_iconst (by rfl) rfl ?_
                refine hpa_goto (by rfl) ?_
                refine hpa_s1 (by rfl) (Or.inr ⟨_, rfl, rfl⟩) rfl ?_
                refine hpj_iinc (by rfl) rfl rfl hk_1 (by omega) (by omega) (fun _ => rfl) (fun z12 ez12 => ?_)
                refine hpa_goto (by rfl) ?_
                refine hpj_iinc (by rfl) rfl rfl hk_1 (by omega) (by omega) (fun _ => rfl) (fun z13 ez13 => ?_)
                refine hpa_goto (by rfl) ?_
                exact ih11 x11_3 z12 (Int32.ofNat 1) z13 (.int (Int32.ofNat ((hc_txt 1).getD x11_6.toInt.toNat 0))) (by omega) (by omega) (by rw [show z13.toInt.toNat = x11_6.toInt.toNat + 1 by omega, hs1]; omega) (by rw [show z13.toInt.toNat = x11_6.toInt.toNat + 1 by omega, hs2]; omega) (Or.inl ⟨hk_1, by rw [show z13.toInt.toNat = x11_6.toInt.toNat + 1 by omega, hs1, hs2]; exact hw_al1 al (by omega) (by omega)⟩) (fun k hk => no k (by rw [show z13.toInt.toNat = x11_6.toInt.toNat + 1 by omega, hs1] at hk; exact hk))
          ·
            refine hpa_s1 (by rfl) (Or.inr ⟨_, rfl, rfl⟩) rfl ?_
            refine hpa_iload (by rfl) rfl ?_
            refine hpa_bipush (by rfl) rfl ?_
            refine hpj_ceq (by rfl) rfl hk_32 (fun q14 => ?_) (fun q14 => False.elim (by omega))
            refine hpa_iload (by rfl) rfl ?_
            refine hpj_zeq (by rfl) rfl (fun q15 => False.elim (by omega)) (fun q15 => ?_)
            refine hpa_iload (by rfl) rfl ?_
            refine hpa_iload_n (by rfl) rfl ?_
            refine hpj_cne (by rfl) rfl rfl (fun q16 => ?_) (fun q16 => ?_)
            ·
              refine hpj_iinc (by rfl) rfl rfl hk_1 (by omega) (by omega) (fun _ => rfl) (fun z17 ez17 => ?_)
              refine hpa_iload_n (by rfl) rfl ?_
              refine hpa_s1 (by rfl) (Or.inr ⟨_, rfl, rfl⟩) rfl ?_
              refine hpa_iconst (by rfl) rfl ?_
              refine hpa_s1 (by rfl) (Or.inr ⟨_, rfl, rfl⟩) rfl ?_
              refine hpj_iinc (by rfl) rfl rfl hk_1 (by omega) (by omega) (fun _ => rfl) (fun z18 ez18 => ?_)
              refine hpa_goto (by rfl) ?_
              exact ih11 z17 a1 (Int32.ofNat 1) z18 (.int (Int32.ofNat ((hc_txt 1).getD x11_6.toInt.toNat 0))) (by omega) (by omega) (by rw [show z18.toInt.toNat = x11_6.toInt.toNat + 1 by omega, hs1]; omega) (by rw [show z18.toInt.toNat = x11_6.toInt.toNat + 1 by omega, hs2]; omega) (Or.inl ⟨hk_1, by rw [show z18.toInt.toNat = x11_6.toInt.toNat + 1 by omega, hs1, hs2]; exact hw_all⟩) (fun k hk => by rw [show z18.toInt.toNat = x11_6.toInt.toNat + 1 by omega, hs1] at hk; by_cases qk : k = hw_k x11_6.toInt.toNat; (subst qk; exact fun w => absurd ((hw_eq hk20 hs3 hpe).mp w).1 (by omega)); exact no k (by omega))
            ·
              refine hpa_iload_n (by rfl) rfl ?_
              exact hpa_ireturn (by rfl) rfl (hP _ _ ⟨rfl, _, rfl, Or.inr ⟨_, kk, by rw [ht_ix_some no ((hw_eq hk20 hs3 hpe).mpr ⟨by omega, al⟩), Nat.zero_add]⟩⟩)
      ·
        refine hpa_iloadS (by rfl) rfl ?_
        refine hpa_ldcS (k := 1) (by rfl) rfl ?_
        refine hpj_strLen (by rfl) (by rfl) (fun z19 ez19 => ?_)
        refine hpj_cge (by rfl) rfl rfl (fun q20 => ?_) (fun q20 => ?_)
        ·
          refine hpa_iconst (by rfl) rfl ?_
          exact hpa_ireturn (by rfl) rfl (hP _ _ ⟨rfl, _, rfl, Or.inl ⟨hk_4294967295, ht_ix_none (fun k hk => no k (by rw [show x11_6.toInt.toNat = 102 by omega, show hw_k 102 = 20 by decide +kernel]; exact hk))⟩⟩)
        ·
          refine hpa_ldcS (k := 1) (by rfl) rfl ?_
          refine hpa_iload (by rfl) rfl ?_
          obtain ⟨hb, hb8, hk20, ho99, hst⟩ := hw_step (i := x11_6.toInt.toNat) (by omega)
          refine hpa_strChar (k := 1) (by rfl) (by rfl) (hn_ix0 rfl (by omega)) hb ?_
          have tb := hn_c (n := ((hc_txt 1).getD x11_6.toInt.toNat 0)) rfl (by omega)
          rcases hst with ⟨hb32, hs1, hs2, hs3⟩ | ⟨hb32, hs1, hs2, hs3⟩
          ·
            refine hpa_s1 (by rfl) (Or.inr ⟨_, rfl, rfl⟩) rfl ?_
            refine hpa_iload (by rfl) rfl ?_
            refine hpa_bipush (by rfl) rfl ?_
            refine hpj_ceq (by rfl) rfl hk_32 (fun q21 => False.elim (by omega)) (fun q21 => ?_)
            refine hpa_iload (by rfl) rfl ?_
            refine hpj_zeq (by rfl) rfl (fun q22 => ?_) (fun q22 => False.elim (by omega))
            refine hpa_iconst (by rfl) rfl ?_
            refine hpa_s1 (by rfl) (Or.inr ⟨_, rfl, rfl⟩) rfl ?_
            refine hpj_iinc (by rfl) rfl rfl hk_1 (by omega) (by omega) (fun _ => rfl) (fun z23 ez23 => ?_)
            refine hpa_goto (by rfl) ?_
            refine hpj_iinc (by rfl) rfl rfl hk_1 (by omega) (by omega) (fun _ => rfl) (fun z24 ez24 => ?_)
            refine hpa_goto (by rfl) ?_
            exact ih11 x11_3 z23 (Int32.ofNat 0) z24 (.int (Int32.ofNat ((hc_txt 1).getD x11_6.toInt.toNat 0))) (by omega) (by omega) (by rw [show z24.toInt.toNat = x11_6.toInt.toNat + 1 by omega, hs1]; omega) (by rw [show z24.toInt.toNat = x11_6.toInt.toNat + 1 by omega, hs2]; omega) (Or.inr ⟨hk_0, by rw [show z24.toInt.toNat = x11_6.toInt.toNat + 1 by omega, hs1, hs2]; exact hw_al0 al⟩) (fun k hk => no k (by rw [show z24.toInt.toNat = x11_6.toInt.toNat + 1 by omega, hs1] at hk; exact hk))
          ·
            refine hpa_s1 (by rfl) (Or.inr ⟨_, rfl, rfl⟩) rfl ?_
            refine hpa_iload (by rfl) rfl ?_
            refine hpa_bipush (by rfl) rfl ?_
            refine hpj_ceq (by rfl) rfl hk_32 (fun q25 => ?_) (fun q25 => False.elim (by omega))
            refine hpa_iload (by rfl) rfl ?_
            refine hpj_zeq (by rfl) rfl (fun q26 => ?_) (fun q26 => False.elim (by omega))
            refine hpj_iinc (by rfl) rfl rfl hk_1 (by omega) (by omega) (fun _ => rfl) (fun z27 ez27 => ?_)
            refine hpa_iload_n (by rfl) rfl ?_
            refine hpa_s1 (by rfl) (Or.inr ⟨_, rfl, rfl⟩) rfl ?_
            refine hpa_iconst (by rfl) rfl ?_
            refine hpa_s1 (by rfl) (Or.inr ⟨_, rfl, rfl⟩) rfl ?_
            refine hpj_iinc (by rfl) rfl rfl hk_1 (by omega) (by omega) (fun _ => rfl) (fun z28 ez28 => ?_)
            refine hpa_goto (by rfl) ?_
            exact ih11 z27 a1 (Int32.ofNat 1) z28 (.int (Int32.ofNat ((hc_txt 1).getD x11_6.toInt.toNat 0))) (by omega) (by omega) (by rw [show z28.toInt.toNat = x11_6.toInt.toNat + 1 by omega, hs1]; omega) (by rw [show z28.toInt.toNat = x11_6.toInt.toNat + 1 by omega, hs2]; omega) (Or.inl ⟨hk_1, by rw [show z28.toInt.toNat = x11_6.toInt.toNat + 1 by omega, hs1, hs2]; exact hw_all⟩) (fun k hk => by rw [show z28.toInt.toNat = x11_6.toInt.toNat + 1 by omega, hs1] at hk; by_cases qk : k = hw_k x11_6.toInt.toNat; (subst qk; exact fun w => al (((hw_eq hk20 hs3 hpe).mp w).2)); exact no k (by omega))
  refine hpa_iconst (by rfl) rfl ?_
  refine hpa_s1 (by rfl) (Or.inl ⟨_, rfl, rfl⟩) rfl ?_
  refine hpa_iload_n (by rfl) rfl ?_
  refine hpa_s1 (by rfl) (Or.inr ⟨_, rfl, rfl⟩) rfl ?_
  refine hpa_iconst (by rfl) rfl ?_
  refine hpa_s1 (by rfl) (Or.inr ⟨_, rfl, rfl⟩) rfl ?_
  refine hpa_iconst (by rfl) rfl ?_
  refine hpa_s1 (by rfl) (Or.inr ⟨_, rfl, rfl⟩) rfl ?_
  exact L11 _ (Int32.ofNat 0) a1 (Int32.ofNat 1) (Int32.ofNat 0) (.retAddr 0) (by omega) (by omega) (by rw [hk_0]; exact hk_0) (by rw [hk_0]; show _ = (p : Int) + ((0 : Nat) : Int); omega) (Or.inl ⟨hk_1, by rw [hk_0]; exact hw_all⟩) (fun k hk => absurd hk (by rw [hk_0]; exact Nat.not_lt_zero k))
theorem hP62 {g d : Nat} {A : hs_A} {B : Nat → Int} {n p e : Nat} (a1 a2 : Int32) (hA : hcTp B n A) (h1 : a1.toInt = (p : Int)) (h2 : a2.toInt = (e : Int)) (hpe : p ≤ e) (hen : e ≤ n) (hn : n ≤ 2000) : hpC g d 62 hm_m62 [.ref 2, .int a1, .int a2] A (fun r A' => A = A' ∧ ∃ z : Int32, r = some (.int z) ∧ ((z.toInt = -1 ∧ ht_ix (ht_sub B p e) ht_ws 0 = none) ∨ (∃ k : Nat, z.toInt = (k : Int) ∧ ht_ix (ht_sub B p e) ht_ws 0 = some k))) := hpC.all (fun f d => hW62 a1 a2 hA h1 h2 hpe hen hn (fun r A' h => h))
theorem hW61 {g d f : Nat} {A : hs_A} {B : Nat → Int} {n p j : Nat} (a1 a2 : Int32) (hA : hcTp B n A) (h1 : a1.toInt = (p : Int)) (h2 : a2.toInt = (n : Int)) (hp : p < n) (hn : n ≤ 2000) (hl : ht_le (B p) = true) (hj : (A.1 21 3).toInt = (j : Int)) (hv0 : A.2.2.1 23 j = 0) {P : Option Value → hs_A → Prop} (hP : ∀ (r : Option Value) (A' : hs_A), (∃ z : Int32, r = some (.int z) ∧ z.toInt = (ht_end B n p : Int) ∧ hcG B n A A' p j) → P r A') : hpa (f, g) d (some (.int)) hm_t61 0 [.ref 22, .ref 2, .int a1, .int a2, .retAddr 0, .retAddr 0] [] A P := by
  have k1 := hk_1
  have k122 := hk_122
  have k20 := hk_20
  have k23 := hk_23
  have k4294967295 := hk_4294967295
  have k5 := hk_5
  have k8 := hk_8
  have k97 := hk_97
  have L3 : ∀ (f : Nat) (x3_4 : Int32) (A3 : hs_A) (v3 : Int64) (e3 : A3.1 = A.1) (f3 : A3.2.1 = A.2.1) (g3 : A3.2.2.1 = hs_upL A.2.2.1 23 j v3) (r3 : A3.2.2.2 = A.2.2.2) (lo : (p : Int) ≤ x3_4.toInt) (hh : x3_4.toInt ≤ (n : Int)) (hall : ∀ i, p ≤ i → i < (x3_4.toInt).toNat → ht_le (B i) = true) (run : ht_run B n ht_le (x3_4.toInt).toNat = ht_run B n ht_le p) (c3 : x3_4.toInt - (p : Int) ≤ 8 → v3.toInt = ht_g 32 96 (ht_rv B p ((x3_4.toInt).toNat - p))), hpa (f, g) d (some (.int)) hm_t61 3 [.ref 22, .ref 2, .int a1, .int a2, .int x3_4, .retAddr 0] [] A3 P := by
    intro f
    induction f with
    | zero => intros; exact hpa.zero
    | succ f ih3 =>
      intro x3_4 A3 v3 e3 f3 g3 r3 lo hh hall run c3
      have hjw : (A3.1 21 3).toInt = (j : Int) := by rw [e3]; exact hj
      have hiw : (A3.1 21 3).toNatClampNeg = j := by have := hn_cn (j := A3.1 21 3) (by omega); omega
      have hA3 : hcTp B n A3 := fun i hi => by rw [f3]; exact hA i hi
      refine hpa_iloadS (by rfl) rfl ?_
      refine hpa_iload_n (by rfl) rfl ?_
      refine hpj_cge (by rfl) rfl rfl (fun q1 => ?_) (fun q1 => ?_)
      ·
        have hend : ht_run B n ht_le p = x3_4.toInt.toNat := by rw [← run]; exact ht_run_stop B n (fun w => absurd w.1 (by omega))
        refine hpa_iload (by rfl) rfl ?_
        refine hpa_iload_n (by rfl) rfl ?_
        refine hpj_isub (by rfl) rfl rfl (by omega) (by omega) (fun z2 ez2 => ?_)
        refine hpa_bipush (by rfl) rfl ?_
        refine hpj_cle (by rfl) rfl hk_8 (fun q3 => ?_) (fun q3 => ?_)
        ·
          refine hpa_aload_n (by rfl) rfl ?_
          refine hpa_iload_n (by rfl) rfl ?_
          refine hpa_iload (by rfl) rfl ?_
          refine hpa_call2 (by rfl) (by decide) (by rfl) (by rfl) (by rfl) (hP62 a1 x3_4 hA3 h1 (show x3_4.toInt = ((x3_4.toInt.toNat : Nat) : Int) by omega) (by omega) (by omega) hn) ?_
          rintro _ _ ⟨rfl, z5, rfl, (⟨fz_A4, nx_A4⟩ | sx_A4)⟩
          ·
            refine hpa_s1 (by rfl) (Or.inr ⟨_, rfl, rfl⟩) rfl ?_
            refine hpa_aload_n (by rfl) rfl ?_
            refine hpa_get (v := .ref 23) (by rfl) (by rfl) (by rfl) rfl ?_
            refine hpa_aload_n (by rfl) rfl ?_
            refine hpj_getK (by rfl) (by rfl) (by rfl) rfl ?_
            refine hpa_iload (by rfl) rfl ?_
            refine hpa_iconst (by rfl) rfl ?_
            refine hpj_cne (by rfl) rfl hk_4294967295 (fun q6 => False.elim (by omega)) (fun q6 => ?_)
            refine hpa_bipush (by rfl) rfl ?_
            refine hpa_goto (by rfl) ?_
            refine hpx_iast (by rfl) (by rfl) (fun A7 h0A7 h1A7 eA7 fA7 gA7 => ?_)
            refine hpa_iload (by rfl) rfl ?_
            have hkd : ht_kind B n p = 20 := by rw [ht_kind_le hp hl, if_pos (by omega), hend, nx_A4]
            exact hpa_ireturn (by rfl) rfl (hP _ _ ⟨_, rfl, by rw [ht_end_le' hp hl]; omega, (Int32.ofNat 20), v3, by rw [eA7, e3], by rw [fA7, f3, hiw], by rw [gA7, g3], by rw [gA7, r3], by rw [hkd]; exact hk_20, fun _ => by rw [ht_end_le' hp hl, hend]; exact c3 (by omega), (fun q => absurd (((ht_kind_rng (B := B) (n := n) p).2.2.2.2 q).2.1) (fun w => w hl))⟩)
          ·
            obtain ⟨kw, sx1, sx2⟩ := sx_A4
            refine hpa_s1 (by rfl) (Or.inr ⟨_, rfl, rfl⟩) rfl ?_
            refine hpa_aload_n (by rfl) rfl ?_
            refine hpa_get (v := .ref 23) (by rfl) (by rfl) (by rfl) rfl ?_
            refine hpa_aload_n (by rfl) rfl ?_
            refine hpj_getK (by rfl) (by rfl) (by rfl) rfl ?_
            refine hpa_iload (by rfl) rfl ?_
            refine hpa_iconst (by rfl) rfl ?_
            refine hpj_cne (by rfl) rfl hk_4294967295 (fun q8 => ?_) (fun q8 => False.elim (by omega))
            refine hpa_iload (by rfl) rfl ?_
            refine hpx_iast (by rfl) (by rfl) (fun A9 h0A9 h1A9 eA9 fA9 gA9 => ?_)
            refine hpa_iload (by rfl) rfl ?_
            have hkd : ht_kind B n p = z5.toInt := by rw [ht_kind_le hp hl, if_pos (by omega), hend, sx2]; exact sx1.symm
            exact hpa_ireturn (by rfl) rfl (hP _ _ ⟨_, rfl, by rw [ht_end_le' hp hl]; omega, z5, v3, by rw [eA9, e3], by rw [fA9, f3, hiw], by rw [gA9, g3], by rw [gA9, r3], by rw [hkd], fun _ => by rw [ht_end_le' hp hl, hend]; exact c3 (by omega), (fun q => absurd (((ht_kind_rng (B := B) (n := n) p).2.2.2.2 q).2.1) (fun w => w hl))⟩)
        ·
          refine hpa_aload_n (by rfl) rfl ?_
          refine hpa_get (v := .ref 23) (by rfl) (by rfl) (by rfl) rfl ?_
          refine hpa_aload_n (by rfl) rfl ?_
          refine hpj_getK (by rfl) (by rfl) (by rfl) rfl ?_
          refine hpa_bipush (by rfl) rfl ?_
          refine hpx_iast (by rfl) (by rfl) (fun A10 h0A10 h1A10 eA10 fA10 gA10 => ?_)
          refine hpa_goto (by rfl) ?_
          refine hpa_iload (by rfl) rfl ?_
          have hkd : ht_kind B n p = 23 := by rw [ht_kind_le hp hl, if_neg (by omega)]
          exact hpa_ireturn (by rfl) rfl (hP _ _ ⟨_, rfl, by rw [ht_end_le' hp hl]; omega, (Int32.ofNat 23), v3, by rw [eA10, e3], by rw [fA10, f3, hiw], by rw [gA10, g3], by rw [gA10, r3], by rw [hkd]; exact hk_23, fun q => absurd q (by omega), (fun q => absurd (((ht_kind_rng (B := B) (n := n) p).2.2.2.2 q).2.1) (fun w => w hl))⟩)
      ·
        refine hpa_aload_n (by rfl) rfl ?_
        refine hpa_iload (by rfl) rfl ?_
        refine hpx_bald (by rfl) (by rfl) (fun h0v11 h1v11 v11 ev11 => ?_)
        rw [f3] at ev11
        have tv11 : v11.toInt = B (x3_4.toInt).toNat := by rw [← ev11]; exact hA (x3_4.toInt).toNat (by omega)
        refine hpa_bipush (by rfl) rfl ?_
        refine hpj_clt (by rfl) rfl hk_97 (fun q12 => ?_) (fun q12 => ?_)
        ·
          have hend : ht_run B n ht_le p = x3_4.toInt.toNat := by rw [← run]; exact ht_run_stop B n (fun w => absurd (ht_le_iff.mp w.2) (by omega))
          refine hpa_iload (by rfl) rfl ?_
          refine hpa_iload_n (by rfl) rfl ?_
          refine hpj_isub (by rfl) rfl rfl (by omega) (by omega) (fun z13 ez13 => ?_)
          refine hpa_bipush (by rfl) rfl ?_
          refine hpj_cle (by rfl) rfl hk_8 (fun q14 => ?_) (fun q14 => ?_)
          ·
            refine hpa_aload_n (by rfl) rfl ?_
            refine hpa_iload_n (by rfl) rfl ?_
            refine hpa_iload (by rfl) rfl ?_
            refine hpa_call2 (by rfl) (by decide) (by rfl) (by rfl) (by rfl) (hP62 a1 x3_4 hA3 h1 (show x3_4.toInt = ((x3_4.toInt.toNat : Nat) : Int) by omega) (by omega) (by omega) hn) ?_
            rintro _ _ ⟨rfl, z16, rfl, (⟨fz_A15, nx_A15⟩ | sx_A15)⟩
            ·
              refine hpa_s1 (by rfl) (Or.inr ⟨_, rfl, rfl⟩) rfl ?_
              refine hpa_aload_n (by rfl) rfl ?_
              refine hpa_get (v := .ref 23) (by rfl) (by rfl) (by rfl) rfl ?_
              refine hpa_aload_n (by rfl) rfl ?_
              refine hpj_getK (by rfl) (by rfl) (by rfl) rfl ?_
              refine hpa_iload (by rfl) rfl ?_
              refine hpa_iconst (by rfl) rfl ?_
              refine hpj_cne (by rfl) rfl hk_4294967295 (fun q17 => False.elim (by omega)) (fun q17 => ?_)
              refine hpa_bipush (by rfl) rfl ?_
              refine hpa_goto (by rfl) ?_
              refine hpx_iast (by rfl) (by rfl) (fun A18 h0A18 h1A18 eA18 fA18 gA18 => ?_)
              refine hpa_iload (by rfl) rfl ?_
              have hkd : ht_kind B n p = 20 := by rw [ht_kind_le hp hl, if_pos (by omega), hend, nx_A15]
              exact hpa_ireturn (by rfl) rfl (hP _ _ ⟨_, rfl, by rw [ht_end_le' hp hl]; omega, (Int32.ofNat 20), v3, by rw [eA18, e3], by rw [fA18, f3, hiw], by rw [gA18, g3], by rw [gA18, r3], by rw [hkd]; exact hk_20, fun _ => by rw [ht_end_le' hp hl, hend]; exact c3 (by omega), (fun q => absurd (((ht_kind_rng (B := B) (n := n) p).2.2.2.2 q).2.1) (fun w => w hl))⟩)
            ·
              obtain ⟨kw, sx1, sx2⟩ := sx_A15
              refine hpa_s1 (by rfl) (Or.inr ⟨_, rfl, rfl⟩) rfl ?_
              refine hpa_aload_n (by rfl) rfl ?_
              refine hpa_get (v := .ref 23) (by rfl) (by rfl) (by rfl) rfl ?_
              refine hpa_aload_n (by rfl) rfl ?_
              refine hpj_getK (by rfl) (by rfl) (by rfl) rfl ?_
              refine hpa_iload (by rfl) rfl ?_
              refine hpa_iconst (by rfl) rfl ?_
              refine hpj_cne (by rfl) rfl hk_4294967295 (fun q19 => ?_) (fun q19 => False.elim (by omega))
              refine hpa_iload (by rfl) rfl ?_
              refine hpx_iast (by rfl) (by rfl) (fun A20 h0A20 h1A20 eA20 fA20 gA20 => ?_)
              refine hpa_iload (by rfl) rfl ?_
              have hkd : ht_kind B n p = z16.toInt := by rw [ht_kind_le hp hl, if_pos (by omega), hend, sx2]; exact sx1.symm
              exact hpa_ireturn (by rfl) rfl (hP _ _ ⟨_, rfl, by rw [ht_end_le' hp hl]; omega, z16, v3, by rw [eA20, e3], by rw [fA20, f3, hiw], by rw [gA20, g3], by rw [gA20, r3], by rw [hkd], fun _ => by rw [ht_end_le' hp hl, hend]; exact c3 (by omega), (fun q => absurd (((ht_kind_rng (B := B) (n := n) p).2.2.2.2 q).2.1) (fun w => w hl))⟩)
          ·
            refine hpa_aload_n (by rfl) rfl ?_
            refine hpa_get (v := .ref 23) (by rfl) (by rfl) (by rfl) rfl ?_
            refine hpa_aload_n (by rfl) rfl ?_
            refine hpj_getK (by rfl) (by rfl) (by rfl) rfl ?_
            refine hpa_bipush (by rfl) rfl ?_
            refine hpx_iast (by rfl) (by rfl) (fun A21 h0A21 h1A21 eA21 fA21 gA21 => ?_)
            refine hpa_goto (by rfl) ?_
            refine hpa_iload (by rfl) rfl ?_
            have hkd : ht_kind B n p = 23 := by rw [ht_kind_le hp hl, if_neg (by omega)]
            exact hpa_ireturn (by rfl) rfl (hP _ _ ⟨_, rfl, by rw [ht_end_le' hp hl]; omega, (Int32.ofNat 23), v3, by rw [eA21, e3], by rw [fA21, f3, hiw], by rw [gA21, g3], by rw [gA21, r3], by rw [hkd]; exact hk_23, fun q => absurd q (by omega), (fun q => absurd (((ht_kind_rng (B := B) (n := n) p).2.2.2.2 q).2.1) (fun w => w hl))⟩)
        ·
          refine hpa_aload_n (by rfl) rfl ?_
          refine hpa_iload (by rfl) rfl ?_
          refine hpx_bald (by rfl) (by rfl) (fun h0v22 h1v22 v22 ev22 => ?_)
          rw [f3] at ev22
          have tv22 : v22.toInt = B (x3_4.toInt).toNat := by rw [← ev22]; exact hA (x3_4.toInt).toNat (by omega)
          refine hpa_bipush (by rfl) rfl ?_
          refine hpj_cgt (by rfl) rfl hk_122 (fun q23 => ?_) (fun q23 => ?_)
          ·
            have hend : ht_run B n ht_le p = x3_4.toInt.toNat := by rw [← run]; exact ht_run_stop B n (fun w => absurd (ht_le_iff.mp w.2) (by omega))
            refine hpa_iload (by rfl) rfl ?_
            refine hpa_iload_n (by rfl) rfl ?_
            refine hpj_isub (by rfl) rfl rfl (by omega) (by omega) (fun z24 ez24 => ?_)
            refine hpa_bipush (by rfl) rfl ?_
            refine hpj_cle (by rfl) rfl hk_8 (fun q25 => ?_) (fun q25 => ?_)
            ·
              refine hpa_aload_n (by rfl) rfl ?_
              refine hpa_iload_n (by rfl) rfl ?_
              refine hpa_iload (by rfl) rfl ?_
              refine hpa_call2 (by rfl) (by decide) (by rfl) (by rfl) (by rfl) (hP62 a1 x3_4 hA3 h1 (show x3_4.toInt = ((x3_4.toInt.toNat : Nat) : Int) by omega) (by omega) (by omega) hn) ?_
              rintro _ _ ⟨rfl, z27, rfl, (⟨fz_A26, nx_A26⟩ | sx_A26)⟩
              ·
                refine hpa_s1 (by rfl) (Or.inr ⟨_, rfl, rfl⟩) rfl ?_
                refine hpa_aload_n (by rfl) rfl ?_
                refine hpa_get (v := .ref 23) (by rfl) (by rfl) (by rfl) rfl ?_
                refine hpa_aload_n (by rfl) rfl ?_
                refine hpj_getK (by rfl) (by rfl) (by rfl) rfl ?_
                refine hpa_iload (by rfl) rfl ?_
                refine hpa_iconst (by rfl) rfl ?_
                refine hpj_cne (by rfl) rfl hk_4294967295 (fun q28 => False.elim (by omega)) (fun q28 => ?_)
                refine hpa_bipush (by rfl) rfl ?_
                refine hpa_goto (by rfl) ?_
                refine hpx_iast (by rfl) (by rfl) (fun A29 h0A29 h1A29 eA29 fA29 gA29 => ?_)
                refine hpa_iload (by rfl) rfl ?_
                have hkd : ht_kind B n p = 20 := by rw [ht_kind_le hp hl, if_pos (by omega), hend, nx_A26]
                exact hpa_ireturn (by rfl) rfl (hP _ _ ⟨_, rfl, by rw [ht_end_le' hp hl]; omega, (Int32.ofNat 20), v3, by rw [eA29, e3], by rw [fA29, f3, hiw], by rw [gA29, g3], by rw [gA29, r3], by rw [hkd]; exact hk_20, fun _ => by rw [ht_end_le' hp hl, hend]; exact c3 (by omega), (fun q => absurd (((ht_kind_rng (B := B) (n := n) p).2.2.2.2 q).2.1) (fun w => w hl))⟩)
              ·
                obtain ⟨kw, sx1, sx2⟩ := sx_A26
                refine hpa_s1 (by rfl) (Or.inr ⟨_, rfl, rfl⟩) rfl ?_
                refine hpa_aload_n (by rfl) rfl ?_
                refine hpa_get (v := .ref 23) (by rfl) (by rfl) (by rfl) rfl ?_
                refine hpa_aload_n (by rfl) rfl ?_
                refine hpj_getK (by rfl) (by rfl) (by rfl) rfl ?_
                refine hpa_iload (by rfl) rfl ?_
                refine hpa_iconst (by rfl) rfl ?_
                refine hpj_cne (by rfl) rfl hk_4294967295 (fun q30 => ?_) (fun q30 => False.elim (by omega))
                refine hpa_iload (by rfl) rfl ?_
                refine hpx_iast (by rfl) (by rfl) (fun A31 h0A31 h1A31 eA31 fA31 gA31 => ?_)
                refine hpa_iload (by rfl) rfl ?_
                have hkd : ht_kind B n p = z27.toInt := by rw [ht_kind_le hp hl, if_pos (by omega), hend, sx2]; exact sx1.symm
                exact hpa_ireturn (by rfl) rfl (hP _ _ ⟨_, rfl, by rw [ht_end_le' hp hl]; omega, z27, v3, by rw [eA31, e3], by rw [fA31, f3, hiw], by rw [gA31, g3], by rw [gA31, r3], by rw [hkd], fun _ => by rw [ht_end_le' hp hl, hend]; exact c3 (by omega), (fun q => absurd (((ht_kind_rng (B := B) (n := n) p).2.2.2.2 q).2.1) (fun w => w hl))⟩)
            ·
              refine hpa_aload_n (by rfl) rfl ?_
              refine hpa_get (v := .ref 23) (by rfl) (by rfl) (by rfl) rfl ?_
              refine hpa_aload_n (by rfl) rfl ?_
              refine hpj_getK (by rfl) (by rfl) (by rfl) rfl ?_
              refine hpa_bipush (by rfl) rfl ?_
              refine hpx_iast (by rfl) (by rfl) (fun A32 h0A32 h1A32 eA32 fA32 gA32 => ?_)
              refine hpa_goto (by rfl) ?_
              refine hpa_iload (by rfl) rfl ?_
              have hkd : ht_kind B n p = 23 := by rw [ht_kind_le hp hl, if_neg (by omega)]
              exact hpa_ireturn (by rfl) rfl (hP _ _ ⟨_, rfl, by rw [ht_end_le' hp hl]; omega, (Int32.ofNat 23), v3, by rw [eA32, e3], by rw [fA32, f3, hiw], by rw [gA32, g3], by rw [gA32, r3], by rw [hkd]; exact hk_23, fun q => absurd q (by omega), (fun q => absurd (((ht_kind_rng (B := B) (n := n) p).2.2.2.2 q).2.1) (fun w => w hl))⟩)
          ·
            refine hpa_aload_n (by rfl) rfl ?_
            refine hpa_get (v := .ref 24) (by rfl) (by rfl) (by rfl) rfl ?_
            refine hpa_aload_n (by rfl) rfl ?_
            refine hpj_getK (by rfl) (by rfl) (by rfl) rfl ?_
            refine hpa_aload_n (by rfl) rfl ?_
            refine hpa_get (v := .ref 24) (by rfl) (by rfl) (by rfl) rfl ?_
            refine hpa_aload_n (by rfl) rfl ?_
            refine hpj_getK (by rfl) (by rfl) (by rfl) rfl ?_
            refine hpx_lald (by rfl) (by rfl) (fun h0v33 h1v33 v33 ev33 => ?_)
            rw [hiw, g3, hupL1] at ev33
            subst ev33
            refine hpa_iconst (by rfl) rfl ?_
            refine hpa_lshl (by rfl) ?_
            refine hpa_aload_n (by rfl) rfl ?_
            refine hpa_iload (by rfl) rfl ?_
            refine hpx_bald (by rfl) (by rfl) (fun h0v34 h1v34 v34 ev34 => ?_)
            rw [f3] at ev34
            have tv34 : v34.toInt = B (x3_4.toInt).toNat := by rw [← ev34]; exact hA (x3_4.toInt).toNat (by omega)
            refine hpa_bipush (by rfl) rfl ?_
            refine hpj_isub (by rfl) rfl hk_97 (by omega) (by omega) (fun z35 ez35 => ?_)
            refine hpa_iconst (by rfl) rfl ?_
            refine hpj_iadd (by rfl) rfl hk_1 (by omega) (by omega) (fun z36 ez36 => ?_)
            refine hpa_i2l (by rfl) ?_
            refine hpa_lor (by rfl) ?_
            have hbd : x3_4.toInt - (p : Int) ≤ 7 → 0 ≤ v3.toInt ∧ v3.toInt < 32 ^ (x3_4.toInt.toNat - p) := fun h8 => by
              have hb := ht_g_bd (b := 32) (z := 96) (by omega) (l := ht_rv B p (x3_4.toInt.toNat - p)) (fun c hc => by obtain ⟨i, i1, i2, rfl⟩ := ht_rv_mem hc; have := ht_le_iff.mp (hall i i1 (by omega)); omega)
              rw [ht_rv_len, ← c3 (by omega)] at hb
              exact hb
            refine hpx_last (by rfl) (by rfl) (fun A37 h0A37 h1A37 eA37 fA37 gA37 iA37 => ?_)
            have hcl : x3_4.toInt - (p : Int) ≤ 7 → (((v3 <<< ((Int32.ofNat 5).toInt64 &&& 63)) ||| (z36).toInt64)).toInt = 32 * v3.toInt + (B x3_4.toInt.toNat - 96) := fun h8 => by
              have hb := hbd h8
              have hb2 : (32 : Int) ^ (x3_4.toInt.toNat - p) ≤ 32 ^ 7 := hpowk (by omega) (by omega)
              have hor := h64or (x := v3) (y := z36) hb.1 (by omega) (by omega) (by omega)
              omega
            refine hpj_iinc (by rfl) rfl rfl hk_1 (by omega) (by omega) (fun _ => rfl) (fun z38 ez38 => ?_)
            refine hpa_goto (by rfl) ?_
            exact ih3 z38 A37 ((v3 <<< ((Int32.ofNat 5).toInt64 &&& 63)) ||| (z36).toInt64) (eA37.trans e3) (fA37.trans f3) (by rw [gA37, g3, hiw, hupLL]) (iA37.trans r3) (by omega) (by omega) (fun i h1 h2 => by rw [show z38.toInt.toNat = x3_4.toInt.toNat + 1 by omega] at h2; by_cases qi : i = x3_4.toInt.toNat; (subst qi; exact ht_le_iff.mpr ⟨by omega, by omega⟩); exact hall i h1 (by omega)) (by rw [show z38.toInt.toNat = x3_4.toInt.toNat + 1 by omega, ← ht_run_go B n (by omega) (ht_le_iff.mpr ⟨by omega, by omega⟩)]; exact run) (fun h8 => by rw [show z38.toInt.toNat = x3_4.toInt.toNat + 1 by omega, show x3_4.toInt.toNat + 1 - p = (x3_4.toInt.toNat - p) + 1 by omega]; show _ = 32 * ht_g 32 96 (ht_rv B p (x3_4.toInt.toNat - p)) + (B (p + (x3_4.toInt.toNat - p)) - 96); rw [show p + (x3_4.toInt.toNat - p) = x3_4.toInt.toNat by omega, ← c3 (by omega)]; exact (hcl (by omega)))
  refine hpa_iload_n (by rfl) rfl ?_
  refine hpa_s1 (by rfl) (Or.inr ⟨_, rfl, rfl⟩) rfl ?_
  exact L3 _ a1 A 0 rfl rfl (hupL0 hv0) rfl (by omega) (by omega) (fun i h1 h2 => absurd h2 (by omega)) (by rw [show a1.toInt.toNat = p by omega]) (fun _ => by rw [show a1.toInt.toNat - p = 0 by omega]; show (0 : Int64).toInt = 0; decide)
theorem hP61 {g d : Nat} {A : hs_A} {B : Nat → Int} {n p j : Nat} (a1 a2 : Int32) (hA : hcTp B n A) (h1 : a1.toInt = (p : Int)) (h2 : a2.toInt = (n : Int)) (hp : p < n) (hn : n ≤ 2000) (hl : ht_le (B p) = true) (hj : (A.1 21 3).toInt = (j : Int)) (hv0 : A.2.2.1 23 j = 0) : hpC g d 61 hm_m61 [.ref 22, .ref 2, .int a1, .int a2] A (fun r A' => ∃ z : Int32, r = some (.int z) ∧ z.toInt = (ht_end B n p : Int) ∧ hcG B n A A' p j) := hpC.all (fun f d => hW61 a1 a2 hA h1 h2 hp hn hl hj hv0 (fun r A' h => h))
theorem hW63 {g d f : Nat} {A : hs_A} {B : Nat → Int} {n p j : Nat} (a1 a2 : Int32) (hA : hcTp B n A) (h1 : a1.toInt = (p : Int)) (h2 : a2.toInt = (n : Int)) (hp : p < n) (hn : n ≤ 2000) (hnl : ¬ ht_le (B p) = true) (hl : ht_di (B p) = true) (hj : (A.1 21 3).toInt = (j : Int)) (hv0 : A.2.2.1 23 j = 0) {P : Option Value → hs_A → Prop} (hP : ∀ (r : Option Value) (A' : hs_A), (∃ z : Int32, r = some (.int z) ∧ z.toInt = (ht_end B n p : Int) ∧ hcG B n A A' p j) → P r A') : hpa (f, g) d (some (.int)) hm_t63 0 [.ref 22, .ref 2, .int a1, .int a2, .retAddr 0] [] A P := by
  have k1 := hk_1
  have k21 := hk_21
  have k23 := hk_23
  have k4 := hk_4
  have k48 := hk_48
  have k57 := hk_57
  have L3 : ∀ (f : Nat) (x3_4 : Int32) (A3 : hs_A) (v3 : Int64) (e3 : A3.1 = A.1) (f3 : A3.2.1 = A.2.1) (g3 : A3.2.2.1 = hs_upL A.2.2.1 23 j v3) (r3 : A3.2.2.2 = A.2.2.2) (lo : (p : Int) ≤ x3_4.toInt) (hh : x3_4.toInt ≤ (n : Int)) (hall : ∀ i, p ≤ i → i < (x3_4.toInt).toNat → ht_di (B i) = true) (run : ht_run B n ht_di (x3_4.toInt).toNat = ht_run B n ht_di p) (c3 : x3_4.toInt - (p : Int) ≤ 4 → v3.toInt = ht_g 10 48 (ht_rv B p ((x3_4.toInt).toNat - p))), hpa (f, g) d (some (.int)) hm_t63 3 [.ref 22, .ref 2, .int a1, .int a2, .int x3_4] [] A3 P := by
    intro f
    induction f with
    | zero => intros; exact hpa.zero
    | succ f ih3 =>
      intro x3_4 A3 v3 e3 f3 g3 r3 lo hh hall run c3
      have hjw : (A3.1 21 3).toInt = (j : Int) := by rw [e3]; exact hj
      have hiw : (A3.1 21 3).toNatClampNeg = j := by have := hn_cn (j := A3.1 21 3) (by omega); omega
      refine hpa_iloadS (by rfl) rfl ?_
      refine hpa_iload_n (by rfl) rfl ?_
      refine hpj_cge (by rfl) rfl rfl (fun q1 => ?_) (fun q1 => ?_)
      ·
        have hend : ht_run B n ht_di p = x3_4.toInt.toNat := by rw [← run]; exact ht_run_stop B n (fun w => absurd w.1 (by omega))
        refine hpa_aload_n (by rfl) rfl ?_
        refine hpa_get (v := .ref 23) (by rfl) (by rfl) (by rfl) rfl ?_
        refine hpa_aload_n (by rfl) rfl ?_
        refine hpj_getK (by rfl) (by rfl) (by rfl) rfl ?_
        refine hpa_iload (by rfl) rfl ?_
        refine hpa_iload_n (by rfl) rfl ?_
        refine hpj_isub (by rfl) rfl rfl (by omega) (by omega) (fun z2 ez2 => ?_)
        refine hpa_iconst (by rfl) rfl ?_
        refine hpj_cle (by rfl) rfl hk_4 (fun q3 => ?_) (fun q3 => ?_)
        ·
          refine hpa_bipush (by rfl) rfl ?_
          refine hpx_iast (by rfl) (by rfl) (fun A4 h0A4 h1A4 eA4 fA4 gA4 => ?_)
          refine hpa_iload (by rfl) rfl ?_
          have hkd : ht_kind B n p = 21 := by rw [ht_kind_di hp hnl hl, if_pos (by omega)]
          exact hpa_ireturn (by rfl) rfl (hP _ _ ⟨_, rfl, by rw [ht_end_di hp hnl hl]; omega, (Int32.ofNat 21), v3, by rw [eA4, e3], by rw [fA4, f3, hiw], by rw [gA4, g3], by rw [gA4, r3], by rw [hkd]; exact hk_21, fun q => absurd q (by omega), fun _ => by rw [ht_end_di hp hnl hl, hend]; exact c3 (by omega)⟩)
        ·
          refine hpa_bipush (by rfl) rfl ?_
          refine hpa_goto (by rfl) ?_
          refine hpx_iast (by rfl) (by rfl) (fun A5 h0A5 h1A5 eA5 fA5 gA5 => ?_)
          refine hpa_iload (by rfl) rfl ?_
          have hkd : ht_kind B n p = 23 := by rw [ht_kind_di hp hnl hl, if_neg (by omega)]
          exact hpa_ireturn (by rfl) rfl (hP _ _ ⟨_, rfl, by rw [ht_end_di hp hnl hl]; omega, (Int32.ofNat 23), v3, by rw [eA5, e3], by rw [fA5, f3, hiw], by rw [gA5, g3], by rw [gA5, r3], by rw [hkd]; exact hk_23, fun q => absurd q (by omega), fun q => absurd q (by omega)⟩)
      ·
        refine hpa_aload_n (by rfl) rfl ?_
        refine hpa_iload (by rfl) rfl ?_
        refine hpx_bald (by rfl) (by rfl) (fun h0v6 h1v6 v6 ev6 => ?_)
        rw [f3] at ev6
        have tv6 : v6.toInt = B (x3_4.toInt).toNat := by rw [← ev6]; exact hA (x3_4.toInt).toNat (by omega)
        refine hpa_bipush (by rfl) rfl ?_
        refine hpj_clt (by rfl) rfl hk_48 (fun q7 => ?_) (fun q7 => ?_)
        ·
          have hend : ht_run B n ht_di p = x3_4.toInt.toNat := by rw [← run]; exact ht_run_stop B n (fun w => absurd (ht_di_iff.mp w.2) (by omega))
          refine hpa_aload_n (by rfl) rfl ?_
          refine hpa_get (v := .ref 23) (by rfl) (by rfl) (by rfl) rfl ?_
          refine hpa_aload_n (by rfl) rfl ?_
          refine hpj_getK (by rfl) (by rfl) (by rfl) rfl ?_
          refine hpa_iload (by rfl) rfl ?_
          refine hpa_iload_n (by rfl) rfl ?_
          refine hpj_isub (by rfl) rfl rfl (by omega) (by omega) (fun z8 ez8 => ?_)
          refine hpa_iconst (by rfl) rfl ?_
          refine hpj_cle (by rfl) rfl hk_4 (fun q9 => ?_) (fun q9 => ?_)
          ·
            refine hpa_bipush (by rfl) rfl ?_
            refine hpx_iast (by rfl) (by rfl) (fun A10 h0A10 h1A10 eA10 fA10 gA10 => ?_)
            refine hpa_iload (by rfl) rfl ?_
            have hkd : ht_kind B n p = 21 := by rw [ht_kind_di hp hnl hl, if_pos (by omega)]
            exact hpa_ireturn (by rfl) rfl (hP _ _ ⟨_, rfl, by rw [ht_end_di hp hnl hl]; omega, (Int32.ofNat 21), v3, by rw [eA10, e3], by rw [fA10, f3, hiw], by rw [gA10, g3], by rw [gA10, r3], by rw [hkd]; exact hk_21, fun q => absurd q (by omega), fun _ => by rw [ht_end_di hp hnl hl, hend]; exact c3 (by omega)⟩)
          ·
            refine hpa_bipush (by rfl) rfl ?_
            refine hpa_goto (by rfl) ?_
            refine hpx_iast (by rfl) (by rfl) (fun A11 h0A11 h1A11 eA11 fA11 gA11 => ?_)
            refine hpa_iload (by rfl) rfl ?_
            have hkd : ht_kind B n p = 23 := by rw [ht_kind_di hp hnl hl, if_neg (by omega)]
            exact hpa_ireturn (by rfl) rfl (hP _ _ ⟨_, rfl, by rw [ht_end_di hp hnl hl]; omega, (Int32.ofNat 23), v3, by rw [eA11, e3], by rw [fA11, f3, hiw], by rw [gA11, g3], by rw [gA11, r3], by rw [hkd]; exact hk_23, fun q => absurd q (by omega), fun q => absurd q (by omega)⟩)
        ·
          refine hpa_aload_n (by rfl) rfl ?_
          refine hpa_iload (by rfl) rfl ?_
          refine hpx_bald (by rfl) (by rfl) (fun h0v12 h1v12 v12 ev12 => ?_)
          rw [f3] at ev12
          have tv12 : v12.toInt = B (x3_4.toInt).toNat := by rw [← ev12]; exact hA (x3_4.toInt).toNat (by omega)
          refine hpa_bipush (by rfl) rfl ?_
          refine hpj_cgt (by rfl) rfl hk_57 (fun q13 => ?_) (fun q13 => ?_)
          ·
            have hend : ht_run B n ht_di p = x3_4.toInt.toNat := by rw [← run]; exact ht_run_stop B n (fun w => absurd (ht_di_iff.mp w.2) (by omega))
            refine hpa_aload_n (by rfl) rfl ?_
            refine hpa_get (v := .ref 23) (by rfl) (by rfl) (by rfl) rfl ?_
            refine hpa_aload_n (by rfl) rfl ?_
            refine hpj_getK (by rfl) (by rfl) (by rfl) rfl ?_
            refine hpa_iload (by rfl) rfl ?_
            refine hpa_iload_n (by rfl) rfl ?_
            refine hpj_isub (by rfl) rfl rfl (by omega) (by omega) (fun z14 ez14 => ?_)
            refine hpa_iconst (by rfl) rfl ?_
            refine hpj_cle (by rfl) rfl hk_4 (fun q15 => ?_) (fun q15 => ?_)
            ·
              refine hpa_bipush (by rfl) rfl ?_
              refine hpx_iast (by rfl) (by rfl) (fun A16 h0A16 h1A16 eA16 fA16 gA16 => ?_)
              refine hpa_iload (by rfl) rfl ?_
              have hkd : ht_kind B n p = 21 := by rw [ht_kind_di hp hnl hl, if_pos (by omega)]
              exact hpa_ireturn (by rfl) rfl (hP _ _ ⟨_, rfl, by rw [ht_end_di hp hnl hl]; omega, (Int32.ofNat 21), v3, by rw [eA16, e3], by rw [fA16, f3, hiw], by rw [gA16, g3], by rw [gA16, r3], by rw [hkd]; exact hk_21, fun q => absurd q (by omega), fun _ => by rw [ht_end_di hp hnl hl, hend]; exact c3 (by omega)⟩)
            ·
              refine hpa_bipush (by rfl) rfl ?_
              refine hpa_goto (by rfl) ?_
              refine hpx_iast (by rfl) (by rfl) (fun A17 h0A17 h1A17 eA17 fA17 gA17 => ?_)
              refine hpa_iload (by rfl) rfl ?_
              have hkd : ht_kind B n p = 23 := by rw [ht_kind_di hp hnl hl, if_neg (by omega)]
              exact hpa_ireturn (by rfl) rfl (hP _ _ ⟨_, rfl, by rw [ht_end_di hp hnl hl]; omega, (Int32.ofNat 23), v3, by rw [eA17, e3], by rw [fA17, f3, hiw], by rw [gA17, g3], by rw [gA17, r3], by rw [hkd]; exact hk_23, fun q => absurd q (by omega), fun q => absurd q (by omega)⟩)
          ·
            refine hpa_aload_n (by rfl) rfl ?_
            refine hpa_get (v := .ref 24) (by rfl) (by rfl) (by rfl) rfl ?_
            refine hpa_aload_n (by rfl) rfl ?_
            refine hpj_getK (by rfl) (by rfl) (by rfl) rfl ?_
            refine hpa_aload_n (by rfl) rfl ?_
            refine hpa_get (v := .ref 24) (by rfl) (by rfl) (by rfl) rfl ?_
            refine hpa_aload_n (by rfl) rfl ?_
            refine hpj_getK (by rfl) (by rfl) (by rfl) rfl ?_
            refine hpx_lald (by rfl) (by rfl) (fun h0v18 h1v18 v18 ev18 => ?_)
            rw [hiw, g3, hupL1] at ev18
            subst ev18
            refine hpa_ldc2_w (by rfl) rfl ?_
            refine hpa_lmul (by rfl) ?_
            refine hpa_aload_n (by rfl) rfl ?_
            refine hpa_iload (by rfl) rfl ?_
            refine hpx_bald (by rfl) (by rfl) (fun h0v19 h1v19 v19 ev19 => ?_)
            rw [f3] at ev19
            have tv19 : v19.toInt = B (x3_4.toInt).toNat := by rw [← ev19]; exact hA (x3_4.toInt).toNat (by omega)
            refine hpa_i2l (by rfl) ?_
            refine hpa_ladd (by rfl) ?_
            refine hpa_ldc2_w (by rfl) rfl ?_
            refine hpa_lsub (by rfl) ?_
            have hbd : x3_4.toInt - (p : Int) ≤ 3 → 0 ≤ v3.toInt ∧ v3.toInt < 10 ^ (x3_4.toInt.toNat - p) := fun h8 => by
              have hb := ht_g_bd (b := 10) (z := 48) (by omega) (l := ht_rv B p (x3_4.toInt.toNat - p)) (fun c hc => by obtain ⟨i, i1, i2, rfl⟩ := ht_rv_mem hc; have := ht_di_iff.mp (hall i i1 (by omega)); omega)
              rw [ht_rv_len, ← c3 (by omega)] at hb
              exact hb
            refine hpx_last (by rfl) (by rfl) (fun A20 h0A20 h1A20 eA20 fA20 gA20 iA20 => ?_)
            have hcl : x3_4.toInt - (p : Int) ≤ 3 → ((((v3 * (Int64.ofNat 10)) + (v19).toInt64) - (Int64.ofNat 48))).toInt = 10 * v3.toInt + (B x3_4.toInt.toNat - 48) := fun h8 => by
              have hb := hbd h8
              have hb2 : (10 : Int) ^ (x3_4.toInt.toNat - p) ≤ 10 ^ 3 := hpowk (by omega) (by omega)
              have hor := h64dig (x := v3) (y := v19) hb.1 (by omega) (by omega) (by omega)
              omega
            refine hpj_iinc (by rfl) rfl rfl hk_1 (by omega) (by omega) (fun _ => rfl) (fun z21 ez21 => ?_)
            refine hpa_goto (by rfl) ?_
            exact ih3 z21 A20 (((v3 * (Int64.ofNat 10)) + (v19).toInt64) - (Int64.ofNat 48)) (eA20.trans e3) (fA20.trans f3) (by rw [gA20, g3, hiw, hupLL]) (iA20.trans r3) (by omega) (by omega) (fun i h1 h2 => by rw [show z21.toInt.toNat = x3_4.toInt.toNat + 1 by omega] at h2; by_cases qi : i = x3_4.toInt.toNat; (subst qi; exact ht_di_iff.mpr ⟨by omega, by omega⟩); exact hall i h1 (by omega)) (by rw [show z21.toInt.toNat = x3_4.toInt.toNat + 1 by omega, ← ht_run_go B n (by omega) (ht_di_iff.mpr ⟨by omega, by omega⟩)]; exact run) (fun h8 => by rw [show z21.toInt.toNat = x3_4.toInt.toNat + 1 by omega, show x3_4.toInt.toNat + 1 - p = (x3_4.toInt.toNat - p) + 1 by omega]; show _ = 10 * ht_g 10 48 (ht_rv B p (x3_4.toInt.toNat - p)) + (B (p + (x3_4.toInt.toNat - p)) - 48); rw [show p + (x3_4.toInt.toNat - p) = x3_4.toInt.toNat by omega, ← c3 (by omega)]; exact (hcl (by omega)))
  refine hpa_iload_n (by rfl) rfl ?_
  refine hpa_s1 (by rfl) (Or.inr ⟨_, rfl, rfl⟩) rfl ?_
  exact L3 _ a1 A 0 rfl rfl (hupL0 hv0) rfl (by omega) (by omega) (fun i h1 h2 => absurd h2 (by omega)) (by rw [show a1.toInt.toNat = p by omega]) (fun _ => by rw [show a1.toInt.toNat - p = 0 by omega]; show (0 : Int64).toInt = 0; decide)
theorem hP63 {g d : Nat} {A : hs_A} {B : Nat → Int} {n p j : Nat} (a1 a2 : Int32) (hA : hcTp B n A) (h1 : a1.toInt = (p : Int)) (h2 : a2.toInt = (n : Int)) (hp : p < n) (hn : n ≤ 2000) (hnl : ¬ ht_le (B p) = true) (hl : ht_di (B p) = true) (hj : (A.1 21 3).toInt = (j : Int)) (hv0 : A.2.2.1 23 j = 0) : hpC g d 63 hm_m63 [.ref 22, .ref 2, .int a1, .int a2] A (fun r A' => ∃ z : Int32, r = some (.int z) ∧ z.toInt = (ht_end B n p : Int) ∧ hcG B n A A' p j) := hpC.all (fun f d => hW63 a1 a2 hA h1 h2 hp hn hnl hl hj hv0 (fun r A' h => h))
theorem hsg_neg {c : Int} (h : c < 0) : ht_sg c = 23 := by
  unfold ht_sg
  rw [if_neg (by omega), if_neg (by omega), if_neg (by omega), if_neg (by omega), if_neg (by omega), if_neg (by omega), if_neg (by omega), if_neg (by omega), if_neg (by omega)]
def hcD (B : Nat → Int) (n : Nat) (A : hs_A) (u : Nat) : Prop := (A.2.1 22 u).toInt = ht_K B n u ∧ (A.2.1 24 u).toInt = (ht_S B n u : Int) ∧ (ht_K B n u = 20 → (A.2.2.1 23 u).toInt = ht_g 32 96 (ht_M B n u)) ∧ (ht_K B n u = 21 → (A.2.2.1 23 u).toInt = ht_W B n u)
def hcC (A A' : hs_A) : Prop := (∀ i k, ¬ (i = 21 ∧ k = 3) → A'.1 i k = A.1 i k) ∧ (∀ i, i ≠ 22 → i ≠ 24 → A'.2.1 i = A.2.1 i) ∧ (∀ c, c ≠ 23 → A'.2.2.1 c = A.2.2.1 c) ∧ A'.2.2.2 = A.2.2.2
theorem hcC.rfl {A : hs_A} : hcC A A := ⟨fun _ _ _ => Eq.refl _, fun _ _ _ => Eq.refl _, fun _ _ => Eq.refl _, Eq.refl _⟩
section HCU
variable {B : Nat → Int} {n j p : Nat} {A0 A A1 A2 A3 : hs_A} {x y : Int32}
theorem hcD.more (h : ∀ u, u < j → hcD B n A u) (f1 : A1.2.1 = hs_up A.2.1 24 j x) (g1 : A1.2.2 = A.2.2) (hx : x.toInt = (ht_S B n j : Int)) (G : hcG B n A1 A2 (ht_S B n j) j) (f3 : A3.2 = A2.2) : ∀ u, u < j + 1 → hcD B n A3 u := by
  obtain ⟨k, v, h1, h2, h3, h4, h5, h6, h7⟩ := G
  have ek : A3.2.1 22 j = k := by rw [f3, h2, hup1]
  have ev : A3.2.2.1 23 j = v := by rw [f3, h3, hupL1]
  have es : A3.2.1 24 j = x := by rw [f3, h2, hup2 (by omega), f1, hup1]
  intro u hu
  by_cases q : u = j
  · subst q
    exact ⟨by rw [ek]; exact h5, by rw [es]; exact hx, fun q => by rw [ev]; exact h6 q, fun q => by rw [ev]; exact h7 q⟩
  · obtain ⟨d1, d2, d3, d4⟩ := h u (by omega)
    have e1 : A3.2.1 22 u = A.2.1 22 u := by rw [f3, h2, hup2 (by omega), f1, hup2 (by omega)]
    have e2 : A3.2.1 24 u = A.2.1 24 u := by rw [f3, h2, hup2 (by omega), f1, hup2 (by omega)]
    have e3 : A3.2.2.1 23 u = A.2.2.1 23 u := by rw [f3, h3, hupL2 (by omega), g1]
    exact ⟨by rw [e1]; exact d1, by rw [e2]; exact d2, fun q => by rw [e3]; exact d3 q, fun q => by rw [e3]; exact d4 q⟩
theorem hcC.more (h : hcC A0 A) (e1 : A1.1 = A.1) (f1 : A1.2.1 = hs_up A.2.1 24 j x) (g1 : A1.2.2 = A.2.2) (G : hcG B n A1 A2 p j) (e3 : A3.1 = hs_up A2.1 21 3 y) (f3 : A3.2 = A2.2) : hcC A0 A3 := by
  obtain ⟨k, v, h1, h2, h3, h4, -, -, -⟩ := G
  obtain ⟨c1, c2, c3, c4⟩ := h
  refine ⟨fun i k hi => ?_, fun i hi hi' => ?_, fun c hc => ?_, ?_⟩
  · rw [e3, hup2 hi, h1, e1]
    exact c1 i k hi
  · rw [f3, h2, ← c2 i hi hi']
    funext b
    rw [hup2 (by omega), f1, hup2 (by omega)]
  · rw [f3, h3, ← c3 c hc]
    funext b
    rw [hupL2 (by omega), g1]
  · rw [f3, h4, g1]
    exact c4
theorem hcG.kind (G : hcG B n A1 A2 p j) (f3 : A3.2 = A2.2) : (A3.2.1 22 j).toInt = ht_kind B n p := by
  obtain ⟨k, v, h1, h2, h3, h4, h5, -, -⟩ := G
  rw [f3, h2, hup1]
  exact h5
theorem ht_K20 {u : Nat} (h : ht_K B n u = 20) : ∀ c, c ∈ ht_M B n u → 1 ≤ c - 96 ∧ c - 96 < 27 := by
  obtain ⟨h1, h2, h3⟩ := (ht_kind_rng (B := B) (n := n) (ht_S B n u)).2.2.2.1 h
  intro c hc
  unfold ht_M at hc
  rw [ht_end_le' h1 h2] at hc
  obtain ⟨i, i1, i2, rfl⟩ := ht_rv_mem hc
  have hg : ht_S B n u ≤ ht_run B n ht_le (ht_S B n u) := ht_run_ge B n _
  have := ht_le_iff.mp (ht_run_all (B := B) (n := n) (P := ht_le) i1 (by omega))
  omega
theorem ht_K21 {u : Nat} (h : ht_K B n u = 21) : 0 ≤ ht_W B n u ∧ ht_W B n u < 10000 := by
  obtain ⟨h1, h2, h3, h4⟩ := (ht_kind_rng (B := B) (n := n) (ht_S B n u)).2.2.2.2 h
  have hg : ht_S B n u ≤ ht_run B n ht_di (ht_S B n u) := ht_run_ge B n _
  have hb := ht_g_bd (b := 10) (z := 48) (by omega) (l := ht_M B n u) (fun c hc => by
    unfold ht_M at hc
    rw [ht_end_di h1 h2 h3] at hc
    obtain ⟨i, i1, i2, rfl⟩ := ht_rv_mem hc
    have := ht_di_iff.mp (ht_run_all (B := B) (n := n) (P := ht_di) i1 (by omega))
    omega)
  have hl : (ht_M B n u).length ≤ 4 := by
    unfold ht_M
    rw [ht_rv_len, ht_end_di h1 h2 h3]
    exact h4
  have hp := hpowk (b := 10) (by omega) hl
  unfold ht_W
  omega
theorem h64i {x : Int64} (h0 : 0 ≤ x.toInt) (h1 : x.toInt < 2147483648) : x.toInt32.toInt = x.toInt := by
  rw [Int64.toInt_toInt32]
  exact Int.bmod_eq_of_le (by omega) (by omega)
theorem hcT.of {J : Nat} (hd : ∀ u, u < J → hcD B n A u) (hs : (A.1 21 3).toInt = (J : Int)) (hc : ∀ u, u ≤ 400 → hq_pre (ht_K B n) u → u < J) (hU : hcU A) : hcT (ht_K B n) (ht_W B n) (fun u => (ht_S B n u : Int)) A ∧ hcE (ht_K B n) (ht_E B n) A := by
  constructor
  · intro u h1 h2
    have hu := hc u h1 h2
    obtain ⟨d1, d2, d3, d4⟩ := hd u hu
    refine ⟨d1, d2, by omega, fun q => ?_⟩
    have := ht_K21 q
    rw [h64i (by rw [d4 q]; omega) (by rw [d4 q]; omega)]
    exact d4 q
  · refine ⟨?_, hU⟩
    intro u t h1 h2 h3 h4 h5 h6
    obtain ⟨-, -, du, -⟩ := hd u (hc u h1 h3)
    obtain ⟨-, -, dt, -⟩ := hd t (hc t h2 h4)
    unfold ht_E
    rw [decide_eq_true_iff]
    constructor
    · intro q
      refine ht_g_inj (b := 32) (z := 96) (by omega) (fun c hc => by have := ht_K20 h5 c hc; omega) (fun c hc => by have := ht_K20 h6 c hc; omega) ?_
      rw [← du h5, ← dt h6, q]
    · intro q
      apply Int64.toInt_inj.mp
      rw [du h5, dt h6, q]
end HCU
theorem hW60 {g d f : Nat} {A : hs_A} {B : Nat → Int} {n p j : Nat} (a1 a2 : Int32) (hA : hcTp B n A) (h1 : a1.toInt = (p : Int)) (h2 : a2.toInt = (n : Int)) (hp : p ≤ n) (hn : n ≤ 2000) (hBr : ∀ i, i < n → B i ≤ 127) (hj : (A.1 21 3).toInt = (j : Int)) {P : Option Value → hs_A → Prop} (hP : ∀ (r : Option Value) (A' : hs_A), (∃ z : Int32, r = some (.int z) ∧ z.toInt = (ht_end B n p : Int) ∧ hcG B n A A' p j) → P r A') : hpa (f, g) d (some (.int)) hm_t60 0 [.ref 22, .ref 2, .int a1, .int a2, .retAddr 0] [] A P := by
  have k1 := hk_1
  have k122 := hk_122
  have k22 := hk_22
  have k23 := hk_23
  have k24 := hk_24
  have k4294967295 := hk_4294967295
  have k48 := hk_48
  have k57 := hk_57
  have k97 := hk_97
  have hij : (A.1 21 3).toNatClampNeg = j := by have := hn_cn (j := A.1 21 3) (by omega); omega
  refine hpa_aload_n (by rfl) rfl ?_
  refine hpa_get (v := .ref 24) (by rfl) (by rfl) (by rfl) rfl ?_
  refine hpa_aload_n (by rfl) rfl ?_
  refine hpj_getK (by rfl) (by rfl) (by rfl) rfl ?_
  refine hpa_lconst (by rfl) rfl ?_
  refine hpx_last (by rfl) (by rfl) (fun A1 h0A1 h1A1 eA1 fA1 gA1 iA1 => ?_)
  rw [hij] at gA1
  have hj1 : (A1.1 21 3).toInt = (j : Int) := by rw [eA1]; exact hj
  have hv01 : A1.2.2.1 23 j = 0 := by rw [gA1, hupL1]; decide
  have hA1 : hcTp B n A1 := fun i hi => by rw [fA1]; exact hA i hi
  refine hpa_iload_n (by rfl) rfl ?_
  refine hpa_iload_n (by rfl) rfl ?_
  refine hpj_clt (by rfl) rfl rfl (fun q2 => ?_) (fun q2 => ?_)
  ·
    refine hpa_aload_n (by rfl) rfl ?_
    refine hpa_iload_n (by rfl) rfl ?_
    refine hpx_bald (by rfl) (by rfl) (fun h0v3 h1v3 v3 ev3 => ?_)
    rw [fA1] at ev3
    have tv3 : v3.toInt = B p := by rw [← ev3]; exact (hA (a1.toInt).toNat (by omega)).trans (by rw [show a1.toInt.toNat = p by omega])
    have hb127 := hBr p (by omega)
    refine hpa_bipush (by rfl) rfl ?_
    refine hpj_clt (by rfl) rfl hk_97 (fun q4 => ?_) (fun q4 => ?_)
    ·
      refine hpa_aload_n (by rfl) rfl ?_
      refine hpa_iload_n (by rfl) rfl ?_
      refine hpx_bald (by rfl) (by rfl) (fun h0v5 h1v5 v5 ev5 => ?_)
      rw [fA1] at ev5
      have tv5 : v5.toInt = B p := by rw [← ev5]; exact (hA (a1.toInt).toNat (by omega)).trans (by rw [show a1.toInt.toNat = p by omega])
      refine hpa_bipush (by rfl) rfl ?_
      refine hpj_clt (by rfl) rfl hk_48 (fun q6 => ?_) (fun q6 => ?_)
      ·
        refine hpa_aload_n (by rfl) rfl ?_
        refine hpa_iload_n (by rfl) rfl ?_
        refine hpx_bald (by rfl) (by rfl) (fun h0v7 h1v7 v7 ev7 => ?_)
        rw [fA1] at ev7
        have tv7 : v7.toInt = B p := by rw [← ev7]; exact (hA (a1.toInt).toNat (by omega)).trans (by rw [show a1.toInt.toNat = p by omega])
        refine hpj_zge (by rfl) rfl (fun q8 => ?_) (fun q8 => ?_)
        ·
          refine hpa_ldcS (k := 0) (by rfl) rfl ?_
          refine hpa_aload_n (by rfl) rfl ?_
          refine hpa_iload_n (by rfl) rfl ?_
          refine hpx_bald (by rfl) (by rfl) (fun h0v9 h1v9 v9 ev9 => ?_)
          rw [fA1] at ev9
          have tv9 : v9.toInt = B p := by rw [← ev9]; exact (hA (a1.toInt).toNat (by omega)).trans (by rw [show a1.toInt.toNat = p by omega])
          refine hpa_i2c (by rfl) ?_
          rw [hi2c (x := v9) (by omega) (by omega)]
          refine hpa_strIdx (k := 0) (by rfl) (by rfl) ?_
          have hsx := hsg_ix (x := v9) (by omega) (by omega)
          obtain ⟨zz, hzz⟩ : ∃ zz, zz = hc_ixf v9 (hc_txt 0) 0 := ⟨_, rfl⟩
          rw [← hzz] at hsx ⊢
          rcases hsx with ⟨s1, s2⟩ | ⟨s1, s3, s2⟩
          ·
            refine hpa_s1 (by rfl) (Or.inr ⟨_, rfl, rfl⟩) rfl ?_
            refine hpa_aload_n (by rfl) rfl ?_
            refine hpa_get (v := .ref 23) (by rfl) (by rfl) (by rfl) rfl ?_
            refine hpa_aload_n (by rfl) rfl ?_
            refine hpj_getK (by rfl) (by rfl) (by rfl) (hkA eA1 rfl) ?_
            refine hpa_iload (by rfl) rfl ?_
            refine hpa_iconst (by rfl) rfl ?_
            refine hpj_cne (by rfl) rfl hk_4294967295 (fun q10 => False.elim (by omega)) (fun q10 => ?_)
            refine hpa_bipush (by rfl) rfl ?_
            refine hpa_goto (by rfl) ?_
            refine hpx_iast (by rfl) (by rfl) (fun A11 h0A11 h1A11 eA11 fA11 gA11 => ?_)
            refine hpa_iload_n (by rfl) rfl ?_
            refine hpa_iconst (by rfl) rfl ?_
            refine hpj_iadd (by rfl) rfl hk_1 (by omega) (by omega) (fun z12 ez12 => ?_)
            have hkd : ht_kind B n p = ht_sg v9.toInt := by rw [ht_kind_sg (by omega) (ht_not_le (by omega)) (ht_not_di (by omega)), ← tv9]
            have hsr := ht_sg_rng (B p)
            rw [← tv9] at hsr
            exact hpa_ireturn (by rfl) rfl (hP _ _ ⟨_, rfl, by rw [ht_end_sg (by omega) (ht_not_le (by omega)) (ht_not_di (by omega))]; omega, (Int32.ofNat 23), Int64.ofNat 0, by rw [eA11, eA1], by rw [fA11, fA1, hij], by rw [gA11, gA1], by rw [gA11, iA1], by rw [hkd, s2]; exact hk_23, fun q => absurd q (by omega), fun q => absurd q (by omega)⟩)
          ·
            refine hpa_s1 (by rfl) (Or.inr ⟨_, rfl, rfl⟩) rfl ?_
            refine hpa_aload_n (by rfl) rfl ?_
            refine hpa_get (v := .ref 23) (by rfl) (by rfl) (by rfl) rfl ?_
            refine hpa_aload_n (by rfl) rfl ?_
            refine hpj_getK (by rfl) (by rfl) (by rfl) (hkA eA1 rfl) ?_
            refine hpa_iload (by rfl) rfl ?_
            refine hpa_iconst (by rfl) rfl ?_
            refine hpj_cne (by rfl) rfl hk_4294967295 (fun q13 => ?_) (fun q13 => False.elim (by omega))
            refine hpa_bipush (by rfl) rfl ?_
            refine hpa_iload (by rfl) rfl ?_
            refine hpj_iadd (by rfl) hk_24 rfl (by omega) (by omega) (fun z14 ez14 => ?_)
            refine hpx_iast (by rfl) (by rfl) (fun A15 h0A15 h1A15 eA15 fA15 gA15 => ?_)
            refine hpa_iload_n (by rfl) rfl ?_
            refine hpa_iconst (by rfl) rfl ?_
            refine hpj_iadd (by rfl) rfl hk_1 (by omega) (by omega) (fun z16 ez16 => ?_)
            have hkd : ht_kind B n p = ht_sg v9.toInt := by rw [ht_kind_sg (by omega) (ht_not_le (by omega)) (ht_not_di (by omega)), ← tv9]
            have hsr := ht_sg_rng (B p)
            rw [← tv9] at hsr
            exact hpa_ireturn (by rfl) rfl (hP _ _ ⟨_, rfl, by rw [ht_end_sg (by omega) (ht_not_le (by omega)) (ht_not_di (by omega))]; omega, z14, Int64.ofNat 0, by rw [eA15, eA1], by rw [fA15, fA1, hij], by rw [gA15, gA1], by rw [gA15, iA1], by rw [hkd, s2]; omega, fun q => absurd q (by omega), fun q => absurd q (by omega)⟩)
        ·
          refine hpa_iconst (by rfl) rfl ?_
          refine hpa_goto (by rfl) ?_
          refine hpa_s1 (by rfl) (Or.inr ⟨_, rfl, rfl⟩) rfl ?_
          refine hpa_aload_n (by rfl) rfl ?_
          refine hpa_get (v := .ref 23) (by rfl) (by rfl) (by rfl) rfl ?_
          refine hpa_aload_n (by rfl) rfl ?_
          refine hpj_getK (by rfl) (by rfl) (by rfl) (hkA eA1 rfl) ?_
          refine hpa_iload (by rfl) rfl ?_
          refine hpa_iconst (by rfl) rfl ?_
          refine hpj_cne (by rfl) hk_4294967295 hk_4294967295 (fun q17 => False.elim (by omega)) (fun q17 => ?_)
          refine hpa_bipush (by rfl) rfl ?_
          refine hpa_goto (by rfl) ?_
          refine hpx_iast (by rfl) (by rfl) (fun A18 h0A18 h1A18 eA18 fA18 gA18 => ?_)
          refine hpa_iload_n (by rfl) rfl ?_
          refine hpa_iconst (by rfl) rfl ?_
          refine hpj_iadd (by rfl) rfl hk_1 (by omega) (by omega) (fun z19 ez19 => ?_)
          have hkd : ht_kind B n p = 23 := by rw [ht_kind_sg (by omega) (ht_not_le (by omega)) (ht_not_di (by omega)), hsg_neg (by omega)]
          have hsr := ht_sg_rng (B p)
          exact hpa_ireturn (by rfl) rfl (hP _ _ ⟨_, rfl, by rw [ht_end_sg (by omega) (ht_not_le (by omega)) (ht_not_di (by omega))]; omega, (Int32.ofNat 23), Int64.ofNat 0, by rw [eA18, eA1], by rw [fA18, fA1, hij], by rw [gA18, gA1], by rw [gA18, iA1], by rw [hkd]; exact hk_23, fun q => absurd q (by omega), fun q => absurd q (by omega)⟩)
      ·
        refine hpa_aload_n (by rfl) rfl ?_
        refine hpa_iload_n (by rfl) rfl ?_
        refine hpx_bald (by rfl) (by rfl) (fun h0v20 h1v20 v20 ev20 => ?_)
        rw [fA1] at ev20
        have tv20 : v20.toInt = B p := by rw [← ev20]; exact (hA (a1.toInt).toNat (by omega)).trans (by rw [show a1.toInt.toNat = p by omega])
        refine hpa_bipush (by rfl) rfl ?_
        refine hpj_cgt (by rfl) rfl hk_57 (fun q21 => ?_) (fun q21 => ?_)
        ·
          refine hpa_aload_n (by rfl) rfl ?_
          refine hpa_iload_n (by rfl) rfl ?_
          refine hpx_bald (by rfl) (by rfl) (fun h0v22 h1v22 v22 ev22 => ?_)
          rw [fA1] at ev22
          have tv22 : v22.toInt = B p := by rw [← ev22]; exact (hA (a1.toInt).toNat (by omega)).trans (by rw [show a1.toInt.toNat = p by omega])
          refine hpj_zge (by rfl) rfl (fun q23 => ?_) (fun q23 => ?_)
          ·
            refine hpa_ldcS (k := 0) (by rfl) rfl ?_
            refine hpa_aload_n (by rfl) rfl ?_
            refine hpa_iload_n (by rfl) rfl ?_
            refine hpx_bald (by rfl) (by rfl) (fun h0v24 h1v24 v24 ev24 => ?_)
            rw [fA1] at ev24
            have tv24 : v24.toInt = B p := by rw [← ev24]; exact (hA (a1.toInt).toNat (by omega)).trans (by rw [show a1.toInt.toNat = p by omega])
            refine hpa_i2c (by rfl) ?_
            rw [hi2c (x := v24) (by omega) (by omega)]
            refine hpa_strIdx (k := 0) (by rfl) (by rfl) ?_
            have hsx := hsg_ix (x := v24) (by omega) (by omega)
            obtain ⟨zz, hzz⟩ : ∃ zz, zz = hc_ixf v24 (hc_txt 0) 0 := ⟨_, rfl⟩
            rw [← hzz] at hsx ⊢
            rcases hsx with ⟨s1, s2⟩ | ⟨s1, s3, s2⟩
            ·
              refine hpa_s1 (by rfl) (Or.inr ⟨_, rfl, rfl⟩) rfl ?_
              refine hpa_aload_n (by rfl) rfl ?_
              refine hpa_get (v := .ref 23) (by rfl) (by rfl) (by rfl) rfl ?_
              refine hpa_aload_n (by rfl) rfl ?_
              refine hpj_getK (by rfl) (by rfl) (by rfl) (hkA eA1 rfl) ?_
              refine hpa_iload (by rfl) rfl ?_
              refine hpa_iconst (by rfl) rfl ?_
              refine hpj_cne (by rfl) rfl hk_4294967295 (fun q25 => False.elim (by omega)) (fun q25 => ?_)
              refine hpa_bipush (by rfl) rfl ?_
              refine hpa_goto (by rfl) ?_
              refine hpx_iast (by rfl) (by rfl) (fun A26 h0A26 h1A26 eA26 fA26 gA26 => ?_)
              refine hpa_iload_n (by rfl) rfl ?_
              refine hpa_iconst (by rfl) rfl ?_
              refine hpj_iadd (by rfl) rfl hk_1 (by omega) (by omega) (fun z27 ez27 => ?_)
              have hkd : ht_kind B n p = ht_sg v24.toInt := by rw [ht_kind_sg (by omega) (ht_not_le (by omega)) (ht_not_di (by omega)), ← tv24]
              have hsr := ht_sg_rng (B p)
              rw [← tv24] at hsr
              exact hpa_ireturn (by rfl) rfl (hP _ _ ⟨_, rfl, by rw [ht_end_sg (by omega) (ht_not_le (by omega)) (ht_not_di (by omega))]; omega, (Int32.ofNat 23), Int64.ofNat 0, by rw [eA26, eA1], by rw [fA26, fA1, hij], by rw [gA26, gA1], by rw [gA26, iA1], by rw [hkd, s2]; exact hk_23, fun q => absurd q (by omega), fun q => absurd q (by omega)⟩)
            ·
              refine hpa_s1 (by rfl) (Or.inr ⟨_, rfl, rfl⟩) rfl ?_
              refine hpa_aload_n (by rfl) rfl ?_
              refine hpa_get (v := .ref 23) (by rfl) (by rfl) (by rfl) rfl ?_
              refine hpa_aload_n (by rfl) rfl ?_
              refine hpj_getK (by rfl) (by rfl) (by rfl) (hkA eA1 rfl) ?_
              refine hpa_iload (by rfl) rfl ?_
              refine hpa_iconst (by rfl) rfl ?_
              refine hpj_cne (by rfl) rfl hk_4294967295 (fun q28 => ?_) (fun q28 => False.elim (by omega))
              refine hpa_bipush (by rfl) rfl ?_
              refine hpa_iload (by rfl) rfl ?_
              refine hpj_iadd (by rfl) hk_24 rfl (by omega) (by omega) (fun z29 ez29 => ?_)
              refine hpx_iast (by rfl) (by rfl) (fun A30 h0A30 h1A30 eA30 fA30 gA30 => ?_)
              refine hpa_iload_n (by rfl) rfl ?_
              refine hpa_iconst (by rfl) rfl ?_
              refine hpj_iadd (by rfl) rfl hk_1 (by omega) (by omega) (fun z31 ez31 => ?_)
              have hkd : ht_kind B n p = ht_sg v24.toInt := by rw [ht_kind_sg (by omega) (ht_not_le (by omega)) (ht_not_di (by omega)), ← tv24]
              have hsr := ht_sg_rng (B p)
              rw [← tv24] at hsr
              exact hpa_ireturn (by rfl) rfl (hP _ _ ⟨_, rfl, by rw [ht_end_sg (by omega) (ht_not_le (by omega)) (ht_not_di (by omega))]; omega, z29, Int64.ofNat 0, by rw [eA30, eA1], by rw [fA30, fA1, hij], by rw [gA30, gA1], by rw [gA30, iA1], by rw [hkd, s2]; omega, fun q => absurd q (by omega), fun q => absurd q (by omega)⟩)
          ·
            refine hpa_iconst (by rfl) rfl ?_
            refine hpa_goto (by rfl) ?_
            refine hpa_s1 (by rfl) (Or.inr ⟨_, rfl, rfl⟩) rfl ?_
            refine hpa_aload_n (by rfl) rfl ?_
            refine hpa_get (v := .ref 23) (by rfl) (by rfl) (by rfl) rfl ?_
            refine hpa_aload_n (by rfl) rfl ?_
            refine hpj_getK (by rfl) (by rfl) (by rfl) (hkA eA1 rfl) ?_
            refine hpa_iload (by rfl) rfl ?_
            refine hpa_iconst (by rfl) rfl ?_
            refine hpj_cne (by rfl) hk_4294967295 hk_4294967295 (fun q32 => False.elim (by omega)) (fun q32 => ?_)
            refine hpa_bipush (by rfl) rfl ?_
            refine hpa_goto (by rfl) ?_
            refine hpx_iast (by rfl) (by rfl) (fun A33 h0A33 h1A33 eA33 fA33 gA33 => ?_)
            refine hpa_iload_n (by rfl) rfl ?_
            refine hpa_iconst (by rfl) rfl ?_
            refine hpj_iadd (by rfl) rfl hk_1 (by omega) (by omega) (fun z34 ez34 => ?_)
            have hkd : ht_kind B n p = 23 := by rw [ht_kind_sg (by omega) (ht_not_le (by omega)) (ht_not_di (by omega)), hsg_neg (by omega)]
            have hsr := ht_sg_rng (B p)
            exact hpa_ireturn (by rfl) rfl (hP _ _ ⟨_, rfl, by rw [ht_end_sg (by omega) (ht_not_le (by omega)) (ht_not_di (by omega))]; omega, (Int32.ofNat 23), Int64.ofNat 0, by rw [eA33, eA1], by rw [fA33, fA1, hij], by rw [gA33, gA1], by rw [gA33, iA1], by rw [hkd]; exact hk_23, fun q => absurd q (by omega), fun q => absurd q (by omega)⟩)
        ·
          refine hpa_aload_n (by rfl) rfl ?_
          refine hpa_aload_n (by rfl) rfl ?_
          refine hpa_iload_n (by rfl) rfl ?_
          refine hpa_iload_n (by rfl) rfl ?_
          refine hpa_call0 (by rfl) (by rfl) (by rfl) (by rfl) (by rfl) (by rfl) (hP63 a1 a2 hA1 h1 h2 (by omega) hn (ht_not_le (by omega)) (ht_di_iff.mpr ⟨by omega, by omega⟩) hj1 hv01) ?_
          rintro _ A35 ⟨z36, rfl, fz_A35, G_A35⟩
          exact hpa_ireturn (by rfl) rfl (hP _ _ ⟨_, rfl, fz_A35, G_A35.pre eA1 fA1 gA1 iA1⟩)
    ·
      refine hpa_aload_n (by rfl) rfl ?_
      refine hpa_iload_n (by rfl) rfl ?_
      refine hpx_bald (by rfl) (by rfl) (fun h0v37 h1v37 v37 ev37 => ?_)
      rw [fA1] at ev37
      have tv37 : v37.toInt = B p := by rw [← ev37]; exact (hA (a1.toInt).toNat (by omega)).trans (by rw [show a1.toInt.toNat = p by omega])
      refine hpa_bipush (by rfl) rfl ?_
      refine hpj_cgt (by rfl) rfl hk_122 (fun q38 => ?_) (fun q38 => ?_)
      ·
        refine hpa_aload_n (by rfl) rfl ?_
        refine hpa_iload_n (by rfl) rfl ?_
        refine hpx_bald (by rfl) (by rfl) (fun h0v39 h1v39 v39 ev39 => ?_)
        rw [fA1] at ev39
        have tv39 : v39.toInt = B p := by rw [← ev39]; exact (hA (a1.toInt).toNat (by omega)).trans (by rw [show a1.toInt.toNat = p by omega])
        refine hpa_bipush (by rfl) rfl ?_
        refine hpj_clt (by rfl) rfl hk_48 (fun q40 => ?_) (fun q40 => ?_)
        ·
          refine hpa_aload_n (by rfl) rfl ?_
          refine hpa_iload_n (by rfl) rfl ?_
          refine hpx_bald (by rfl) (by rfl) (fun h0v41 h1v41 v41 ev41 => ?_)
          rw [fA1] at ev41
          have tv41 : v41.toInt = B p := by rw [← ev41]; exact (hA (a1.toInt).toNat (by omega)).trans (by rw [show a1.toInt.toNat = p by omega])
          refine hpj_zge (by rfl) rfl (fun q42 => ?_) (fun q42 => ?_)
          ·
            refine hpa_ldcS (k := 0) (by rfl) rfl ?_
            refine hpa_aload_n (by rfl) rfl ?_
            refine hpa_iload_n (by rfl) rfl ?_
            refine hpx_bald (by rfl) (by rfl) (fun h0v43 h1v43 v43 ev43 => ?_)
            rw [fA1] at ev43
            have tv43 : v43.toInt = B p := by rw [← ev43]; exact (hA (a1.toInt).toNat (by omega)).trans (by rw [show a1.toInt.toNat = p by omega])
            refine hpa_i2c (by rfl) ?_
            rw [hi2c (x := v43) (by omega) (by omega)]
            refine hpa_strIdx (k := 0) (by rfl) (by rfl) ?_
            have hsx := hsg_ix (x := v43) (by omega) (by omega)
            obtain ⟨zz, hzz⟩ : ∃ zz, zz = hc_ixf v43 (hc_txt 0) 0 := ⟨_, rfl⟩
            rw [← hzz] at hsx ⊢
            rcases hsx with ⟨s1, s2⟩ | ⟨s1, s3, s2⟩
            ·
              refine hpa_s1 (by rfl) (Or.inr ⟨_, rfl, rfl⟩) rfl ?_
              refine hpa_aload_n (by rfl) rfl ?_
              refine hpa_get (v := .ref 23) (by rfl) (by rfl) (by rfl) rfl ?_
              refine hpa_aload_n (by rfl) rfl ?_
              refine hpj_getK (by rfl) (by rfl) (by rfl) (hkA eA1 rfl) ?_
              refine hpa_iload (by rfl) rfl ?_
              refine hpa_iconst (by rfl) rfl ?_
              refine hpj_cne (by rfl) rfl hk_4294967295 (fun q44 => False.elim (by omega)) (fun q44 => ?_)
              refine hpa_bipush (by rfl) rfl ?_
              refine hpa_goto (by rfl) ?_
              refine hpx_iast (by rfl) (by rfl) (fun A45 h0A45 h1A45 eA45 fA45 gA45 => ?_)
              refine hpa_iload_n (by rfl) rfl ?_
              refine hpa_iconst (by rfl) rfl ?_
              refine hpj_iadd (by rfl) rfl hk_1 (by omega) (by omega) (fun z46 ez46 => ?_)
              have hkd : ht_kind B n p = ht_sg v43.toInt := by rw [ht_kind_sg (by omega) (ht_not_le (by omega)) (ht_not_di (by omega)), ← tv43]
              have hsr := ht_sg_rng (B p)
              rw [← tv43] at hsr
              exact hpa_ireturn (by rfl) rfl (hP _ _ ⟨_, rfl, by rw [ht_end_sg (by omega) (ht_not_le (by omega)) (ht_not_di (by omega))]; omega, (Int32.ofNat 23), Int64.ofNat 0, by rw [eA45, eA1], by rw [fA45, fA1, hij], by rw [gA45, gA1], by rw [gA45, iA1], by rw [hkd, s2]; exact hk_23, fun q => absurd q (by omega), fun q => absurd q (by omega)⟩)
            ·
              refine hpa_s1 (by rfl) (Or.inr ⟨_, rfl, rfl⟩) rfl ?_
              refine hpa_aload_n (by rfl) rfl ?_
              refine hpa_get (v := .ref 23) (by rfl) (by rfl) (by rfl) rfl ?_
              refine hpa_aload_n (by rfl) rfl ?_
              refine hpj_getK (by rfl) (by rfl) (by rfl) (hkA eA1 rfl) ?_
              refine hpa_iload (by rfl) rfl ?_
              refine hpa_iconst (by rfl) rfl ?_
              refine hpj_cne (by rfl) rfl hk_4294967295 (fun q47 => ?_) (fun q47 => False.elim (by omega))
              refine hpa_bipush (by rfl) rfl ?_
              refine hpa_iload (by rfl) rfl ?_
              refine hpj_iadd (by rfl) hk_24 rfl (by omega) (by omega) (fun z48 ez48 => ?_)
              refine hpx_iast (by rfl) (by rfl) (fun A49 h0A49 h1A49 eA49 fA49 gA49 => ?_)
              refine hpa_iload_n (by rfl) rfl ?_
              refine hpa_iconst (by rfl) rfl ?_
              refine hpj_iadd (by rfl) rfl hk_1 (by omega) (by omega) (fun z50 ez50 => ?_)
              have hkd : ht_kind B n p = ht_sg v43.toInt := by rw [ht_kind_sg (by omega) (ht_not_le (by omega)) (ht_not_di (by omega)), ← tv43]
              have hsr := ht_sg_rng (B p)
              rw [← tv43] at hsr
              exact hpa_ireturn (by rfl) rfl (hP _ _ ⟨_, rfl, by rw [ht_end_sg (by omega) (ht_not_le (by omega)) (ht_not_di (by omega))]; omega, z48, Int64.ofNat 0, by rw [eA49, eA1], by rw [fA49, fA1, hij], by rw [gA49, gA1], by rw [gA49, iA1], by rw [hkd, s2]; omega, fun q => absurd q (by omega), fun q => absurd q (by omega)⟩)
          ·
            refine hpa_iconst (by rfl) rfl ?_
            refine hpa_goto (by rfl) ?_
            refine hpa_s1 (by rfl) (Or.inr ⟨_, rfl, rfl⟩) rfl ?_
            refine hpa_aload_n (by rfl) rfl ?_
            refine hpa_get (v := .ref 23) (by rfl) (by rfl) (by rfl) rfl ?_
            refine hpa_aload_n (by rfl) rfl ?_
            refine hpj_getK (by rfl) (by rfl) (by rfl) (hkA eA1 rfl) ?_
            refine hpa_iload (by rfl) rfl ?_
            refine hpa_iconst (by rfl) rfl ?_
            refine hpj_cne (by rfl) hk_4294967295 hk_4294967295 (fun q51 => False.elim (by omega)) (fun q51 => ?_)
            refine hpa_bipush (by rfl) rfl ?_
            refine hpa_goto (by rfl) ?_
            refine hpx_iast (by rfl) (by rfl) (fun A52 h0A52 h1A52 eA52 fA52 gA52 => ?_)
            refine hpa_iload_n (by rfl) rfl ?_
            refine hpa_iconst (by rfl) rfl ?_
            refine hpj_iadd (by rfl) rfl hk_1 (by omega) (by omega) (fun z53 ez53 => ?_)
            have hkd : ht_kind B n p = 23 := by rw [ht_kind_sg (by omega) (ht_not_le (by omega)) (ht_not_di (by omega)), hsg_neg (by omega)]
            have hsr := ht_sg_rng (B p)
            exact hpa_ireturn (by rfl) rfl (hP _ _ ⟨_, rfl, by rw [ht_end_sg (by omega) (ht_not_le (by omega)) (ht_not_di (by omega))]; omega, (Int32.ofNat 23), Int64.ofNat 0, by rw [eA52, eA1], by rw [fA52, fA1, hij], by rw [gA52, gA1], by rw [gA52, iA1], by rw [hkd]; exact hk_23, fun q => absurd q (by omega), fun q => absurd q (by omega)⟩)
        ·
          refine hpa_aload_n (by rfl) rfl ?_
          refine hpa_iload_n (by rfl) rfl ?_
          refine hpx_bald (by rfl) (by rfl) (fun h0v54 h1v54 v54 ev54 => ?_)
          rw [fA1] at ev54
          have tv54 : v54.toInt = B p := by rw [← ev54]; exact (hA (a1.toInt).toNat (by omega)).trans (by rw [show a1.toInt.toNat = p by omega])
          refine hpa_bipush (by rfl) rfl ?_
          refine hpj_cgt (by rfl) rfl hk_57 (fun q55 => ?_) (fun q55 => ?_)
          ·
            refine hpa_aload_n (by rfl) rfl ?_
            refine hpa_iload_n (by rfl) rfl ?_
            refine hpx_bald (by rfl) (by rfl) (fun h0v56 h1v56 v56 ev56 => ?_)
            rw [fA1] at ev56
            have tv56 : v56.toInt = B p := by rw [← ev56]; exact (hA (a1.toInt).toNat (by omega)).trans (by rw [show a1.toInt.toNat = p by omega])
            refine hpj_zge (by rfl) rfl (fun q57 => ?_) (fun q57 => ?_)
            ·
              refine hpa_ldcS (k := 0) (by rfl) rfl ?_
              refine hpa_aload_n (by rfl) rfl ?_
              refine hpa_iload_n (by rfl) rfl ?_
              refine hpx_bald (by rfl) (by rfl) (fun h0v58 h1v58 v58 ev58 => ?_)
              rw [fA1] at ev58
              have tv58 : v58.toInt = B p := by rw [← ev58]; exact (hA (a1.toInt).toNat (by omega)).trans (by rw [show a1.toInt.toNat = p by omega])
              refine hpa_i2c (by rfl) ?_
              rw [hi2c (x := v58) (by omega) (by omega)]
              refine hpa_strIdx (k := 0) (by rfl) (by rfl) ?_
              have hsx := hsg_ix (x := v58) (by omega) (by omega)
              obtain ⟨zz, hzz⟩ : ∃ zz, zz = hc_ixf v58 (hc_txt 0) 0 := ⟨_, rfl⟩
              rw [← hzz] at hsx ⊢
              rcases hsx with ⟨s1, s2⟩ | ⟨s1, s3, s2⟩
              ·
                refine hpa_s1 (by rfl) (Or.inr ⟨_, rfl, rfl⟩) rfl ?_
                refine hpa_aload_n (by rfl) rfl ?_
                refine hpa_get (v := .ref 23) (by rfl) (by rfl) (by rfl) rfl ?_
                refine hpa_aload_n (by rfl) rfl ?_
                refine hpj_getK (by rfl) (by rfl) (by rfl) (hkA eA1 rfl) ?_
                refine hpa_iload (by rfl) rfl ?_
                refine hpa_iconst (by rfl) rfl ?_
                refine hpj_cne (by rfl) rfl hk_4294967295 (fun q59 => False.elim (by omega)) (fun q59 => ?_)
                refine hpa_bipush (by rfl) rfl ?_
                refine hpa_goto (by rfl) ?_
                refine hpx_iast (by rfl) (by rfl) (fun A60 h0A60 h1A60 eA60 fA60 gA60 => ?_)
                refine hpa_iload_n (by rfl) rfl ?_
                refine hpa_iconst (by rfl) rfl ?_
                refine hpj_iadd (by rfl) rfl hk_1 (by omega) (by omega) (fun z61 ez61 => ?_)
                have hkd : ht_kind B n p = ht_sg v58.toInt := by rw [ht_kind_sg (by omega) (ht_not_le (by omega)) (ht_not_di (by omega)), ← tv58]
                have hsr := ht_sg_rng (B p)
                rw [← tv58] at hsr
                exact hpa_ireturn (by rfl) rfl (hP _ _ ⟨_, rfl, by rw [ht_end_sg (by omega) (ht_not_le (by omega)) (ht_not_di (by omega))]; omega, (Int32.ofNat 23), Int64.ofNat 0, by rw [eA60, eA1], by rw [fA60, fA1, hij], by rw [gA60, gA1], by rw [gA60, iA1], by rw [hkd, s2]; exact hk_23, fun q => absurd q (by omega), fun q => absurd q (by omega)⟩)
              ·
                refine hpa_s1 (by rfl) (Or.inr ⟨_, rfl, rfl⟩) rfl ?_
                refine hpa_aload_n (by rfl) rfl ?_
                refine hpa_get (v := .ref 23) (by rfl) (by rfl) (by rfl) rfl ?_
                refine hpa_aload_n (by rfl) rfl ?_
                refine hpj_getK (by rfl) (by rfl) (by rfl) (hkA eA1 rfl) ?_
                refine hpa_iload (by rfl) rfl ?_
                refine hpa_iconst (by rfl) rfl ?_
                refine hpj_cne (by rfl) rfl hk_4294967295 (fun q62 => ?_) (fun q62 => False.elim (by omega))
                refine hpa_bipush (by rfl) rfl ?_
                refine hpa_iload (by rfl) rfl ?_
                refine hpj_iadd (by rfl) hk_24 rfl (by omega) (by omega) (fun z63 ez63 => ?_)
                refine hpx_iast (by rfl) (by rfl) (fun A64 h0A64 h1A64 eA64 fA64 gA64 => ?_)
                refine hpa_iload_n (by rfl) rfl ?_
                refine hpa_iconst (by rfl) rfl ?_
                refine hpj_iadd (by rfl) rfl hk_1 (by omega) (by omega) (fun z65 ez65 => ?_)
                have hkd : ht_kind B n p = ht_sg v58.toInt := by rw [ht_kind_sg (by omega) (ht_not_le (by omega)) (ht_not_di (by omega)), ← tv58]
                have hsr := ht_sg_rng (B p)
                rw [← tv58] at hsr
                exact hpa_ireturn (by rfl) rfl (hP _ _ ⟨_, rfl, by rw [ht_end_sg (by omega) (ht_not_le (by omega)) (ht_not_di (by omega))]; omega, z63, Int64.ofNat 0, by rw [eA64, eA1], by rw [fA64, fA1, hij], by rw [gA64, gA1], by rw [gA64, iA1], by rw [hkd, s2]; omega, fun q => absurd q (by omega), fun q => absurd q (by omega)⟩)
            ·
              refine hpa_iconst (by rfl) rfl ?_
              refine hpa_goto (by rfl) ?_
              refine hpa_s1 (by rfl) (Or.inr ⟨_, rfl, rfl⟩) rfl ?_
              refine hpa_aload_n (by rfl) rfl ?_
              refine hpa_get (v := .ref 23) (by rfl) (by rfl) (by rfl) rfl ?_
              refine hpa_aload_n (by rfl) rfl ?_
              refine hpj_getK (by rfl) (by rfl) (by rfl) (hkA eA1 rfl) ?_
              refine hpa_iload (by rfl) rfl ?_
              refine hpa_iconst (by rfl) rfl ?_
              refine hpj_cne (by rfl) hk_4294967295 hk_4294967295 (fun q66 => False.elim (by omega)) (fun q66 => ?_)
              refine hpa_bipush (by rfl) rfl ?_
              refine hpa_goto (by rfl) ?_
              refine hpx_iast (by rfl) (by rfl) (fun A67 h0A67 h1A67 eA67 fA67 gA67 => ?_)
              refine hpa_iload_n (by rfl) rfl ?_
              refine hpa_iconst (by rfl) rfl ?_
              refine hpj_iadd (by rfl) rfl hk_1 (by omega) (by omega) (fun z68 ez68 => ?_)
              have hkd : ht_kind B n p = 23 := by rw [ht_kind_sg (by omega) (ht_not_le (by omega)) (ht_not_di (by omega)), hsg_neg (by omega)]
              have hsr := ht_sg_rng (B p)
              exact hpa_ireturn (by rfl) rfl (hP _ _ ⟨_, rfl, by rw [ht_end_sg (by omega) (ht_not_le (by omega)) (ht_not_di (by omega))]; omega, (Int32.ofNat 23), Int64.ofNat 0, by rw [eA67, eA1], by rw [fA67, fA1, hij], by rw [gA67, gA1], by rw [gA67, iA1], by rw [hkd]; exact hk_23, fun q => absurd q (by omega), fun q => absurd q (by omega)⟩)
          ·
            refine hpa_aload_n (by rfl) rfl ?_
            refine hpa_aload_n (by rfl) rfl ?_
            refine hpa_iload_n (by rfl) rfl ?_
            refine hpa_iload_n (by rfl) rfl ?_
            refine hpa_call0 (by rfl) (by rfl) (by rfl) (by rfl) (by rfl) (by rfl) (hP63 a1 a2 hA1 h1 h2 (by omega) hn (ht_not_le (by omega)) (ht_di_iff.mpr ⟨by omega, by omega⟩) hj1 hv01) ?_
            rintro _ A69 ⟨z70, rfl, fz_A69, G_A69⟩
            exact hpa_ireturn (by rfl) rfl (hP _ _ ⟨_, rfl, fz_A69, G_A69.pre eA1 fA1 gA1 iA1⟩)
      ·
        refine hpa_aload_n (by rfl) rfl ?_
        refine hpa_aload_n (by rfl) rfl ?_
        refine hpa_iload_n (by rfl) rfl ?_
        refine hpa_iload_n (by rfl) rfl ?_
        refine hpa_call0 (by rfl) (by rfl) (by rfl) (by rfl) (by rfl) (by rfl) (hP61 a1 a2 hA1 h1 h2 (by omega) hn (ht_le_iff.mpr ⟨by omega, by omega⟩) hj1 hv01) ?_
        rintro _ A71 ⟨z72, rfl, fz_A71, G_A71⟩
        exact hpa_ireturn (by rfl) rfl (hP _ _ ⟨_, rfl, fz_A71, G_A71.pre eA1 fA1 gA1 iA1⟩)
  ·
    refine hpa_aload_n (by rfl) rfl ?_
    refine hpa_get (v := .ref 23) (by rfl) (by rfl) (by rfl) rfl ?_
    refine hpa_aload_n (by rfl) rfl ?_
    refine hpj_getK (by rfl) (by rfl) (by rfl) (hkA eA1 rfl) ?_
    refine hpa_bipush (by rfl) rfl ?_
    refine hpx_iast (by rfl) (by rfl) (fun A73 h0A73 h1A73 eA73 fA73 gA73 => ?_)
    refine hpa_iload_n (by rfl) rfl ?_
    have hkd : ht_kind B n p = 22 := ht_kind_end (by omega)
    exact hpa_ireturn (by rfl) rfl (hP _ _ ⟨_, rfl, by rw [ht_end_end (by omega)]; omega, (Int32.ofNat 22), Int64.ofNat 0, by rw [eA73, eA1], by rw [fA73, fA1, hij], by rw [gA73, gA1], by rw [gA73, iA1], by rw [hkd]; exact hk_22, fun q => absurd q (by omega), fun q => absurd q (by omega)⟩)
theorem hP60 {g d : Nat} {A : hs_A} {B : Nat → Int} {n p j : Nat} (a1 a2 : Int32) (hA : hcTp B n A) (h1 : a1.toInt = (p : Int)) (h2 : a2.toInt = (n : Int)) (hp : p ≤ n) (hn : n ≤ 2000) (hBr : ∀ i, i < n → B i ≤ 127) (hj : (A.1 21 3).toInt = (j : Int)) : hpC g d 60 hm_m60 [.ref 22, .ref 2, .int a1, .int a2] A (fun r A' => ∃ z : Int32, r = some (.int z) ∧ z.toInt = (ht_end B n p : Int) ∧ hcG B n A A' p j) := hpC.all (fun f d => hW60 a1 a2 hA h1 h2 hp hn hBr hj (fun r A' h => h))
theorem hW58 {g d f : Nat} {A : hs_A} {B : Nat → Int} {n : Nat} (a1 : Int32) (hA : hcTp B n A) (h1 : a1.toInt = (n : Int)) (hn : n ≤ 2000) (hBr : ∀ i, i < n → B i ≤ 127) (hU : hcU A) {P : Option Value → hs_A → Prop} (hP : ∀ (r : Option Value) (A' : hs_A), (r = none ∧ (hcC A A' ∧ (hcT (ht_K B n) (ht_W B n) (fun u => (ht_S B n u : Int)) A' ∧ hcE (ht_K B n) (ht_E B n) A'))) → P r A') : hpa (f, g) d none hm_t58 0 [.ref 22, .ref 2, .int a1, .retAddr 0, .retAddr 0] [] A P := by
  have k0 := hk_0
  have k1 := hk_1
  have k22 := hk_22
  have k23 := hk_23
  have k400 := hk_400
  have L10 : ∀ (f : Nat) (x10_3 : Int32) (x10_4 : Int32) (A10 : hs_A) (j : Nat) (li : x10_4.toInt = (j : Int)) (sz : (A10.1 21 3).toInt = (j : Int)) (ps : x10_3.toInt = (ht_pos B n j : Int)) (fr : hcC A A10) (pre : hq_pre (ht_K B n) j) (j401 : j ≤ 401) (dn : ∀ u, u < j → hcD B n A10 u), hpa (f, g) d none hm_t58 10 [.ref 22, .ref 2, .int a1, .int x10_3, .int x10_4] [] A10 P := by
    intro f
    induction f with
    | zero => intros; exact hpa.zero
    | succ f ih10 =>
      intro x10_3 x10_4 A10 j li sz ps fr pre j401 dn
      have hps := ht_pre_S (B := B) (n := n) j pre
      have hpl := ht_pos_le B n j
      have hij : (A10.1 21 3).toNatClampNeg = j := by have := hn_cn (j := A10.1 21 3) (by omega); omega
      have hA10 : hcTp B n A10 := fun i hi => by rw [fr.2.1 1 (by omega) (by omega)]; exact hA i hi
      refine hpa_iloadS (by rfl) rfl ?_
      refine hpa_iload_n (by rfl) rfl ?_
      refine hpj_cgt (by rfl) rfl rfl (fun q1 => False.elim (by omega)) (fun q1 => ?_)
      refine hpa_aload_n (by rfl) rfl ?_
      refine hpj_getK (by rfl) (by rfl) (by rfl) rfl ?_
      refine hpa_sipush (by rfl) rfl ?_
      refine hpj_cgt (by rfl) rfl hk_400 (fun q2 => ?_) (fun q2 => ?_)
      ·
        exact hpa_return (by rfl) rfl (hP _ _ ⟨rfl, fr, hcT.of dn sz (fun u h1 _ => by omega) (hU.fr (fr.2.2.1 374 (by omega)))⟩)
      ·
        refine hpa_aload_n (by rfl) rfl ?_
        refine hpa_iload_n (by rfl) rfl ?_
        refine hpa_iload_n (by rfl) rfl ?_
        refine hpa_call2 (by rfl) (by decide) (by rfl) (by rfl) (by rfl) (hP59 x10_3 a1 hA10 ps h1 (ht_pos_le B n j)) ?_
        rintro _ _ ⟨rfl, z4, rfl, fz_A3⟩
        refine hpa_s1 (by rfl) (Or.inl ⟨_, rfl, rfl⟩) rfl ?_
        refine hpa_aload_n (by rfl) rfl ?_
        refine hpa_get (v := .ref 25) (by rfl) (by rfl) (by rfl) rfl ?_
        refine hpa_aload_n (by rfl) rfl ?_
        refine hpj_getK (by rfl) (by rfl) (by rfl) rfl ?_
        refine hpa_iload_n (by rfl) rfl ?_
        refine hpx_iast (by rfl) (by rfl) (fun A5 h0A5 h1A5 eA5 fA5 gA5 => ?_)
        rw [hij] at fA5
        have hj1 : (A5.1 21 3).toInt = (j : Int) := by rw [eA5]; exact sz
        have hA1 : hcTp B n A5 := fun i hi => by rw [fA5, hup2 (by omega), fr.2.1 1 (by omega) (by omega)]; exact hA i hi
        refine hpa_aload_n (by rfl) rfl ?_
        refine hpa_aload_n (by rfl) rfl ?_
        refine hpa_iload_n (by rfl) rfl ?_
        refine hpa_iload_n (by rfl) rfl ?_
        refine hpa_call0 (by rfl) (by rfl) (by rfl) (by rfl) (by rfl) (by rfl) (hP60 z4 a1 hA1 fz_A3 h1 (ht_S_le B n j) hn hBr hj1) ?_
        rintro _ A6 ⟨z7, rfl, fz_A6, G_A6⟩
        have hj2 : (A6.1 21 3).toInt = (j : Int) := by obtain ⟨k, v, q1, -⟩ := G_A6; rw [q1]; exact hj1
        refine hpa_s1 (by rfl) (Or.inl ⟨_, rfl, rfl⟩) rfl ?_
        refine hpa_aload_n (by rfl) rfl ?_
        refine hpa_dupR (by rfl) ?_
        refine hpj_getK (by rfl) (by rfl) (by rfl) rfl ?_
        refine hpa_iconst (by rfl) rfl ?_
        refine hpj_iadd (by rfl) rfl hk_1 (by omega) (by omega) (fun z8 ez8 => ?_)
        refine hpj_putI (by rfl) (by rfl) (by rfl) (by rfl) (fun A9 eA9 fA9 => ?_)
        have hs3 : (A9.1 21 3).toInt = ((j + 1 : Nat) : Int) := by rw [eA9, hup1]; omega
        have hC := fr.more eA5 fA5 gA5 G_A6 eA9 fA9
        have hD := hcD.more dn fA5 gA5 fz_A3 G_A6 fA9
        have hKj : (A9.2.1 22 j).toInt = ht_K B n j := G_A6.kind fA9
        refine hpa_aload_n (by rfl) rfl ?_
        refine hpa_get (v := .ref 23) (by rfl) (by rfl) (by rfl) rfl ?_
        refine hpa_aload_n (by rfl) rfl ?_
        refine hpj_getK (by rfl) (by rfl) (by rfl) (hkS eA9) ?_
        refine hpa_iconst (by rfl) rfl ?_
        refine hpj_isub (by rfl) rfl hk_1 (by omega) (by omega) (fun z10 ez10 => ?_)
        refine hpx_iald (by rfl) (by rfl) (fun h0v11 h1v11 v11 ev11 => ?_)
        rw [show z10.toNatClampNeg = j by have := hn_cn (j := z10) (by omega); omega] at ev11
        have tv11 : v11.toInt = ht_K B n j := by rw [← ev11]; exact hKj
        refine hpa_bipush (by rfl) rfl ?_
        refine hpj_ceq (by rfl) rfl hk_22 (fun q12 => ?_) (fun q12 => ?_)
        ·
          exact hpa_return (by rfl) rfl (hP _ _ ⟨rfl, hC, hcT.of hD hs3 (fun u h1 h2 => by by_cases q : u ≤ j; (exact Nat.lt_succ_of_le q); exact absurd (h2 j (by omega)) (fun w => by omega)) (hU.fr (hC.2.2.1 374 (by omega)))⟩)
        ·
          refine hpa_aload_n (by rfl) rfl ?_
          refine hpa_get (v := .ref 23) (by rfl) (by rfl) (by rfl) rfl ?_
          refine hpa_aload_n (by rfl) rfl ?_
          refine hpj_getK (by rfl) (by rfl) (by rfl) (hkS eA9) ?_
          refine hpa_iconst (by rfl) rfl ?_
          refine hpj_isub (by rfl) rfl hk_1 (by omega) (by omega) (fun z13 ez13 => ?_)
          refine hpx_iald (by rfl) (by rfl) (fun h0v14 h1v14 v14 ev14 => ?_)
          rw [show z13.toNatClampNeg = j by have := hn_cn (j := z13) (by omega); omega] at ev14
          have tv14 : v14.toInt = ht_K B n j := by rw [← ev14]; exact hKj
          refine hpa_bipush (by rfl) rfl ?_
          refine hpj_cne (by rfl) rfl hk_23 (fun q15 => ?_) (fun q15 => ?_)
          ·
            refine hpj_iinc (by rfl) rfl rfl hk_1 (by omega) (by omega) (fun _ => rfl) (fun z16 ez16 => ?_)
            refine hpa_goto (by rfl) ?_
            exact ih10 z7 z16 A9 (j + 1) (by omega) hs3 fz_A6 hC (fun i hi => by by_cases q : i = j; (subst q; exact ⟨by omega, by omega⟩); exact pre i (by omega)) (by omega) hD
          ·
            exact hpa_return (by rfl) rfl (hP _ _ ⟨rfl, hC, hcT.of hD hs3 (fun u h1 h2 => by by_cases q : u ≤ j; (exact Nat.lt_succ_of_le q); exact absurd (h2 j (by omega)) (fun w => by omega)) (hU.fr (hC.2.2.1 374 (by omega)))⟩)
  refine hpa_aload_n (by rfl) rfl ?_
  refine hpa_iconst (by rfl) rfl ?_
  refine hpj_putI (by rfl) (by rfl) (by rfl) (by rfl) (fun A17 eA17 fA17 => ?_)
  refine hpa_iconst (by rfl) rfl ?_
  refine hpa_s1 (by rfl) (Or.inl ⟨_, rfl, rfl⟩) rfl ?_
  refine hpa_iconst (by rfl) rfl ?_
  refine hpa_s1 (by rfl) (Or.inr ⟨_, rfl, rfl⟩) rfl ?_
  exact L10 _ (Int32.ofNat 0) (Int32.ofNat 0) A17 0 (by omega) (by rw [eA17, hup1]; exact hk_0) hk_0 ⟨fun i k hi => by rw [eA17, hup2 hi], fun i _ _ => by rw [fA17], fun c _ => by rw [fA17], by rw [fA17]⟩ (fun i hi => absurd hi (Nat.not_lt_zero i)) (by omega) (fun u hu => absurd hu (Nat.not_lt_zero u))
theorem hP58 {g d : Nat} {A : hs_A} {B : Nat → Int} {n : Nat} (a1 : Int32) (hA : hcTp B n A) (h1 : a1.toInt = (n : Int)) (hn : n ≤ 2000) (hBr : ∀ i, i < n → B i ≤ 127) (hU : hcU A) : hpC g d 58 hm_m58 [.ref 22, .ref 2, .int a1] A (fun r A' => r = none ∧ (hcC A A' ∧ (hcT (ht_K B n) (ht_W B n) (fun u => (ht_S B n u : Int)) A' ∧ hcE (ht_K B n) (ht_E B n) A'))) := hpC.all (fun f d => hW58 a1 hA h1 hn hBr hU (fun r A' h => h))
