/-! THE TOKENS as a prefix function of the bytes: B the tape's bytes (-128 .. 127), n how many -/
section HT
variable (B : Nat → Int) (n : Nat)
def ht_rn (P : Int → Bool) : Nat → Nat → Nat
  | 0, i => i
  | f + 1, i => if i < n ∧ P (B i) = true then ht_rn P f (i + 1) else i
/-- the first place from i on that is n or whose byte isn't one of P -/
def ht_run (P : Int → Bool) (i : Nat) : Nat := ht_rn B n P n i
theorem ht_rn_more {P : Int → Bool} : ∀ (f g i : Nat), n - i ≤ f → n - i ≤ g → ht_rn B n P f i = ht_rn B n P g i
  | 0, 0, i, _, _ => rfl
  | 0, g + 1, i, hf, _ => by
    show i = if i < n ∧ P (B i) = true then ht_rn B n P g (i + 1) else i
    rw [if_neg (fun q => by omega)]
  | f + 1, 0, i, _, hg => by
    show (if i < n ∧ P (B i) = true then ht_rn B n P f (i + 1) else i) = i
    rw [if_neg (fun q => by omega)]
  | f + 1, g + 1, i, hf, hg => by
    show (if i < n ∧ P (B i) = true then ht_rn B n P f (i + 1) else i) = if i < n ∧ P (B i) = true then ht_rn B n P g (i + 1) else i
    by_cases h : i < n ∧ P (B i) = true
    · rw [if_pos h, if_pos h]
      exact ht_rn_more f g (i + 1) (by omega) (by omega)
    · rw [if_neg h, if_neg h]
theorem ht_run_go {P : Int → Bool} {i : Nat} (h1 : i < n) (h2 : P (B i) = true) : ht_run B n P i = ht_run B n P (i + 1) := by
  unfold ht_run
  match n, h1 with
  | n + 1, h1 =>
    show (if i < n + 1 ∧ P (B i) = true then ht_rn B (n + 1) P n (i + 1) else i) = _
    rw [if_pos ⟨h1, h2⟩]
    exact ht_rn_more B (n + 1) n (n + 1) (i + 1) (by omega) (by omega)
theorem ht_run_stop {P : Int → Bool} {i : Nat} (h : ¬ (i < n ∧ P (B i) = true)) : ht_run B n P i = i := by
  unfold ht_run
  match n, h with
  | 0, _ => rfl
  | n + 1, h =>
    show (if i < n + 1 ∧ P (B i) = true then ht_rn B (n + 1) P n (i + 1) else i) = i
    rw [if_neg h]
theorem ht_rn_ge {P : Int → Bool} : ∀ (f i : Nat), i ≤ ht_rn B n P f i
  | 0, i => Nat.le_refl _
  | f + 1, i => by
    show i ≤ if i < n ∧ P (B i) = true then ht_rn B n P f (i + 1) else i
    by_cases h : i < n ∧ P (B i) = true
    · rw [if_pos h]
      exact Nat.le_trans (Nat.le_succ i) (ht_rn_ge f (i + 1))
    · rw [if_neg h]
      exact Nat.le_refl _
theorem ht_run_ge {P : Int → Bool} (i : Nat) : i ≤ ht_run B n P i := ht_rn_ge B n n i
theorem ht_rn_le {P : Int → Bool} : ∀ (f i : Nat), i ≤ n → ht_rn B n P f i ≤ n
  | 0, i, h => h
  | f + 1, i, h => by
    show (if i < n ∧ P (B i) = true then ht_rn B n P f (i + 1) else i) ≤ n
    by_cases h1 : i < n ∧ P (B i) = true
    · rw [if_pos h1]
      exact ht_rn_le f (i + 1) h1.1
    · rw [if_neg h1]
      exact h
theorem ht_run_le {P : Int → Bool} {i : Nat} (h : i ≤ n) : ht_run B n P i ≤ n := ht_rn_le B n n i h
def ht_bl (c : Int) : Bool := decide (c = 9 ∨ c = 10 ∨ c = 13 ∨ c = 32)
def ht_le (c : Int) : Bool := decide (97 ≤ c ∧ c ≤ 122)
def ht_di (c : Int) : Bool := decide (48 ≤ c ∧ c ≤ 57)
def ht_ws : List (List Int) := [[104, 111, 117, 115, 101], [115, 101, 110, 100, 115], [107, 101, 101, 112, 115], [116, 117, 114, 110, 115], [104, 117, 109, 115], [100, 105, 101, 115], [103, 114, 105, 101, 102], [115, 101, 101, 100], [105, 102], [116, 104, 101, 110], [101, 108, 115, 101], [100, 111, 111, 114], [104, 111, 117, 114], [100, 97, 121], [112, 97, 114, 116], [119, 97, 110, 116, 115], [97, 103, 101], [112, 97, 114, 116, 115], [109, 97, 110, 121], [104, 97, 100]]
/-- the bytes from i to e -/
def ht_sub (i e : Nat) : List Int := (List.range (e - i)).map (fun j => B (i + j))
def ht_ix (l : List Int) : List (List Int) → Nat → Option Nat
  | [], _ => none
  | w :: ws, k => if w = l then some k else ht_ix l ws (k + 1)
def ht_sg (c : Int) : Int := if c = 59 then 24 else if c = 61 then 25 else if c = 43 then 26 else if c = 45 then 27 else if c = 42 then 28 else if c = 47 then 29 else if c = 60 then 30 else if c = 40 then 31 else if c = 41 then 32 else 23
/-- the kind of the token that begins at p (no blank) -/
def ht_kind (p : Nat) : Int := if n ≤ p then 22
  else if ht_le (B p) = true then (if ht_run B n ht_le p - p ≤ 8 then (match ht_ix (ht_sub B p (ht_run B n ht_le p)) ht_ws 0 with
    | some k => (k : Int)
    | none => 20) else 23)
  else if ht_di (B p) = true then (if ht_run B n ht_di p - p ≤ 4 then 21 else 23)
  else ht_sg (B p)
def ht_end (p : Nat) : Nat := if n ≤ p then p
  else if ht_le (B p) = true then ht_run B n ht_le p
  else if ht_di (B p) = true then ht_run B n ht_di p
  else p + 1
def ht_val (l : List Int) : Int := l.foldl (fun v c => 10 * v + (c - 48)) 0
/-- where token j begins to be looked for, where it begins -/
def ht_pos : Nat → Nat
  | 0 => 0
  | j + 1 => ht_end B n (ht_run B n ht_bl (ht_pos j))
def ht_S (j : Nat) : Nat := ht_run B n ht_bl (ht_pos B n j)
def ht_K (j : Nat) : Int := ht_kind B n (ht_S B n j)
def ht_V (j : Nat) : Int := ht_val (ht_sub B (ht_S B n j) (ht_end B n (ht_S B n j)))
/-- the letters of token j -/
def ht_N (j : Nat) : List Int := ht_sub B (ht_S B n j) (ht_end B n (ht_S B n j))
theorem ht_end_gt {p : Nat} (h : p < n) : p < ht_end B n p := by
  unfold ht_end
  rw [if_neg (by omega)]
  by_cases h1 : ht_le (B p) = true
  · rw [if_pos h1, ht_run_go B n h h1]
    exact Nat.lt_of_lt_of_le (Nat.lt_succ_self p) (ht_run_ge B n (p + 1))
  · rw [if_neg h1]
    by_cases h2 : ht_di (B p) = true
    · rw [if_pos h2, ht_run_go B n h h2]
      exact Nat.lt_of_lt_of_le (Nat.lt_succ_self p) (ht_run_ge B n (p + 1))
    · rw [if_neg h2]
      exact Nat.lt_succ_self p
theorem ht_end_le {p : Nat} (h : p ≤ n) : ht_end B n p ≤ n := by
  unfold ht_end
  by_cases h0 : n ≤ p
  · rw [if_pos h0]
    exact h
  · rw [if_neg h0]
    by_cases h1 : ht_le (B p) = true
    · rw [if_pos h1]
      exact ht_run_le B n h
    · rw [if_neg h1]
      by_cases h2 : ht_di (B p) = true
      · rw [if_pos h2]
        exact ht_run_le B n h
      · rw [if_neg h2]
        omega
theorem ht_pos_le : ∀ j, ht_pos B n j ≤ n
  | 0 => Nat.zero_le _
  | j + 1 => ht_end_le B n (ht_run_le B n (ht_pos_le j))
theorem ht_S_le (j : Nat) : ht_S B n j ≤ n := ht_run_le B n (ht_pos_le B n j)
/-- the places grow till the text's end -/
theorem ht_S_lt {j : Nat} (h : ht_S B n j < n) : ht_S B n j < ht_S B n (j + 1) := Nat.lt_of_lt_of_le (ht_end_gt B n h) (ht_run_ge B n _)
end HT
/-! the letters backwards, their codes -/
def ht_rv (B : Nat → Int) (p : Nat) : Nat → List Int
  | 0 => []
  | k + 1 => B (p + k) :: ht_rv B p k
def ht_g (b z : Int) : List Int → Int
  | [] => 0
  | c :: r => b * ht_g b z r + (c - z)
theorem ht_rv_len (B : Nat → Int) (p : Nat) : ∀ k, (ht_rv B p k).length = k
  | 0 => rfl
  | k + 1 => congrArg Nat.succ (ht_rv_len B p k)
theorem ht_rv_mem {B : Nat → Int} {p : Nat} {c : Int} : ∀ {k : Nat}, c ∈ ht_rv B p k → ∃ i, p ≤ i ∧ i < p + k ∧ c = B i
  | 0, h => absurd h List.not_mem_nil
  | k + 1, h => by
    rcases List.mem_cons.mp h with q | q
    · exact ⟨p + k, by omega, by omega, q⟩
    · obtain ⟨i, h1, h2, h3⟩ := ht_rv_mem q
      exact ⟨i, h1, by omega, h3⟩
theorem ht_rv_sub (B : Nat → Int) (p : Nat) : ∀ k, ht_rv B p k = (ht_sub B p (p + k)).reverse
  | 0 => by
    unfold ht_sub
    rw [show p + 0 - p = 0 by omega]
    rfl
  | k + 1 => by
    show B (p + k) :: ht_rv B p k = _
    rw [ht_rv_sub B p k]
    unfold ht_sub
    rw [show p + (k + 1) - p = k + 1 by omega, show p + k - p = k by omega, List.range_succ, List.map_append, List.reverse_append]
    rfl
theorem ht_g_bd {b z : Int} (hb : 1 < b) : ∀ {l : List Int}, (∀ c, c ∈ l → 0 ≤ c - z ∧ c - z < b) → 0 ≤ ht_g b z l ∧ ht_g b z l < b ^ l.length
  | [], _ => ⟨Int.le_refl 0, by show (0 : Int) < b ^ 0; rw [Int.pow_zero]; omega⟩
  | c :: r, h => by
    have h1 := h c List.mem_cons_self
    have h2 := ht_g_bd hb (l := r) (fun c hc => h c (List.mem_cons_of_mem _ hc))
    have e : b ^ (c :: r).length = b ^ r.length * b := Int.pow_succ b r.length
    have m1 : 0 ≤ b * ht_g b z r := Int.mul_nonneg (by omega) h2.1
    have m2 : b * (ht_g b z r + 1) ≤ b * b ^ r.length := Int.mul_le_mul_of_nonneg_left (by omega) (by omega)
    rw [e, Int.mul_comm (b ^ r.length) b]
    show 0 ≤ b * ht_g b z r + (c - z) ∧ b * ht_g b z r + (c - z) < _
    rw [Int.mul_add, Int.mul_one] at m2
    omega
theorem ht_g_inj {b z : Int} (hb : 1 < b) : ∀ {l l' : List Int}, (∀ c, c ∈ l → 1 ≤ c - z ∧ c - z < b) → (∀ c, c ∈ l' → 1 ≤ c - z ∧ c - z < b) → ht_g b z l = ht_g b z l' → l = l'
  | [], [], _, _, _ => rfl
  | [], c :: r, _, h, e => by
    have h1 := h c List.mem_cons_self
    have h2 := (ht_g_bd (z := z) hb (l := r) (fun c hc => by have := h c (List.mem_cons_of_mem _ hc); omega)).1
    have m1 : 0 ≤ b * ht_g b z r := Int.mul_nonneg (by omega) h2
    have e' : 0 = b * ht_g b z r + (c - z) := e
    omega
  | c :: r, [], h, _, e => by
    have h1 := h c List.mem_cons_self
    have h2 := (ht_g_bd (z := z) hb (l := r) (fun c hc => by have := h c (List.mem_cons_of_mem _ hc); omega)).1
    have m1 : 0 ≤ b * ht_g b z r := Int.mul_nonneg (by omega) h2
    have e' : b * ht_g b z r + (c - z) = 0 := e
    omega
  | c :: r, c' :: r', h, h', e => by
    have h1 := h c List.mem_cons_self
    have h2 := h' c' List.mem_cons_self
    have e' : b * ht_g b z r + (c - z) = b * ht_g b z r' + (c' - z) := e
    have q : ht_g b z r = ht_g b z r' := by
      rcases Int.lt_trichotomy (ht_g b z r) (ht_g b z r') with q | q | q
      · have m : b * (ht_g b z r + 1) ≤ b * ht_g b z r' := Int.mul_le_mul_of_nonneg_left (by omega) (by omega)
        rw [Int.mul_add, Int.mul_one] at m
        omega
      · exact q
      · have m : b * (ht_g b z r' + 1) ≤ b * ht_g b z r := Int.mul_le_mul_of_nonneg_left (by omega) (by omega)
        rw [Int.mul_add, Int.mul_one] at m
        omega
    rw [q] at e'
    have hc : c = c' := by omega
    rw [hc, ht_g_inj hb (fun c hc => h c (List.mem_cons_of_mem _ hc)) (fun c hc => h' c (List.mem_cons_of_mem _ hc)) q]
section HT2
variable {B : Nat → Int} {n : Nat}
theorem ht_rn_all {P : Int → Bool} : ∀ (f i : Nat) {m : Nat}, i ≤ m → m < ht_rn B n P f i → P (B m) = true
  | 0, i, m, h1, h2 => absurd h2 (by show ¬ m < i; omega)
  | f + 1, i, m, h1, h2 => by
    have h2' : m < if i < n ∧ P (B i) = true then ht_rn B n P f (i + 1) else i := h2
    by_cases h : i < n ∧ P (B i) = true
    · rw [if_pos h] at h2'
      by_cases q : m = i
      · subst q; exact h.2
      · exact ht_rn_all f (i + 1) (by omega) h2'
    · rw [if_neg h] at h2'
      omega
theorem ht_run_all {P : Int → Bool} {i m : Nat} (h1 : i ≤ m) (h2 : m < ht_run B n P i) : P (B m) = true := ht_rn_all n i h1 h2
theorem ht_ix_lt {l : List Int} : ∀ {ws : List (List Int)} {k j : Nat}, ht_ix l ws k = some j → k ≤ j ∧ j < k + ws.length
  | [], k, j, h => by cases h
  | w :: ws, k, j, h => by
    have h' : (if w = l then some k else ht_ix l ws (k + 1)) = some j := h
    by_cases q : w = l
    · rw [if_pos q] at h'
      cases h'
      exact ⟨Nat.le_refl _, by show k < k + (ws.length + 1); omega⟩
    · rw [if_neg q] at h'
      have := ht_ix_lt h'
      exact ⟨by omega, by show j < k + (ws.length + 1); omega⟩
theorem ht_ix_some {l : List Int} : ∀ {ws : List (List Int)} {k j : Nat}, (∀ i, i < j → ws[i]? ≠ some l) → ws[j]? = some l → ht_ix l ws k = some (k + j)
  | [], k, j, _, h => by cases h
  | w :: ws, k, 0, _, h => by
    have h' : w = l := Option.some.inj h
    show (if w = l then some k else ht_ix l ws (k + 1)) = some k
    rw [if_pos h']
  | w :: ws, k, j + 1, h0, h => by
    have h1 : ¬ w = l := fun q => h0 0 (by omega) (congrArg some q)
    show (if w = l then some k else ht_ix l ws (k + 1)) = some (k + (j + 1))
    rw [if_neg h1, ht_ix_some (k := k + 1) (j := j) (fun i hi => h0 (i + 1) (by omega)) h, show k + 1 + j = k + (j + 1) by omega]
theorem ht_ix_none {l : List Int} : ∀ {ws : List (List Int)} {k : Nat}, (∀ i, i < ws.length → ws[i]? ≠ some l) → ht_ix l ws k = none
  | [], k, _ => rfl
  | w :: ws, k, h0 => by
    have h1 : ¬ w = l := fun q => h0 0 (Nat.succ_pos _) (congrArg some q)
    show (if w = l then some k else ht_ix l ws (k + 1)) = none
    rw [if_neg h1]
    exact ht_ix_none (fun i hi => h0 (i + 1) (Nat.succ_lt_succ hi))
theorem ht_le_iff {c : Int} : ht_le c = true ↔ 97 ≤ c ∧ c ≤ 122 := decide_eq_true_iff
theorem ht_di_iff {c : Int} : ht_di c = true ↔ 48 ≤ c ∧ c ≤ 57 := decide_eq_true_iff
theorem ht_bl_iff {c : Int} : ht_bl c = true ↔ c = 9 ∨ c = 10 ∨ c = 13 ∨ c = 32 := decide_eq_true_iff
theorem ht_sg_rng (c : Int) : 23 ≤ ht_sg c ∧ ht_sg c ≤ 32 := by
  unfold ht_sg
  repeat' split
  all_goals omega
/-- what a word's, an int's kind says -/
theorem ht_kind_le {p : Nat} (h : p < n) (hl : ht_le (B p) = true) : ht_kind B n p = if ht_run B n ht_le p - p ≤ 8 then (match ht_ix (ht_sub B p (ht_run B n ht_le p)) ht_ws 0 with
    | some k => (k : Int)
    | none => 20) else 23 := by
  unfold ht_kind
  rw [if_neg (by omega), if_pos hl]
theorem ht_not_le {c : Int} (h : ¬ (97 ≤ c ∧ c ≤ 122)) : ¬ ht_le c = true := fun q => h (ht_le_iff.mp q)
theorem ht_not_di {c : Int} (h : ¬ (48 ≤ c ∧ c ≤ 57)) : ¬ ht_di c = true := fun q => h (ht_di_iff.mp q)
theorem ht_kind_di {p : Nat} (h : p < n) (hl : ¬ ht_le (B p) = true) (hd : ht_di (B p) = true) : ht_kind B n p = if ht_run B n ht_di p - p ≤ 4 then 21 else 23 := by
  unfold ht_kind
  rw [if_neg (by omega), if_neg hl, if_pos hd]
theorem ht_kind_sg {p : Nat} (h : p < n) (hl : ¬ ht_le (B p) = true) (hd : ¬ ht_di (B p) = true) : ht_kind B n p = ht_sg (B p) := by
  unfold ht_kind
  rw [if_neg (by omega), if_neg hl, if_neg hd]
theorem ht_kind_end {p : Nat} (h : n ≤ p) : ht_kind B n p = 22 := by
  unfold ht_kind
  rw [if_pos h]
theorem ht_end_le' {p : Nat} (h : p < n) (hl : ht_le (B p) = true) : ht_end B n p = ht_run B n ht_le p := by
  unfold ht_end
  rw [if_neg (by omega), if_pos hl]
theorem ht_end_di {p : Nat} (h : p < n) (hl : ¬ ht_le (B p) = true) (hd : ht_di (B p) = true) : ht_end B n p = ht_run B n ht_di p := by
  unfold ht_end
  rw [if_neg (by omega), if_neg hl, if_pos hd]
theorem ht_end_sg {p : Nat} (h : p < n) (hl : ¬ ht_le (B p) = true) (hd : ¬ ht_di (B p) = true) : ht_end B n p = p + 1 := by
  unfold ht_end
  rw [if_neg (by omega), if_neg hl, if_neg hd]
theorem ht_end_end {p : Nat} (h : n ≤ p) : ht_end B n p = p := by
  unfold ht_end
  rw [if_pos h]
theorem ht_kind_rng (p : Nat) : 0 ≤ ht_kind B n p ∧ ht_kind B n p ≤ 32 ∧ (ht_kind B n p = 22 → n ≤ p) ∧ (ht_kind B n p = 20 → p < n ∧ ht_le (B p) = true ∧ ht_run B n ht_le p - p ≤ 8) ∧ (ht_kind B n p = 21 → p < n ∧ ¬ ht_le (B p) = true ∧ ht_di (B p) = true ∧ ht_run B n ht_di p - p ≤ 4) := by
  by_cases h : n ≤ p
  · rw [ht_kind_end h]
    exact ⟨by omega, by omega, fun _ => h, fun q => absurd q (by omega), fun q => absurd q (by omega)⟩
  · by_cases hl : ht_le (B p) = true
    · rw [ht_kind_le (by omega) hl]
      by_cases h8 : ht_run B n ht_le p - p ≤ 8
      · rw [if_pos h8]
        cases hx : ht_ix (ht_sub B p (ht_run B n ht_le p)) ht_ws 0 with
        | none =>
          dsimp only
          exact ⟨by omega, by omega, fun q => absurd q (by omega), fun _ => ⟨by omega, hl, h8⟩, fun q => absurd q (by omega)⟩
        | some k =>
          have hk := (ht_ix_lt hx).2
          have hw : ht_ws.length = 20 := by decide
          dsimp only
          exact ⟨by omega, by omega, fun q => absurd q (by omega), fun q => absurd q (by omega), fun q => absurd q (by omega)⟩
      · rw [if_neg h8]
        exact ⟨by omega, by omega, fun q => absurd q (by omega), fun q => absurd q (by omega), fun q => absurd q (by omega)⟩
    · by_cases hd : ht_di (B p) = true
      · rw [ht_kind_di (by omega) hl hd]
        by_cases h4 : ht_run B n ht_di p - p ≤ 4
        · rw [if_pos h4]
          exact ⟨by omega, by omega, fun q => absurd q (by omega), fun q => absurd q (by omega), fun _ => ⟨by omega, hl, hd, h4⟩⟩
        · rw [if_neg h4]
          exact ⟨by omega, by omega, fun q => absurd q (by omega), fun q => absurd q (by omega), fun q => absurd q (by omega)⟩
      · rw [ht_kind_sg (by omega) hl hd]
        have := ht_sg_rng (B p)
        have h22 : ht_sg (B p) ≠ 22 := by omega
        exact ⟨by omega, by omega, fun q => absurd q (by omega), fun q => absurd q (by omega), fun q => absurd q (by omega)⟩
/-- the letters of a token backwards; which names are the same; its int -/
def ht_M (B : Nat → Int) (n j : Nat) : List Int := ht_rv B (ht_S B n j) (ht_end B n (ht_S B n j) - ht_S B n j)
def ht_E (B : Nat → Int) (n u t : Nat) : Bool := decide (ht_M B n u = ht_M B n t)
def ht_W (B : Nat → Int) (n j : Nat) : Int := ht_g 10 48 (ht_M B n j)
theorem ht_pre_S (j : Nat) (hp : ∀ i, i < j → ht_K B n i ≠ 22 ∧ ht_K B n i ≠ 23) : j ≤ ht_pos B n j := by
  induction j with
  | zero => exact Nat.zero_le _
  | succ j ih =>
    have h1 := ih (fun i hi => hp i (by omega))
    have h2 := (hp j (by omega)).1
    have h3 : ht_S B n j < n := by
      have h4 := ht_S_le B n j
      by_cases q : ht_S B n j < n
      · exact q
      · exact absurd (ht_kind_end (B := B) (p := ht_S B n j) (by omega)) h2
    have h5 : ht_pos B n j ≤ ht_S B n j := ht_run_ge B n _
    have h6 : ht_S B n j < ht_pos B n (j + 1) := ht_end_gt B n h3
    omega
end HT2
