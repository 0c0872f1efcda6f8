/-! THE TOKENS as a prefix function of the bytes: B the tape's bytes (-128 .. 127), n how many -/
section HT
variable (B : Nat → Int) (n : Nat)
def ht_rn (P : Int → Bool) : Nat → Nat → Nat
  | 0, i => i
  | f + 1, i => if i < n ∧ P (B i) = true then ht_rn P f (i + 1) else i
/-- the first place from i on that is n or whose byte isn't one of P -/
def ht_run (P : Int → Bool) (i : Nat) : Nat := ht_rn B n P n i
theorem ht_rn_more {P : Int → Bool} : ∀ (f g i : Nat), n - i ≤ f → n - i ≤ g → ht_rn B n P f i = ht_rn B n P g i
  | 0, 0, i, _, _ => rfl
  | 0, g + 1, i, hf, _ => by
    show i = if i < n ∧ P (B i) = true then ht_rn B n P g (i + 1) else i
    rw [if_neg (fun q => by omega)]
  | f + 1, 0, i, _, hg => by
    show (if i < n ∧ P (B i) = true then ht_rn B n P f (i + 1) else i) = i
    rw [if_neg (fun q => by omega)]
  | f + 1, g + 1, i, hf, hg => by
    show (if i < n ∧ P (B i) = true then ht_rn B n P f (i + 1) else i) = if i < n ∧ P (B i) = true then ht_rn B n P g (i + 1) else i
    by_cases h : i < n ∧ P (B i) = true
    · rw [if_pos h, if_pos h]
      exact ht_rn_more f g (i + 1) (by omega) (by omega)
    · rw [if_neg h, if_neg h]
theorem ht_run_go {P : Int → Bool} {i : Nat} (h1 : i < n) (h2 : P (B i) = true) : ht_run B n P i = ht_run B n P (i + 1) := by
  unfold ht_run
  match n, h1 with
  | n + 1, h1 =>
    show (if i < n + 1 ∧ P (B i) = true then ht_rn B (n + 1) P n (i + 1) else i) = _
    rw [if_pos ⟨h1, h2⟩]
    exact ht_rn_more B (n + 1) n (n + 1) (i + 1) (by omega) (by omega)
theorem ht_run_stop {P : Int → Bool} {i : Nat} (h : ¬ (i < n ∧ P (B i) = true)) : ht_run B n P i = i := by
  unfold ht_run
  match n, h with
  | 0, _ => rfl
  | n + 1, h =>
    show (if i < n + 1 ∧ P (B i) = true then ht_rn B (n + 1) P n (i + 1) else i) = i
    rw [if_neg h]
theorem ht_rn_ge {P : Int → Bool} : ∀ (f i : Nat), i ≤ ht_rn B n P f i
  | 0, i => Nat.le_refl _
  | f + 1, i => by
    show i ≤ if i < n ∧ P (B i) = true then ht_rn B n P f (i + 1) else i
    by_cases h : i < n ∧ P (B i) = true
    · rw [if_pos h]
      exact Nat.le_trans (Nat.le_succ i) (ht_rn_ge f (i + 1))
    · rw [if_neg h]
      exact Nat.le_refl _
theorem ht_run_ge {P : Int → Bool} (i : Nat) : i ≤ ht_run B n P i := ht_rn_ge B n n i
theorem ht_rn_le {P : Int → Bool} : ∀ (f i : Nat), i ≤ n → ht_rn B n P f i ≤ n
  | 0, i, h => h
  | f + 1, i, h => by
    show (if i < n ∧ P (B i) = true then ht_rn B n P f (i + 1) else i) ≤ n
    by_cases h1 : i < n ∧ P (B i) = true
    · rw [if_pos h1]
      exact ht_rn_le f (i + 1) h1.1
    · rw [if_neg h1]
      exact h
theorem ht_run_le {P : Int → Bool} {i : Nat} (h : i ≤ n) : ht_run B n P i ≤ n := ht_rn_le B n n i h
def ht_bl (c : Int) : Bool := decide (c = 9 ∨ c = 10 ∨ c = 13 ∨ c = 32)
def ht_le (c : Int) : Bool := decide (97 ≤ c ∧ c ≤ 122)
def ht_di (c : Int) : Bool := decide (48 ≤ c ∧ c ≤ 57)
def ht_ws : List (List Int) := [[104, 111, 117, 115, 101], [115, 101, 110, 100, 115], [107, 101, 101, 112, 115], [116, 117, 114, 110, 115], [104, 117, 109, 115], [100, 105, 101, 115], [103, 114, 105, 101, 102], [115, 101, 101, 100], [105, 102], [116, 104, 101, 110], [101, 108, 115, 101], [100, 111, 111, 114], [104, 111, 117, 114], [100, 97, 121], [112, 97, 114, 116], [119, 97, 110, 116, 115], [97, 103, 101], [112, 97, 114, 116, 115], [109, 97, 110, 121], [104, 97, 100]]
/-- the bytes from i to e -/
def ht_sub (i e : Nat) : List Int := (List.range (e - i)).map (fun j => B (i + j))
def ht_ix (l : List Int) : List (List Int) → Nat → Option Nat
  | [], _ => none
  | w :: ws, k => if w = l then some k else ht_ix l ws (k + 1)
def ht_sg (c : Int) : Int := if c = 59 then 24 else if c = 61 then 25 else if c = 43 then 26 else if c = 45 then 27 else if c = 42 then 28 else if c = 47 then 29 else if c = 60 then 30 else if c = 40 then 31 else if c = 41 then 32 else 23
/-- the kind of the token that begins at p (no blank) -/
def ht_kind (p : Nat) : Int := if n ≤ p then 22
  else if ht_le (B p) = true then (if ht_run B n ht_le p - p ≤ 8 then (match ht_ix (ht_sub B p (ht_run B n ht_le p)) ht_ws 0 with
    | some k => (k : Int)
    | none => 20) else 23)
  else if ht_di (B p) = true then (if ht_run B n ht_di p - p ≤ 4 then 21 else 23)
  else ht_sg (B p)
def ht_end (p : Nat) : Nat := if n ≤ p then p
  else if ht_le (B p) = true then ht_run B n ht_le p
  else if ht_di (B p) = true then ht_run B n ht_di p
  else p + 1
def ht_val (l : List Int) : Int := l.foldl (fun v c => 10 * v + (c - 48)) 0
/-- where token j begins to be looked for, where it begins -/
def ht_pos : Nat → Nat
  | 0 => 0
  | j + 1 => ht_end B n (ht_run B n ht_bl (ht_pos j))
def ht_S (j : Nat) : Nat := ht_run B n ht_bl (ht_pos B n j)
def ht_K (j : Nat) : Int := ht_kind B n (ht_S B n j)
def ht_V (j : Nat) : Int := ht_val (ht_sub B (ht_S B n j) (ht_end B n (ht_S B n j)))
/-- the letters of token j -/
def ht_N (j : Nat) : List Int := ht_sub B (ht_S B n j) (ht_end B n (ht_S B n j))
theorem ht_end_gt {p : Nat} (h : p < n) : p < ht_end B n p := by
  unfold ht_end
  rw [if_neg (by omega)]
  by_cases h1 : ht_le (B p) = true
  · rw [if_pos h1, ht_run_go B n h h1]
    exact Nat.lt_of_lt_of_le (Nat.lt_succ_self p) (ht_run_ge B n (p + 1))
  · rw [if_neg h1]
    by_cases h2 : ht_di (B p) = true
    · rw [if_pos h2, ht_run_go B n h h2]
      exact Nat.lt_of_lt_of_le (Nat.lt_succ_self p) (ht_run_ge B n (p + 1))
    · rw [if_neg h2]
      exact Nat.lt_succ_self p
theorem ht_end_le {p : Nat} (h : p ≤ n) : ht_end B n p ≤ n := by
  unfold ht_end
  by_cases h0 : n ≤ p
  · rw [if_pos h0]
    exact h
  · rw [if_neg h0]
    by_cases h1 : ht_le (B p) = true
    · rw [if_pos h1]
      exact ht_run_le B n h
    · rw [if_neg h1]
      by_cases h2 : ht_di (B p) = true
      · rw [if_pos h2]
        exact ht_run_le B n h
      · rw [if_neg h2]
        omega
theorem ht_pos_le : ∀ j, ht_pos B n j ≤ n
  | 0 => Nat.zero_le _
  | j + 1 => ht_end_le B n (ht_run_le B n (ht_pos_le j))
theorem ht_S_le (j : Nat) : ht_S B n j ≤ n := ht_run_le B n (ht_pos_le B n j)
/-- the places grow till the text's end -/
theorem ht_S_lt {j : Nat} (h : ht_S B n j < n) : ht_S B n j < ht_S B n (j + 1) := Nat.lt_of_lt_of_le (ht_end_gt B n h) (ht_run_ge B n _)
end HT
