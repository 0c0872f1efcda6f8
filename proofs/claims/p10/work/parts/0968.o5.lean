/-! LOUDEST; THE TWO WHO HAD BEST CHANGE -/
def huLd (D : hg_D) (n : Nat) (ro : Nat → Int32) (m : Nat) (w : Int32) : Int32 :=
  if n = 0 then Int32.ofNat 4294967294 else if w.toInt = 0 then Int32.ofNat (huMi (fun h => huLs D n ro h m) (n - 1)) else huLs D n ro (huMi (fun h => huLs D n ro h m) (n - 1)) m
theorem hswr_t {f F F' : Nat → Int32} {a b m : Nat} (ha : a < 10) (hb : b < 10) (hm : m < 5) (hm3 : ¬ m = 3) (h : ∀ k, k < 73 → F k = if k < 10 * m then hswr a b f k else f k) (h' : ∀ k, k < 73 → F' k = if k = 10 * m + a then F (10 * m + b) else if k = 10 * m + b then F (10 * m + a) else F k) : ∀ k, k < 73 → F' k = if k < 10 * (m + 1) then hswr a b f k else f k := fun k hk => by
  rw [h' k hk]
  by_cases q1 : k = 10 * m + a
  · rw [if_pos q1, h (10 * m + b) (by omega), if_neg (by omega), if_pos (by omega)]
    unfold hswr
    rw [if_neg (by omega), if_pos (by omega), show k / 10 * 10 = 10 * m by omega]
  · by_cases q2 : k = 10 * m + b
    · rw [if_neg q1, if_pos q2, h (10 * m + a) (by omega), if_neg (by omega), if_pos (by omega)]
      unfold hswr
      rw [if_neg (by omega), if_neg (by omega), if_pos (by omega), show k / 10 * 10 = 10 * m by omega]
    · rw [if_neg q1, if_neg q2, h k hk]
      by_cases q3 : k < 10 * m
      · rw [if_pos q3, if_pos (by omega)]
      · by_cases q4 : k < 10 * (m + 1)
        · rw [if_neg q3, if_pos q4]
          unfold hswr
          rw [if_neg (by omega), if_neg (by omega), if_neg (by omega)]
        · rw [if_neg q3, if_neg q4]
theorem hswr_k3 {f F : Nat → Int32} {a b m : Nat} (hm : m = 3) (h : ∀ k, k < 73 → F k = if k < 10 * m then hswr a b f k else f k) : ∀ k, k < 73 → F k = if k < 10 * (m + 1) then hswr a b f k else f k := fun k hk => by
  rw [h k hk]
  by_cases q3 : k < 10 * m
  · rw [if_pos q3, if_pos (by omega)]
  · by_cases q4 : k < 10 * (m + 1)
    · rw [if_neg q3, if_pos q4]
      unfold hswr
      rw [if_pos (by omega)]
    · rw [if_neg q3, if_neg q4]
theorem hswr_k5 {f F : Nat → Int32} {a b m : Nat} (hm : m = 5) (h : ∀ k, k < 73 → F k = if k < 10 * m then hswr a b f k else f k) : ∀ k, k < 73 → F k = hswr a b f k := fun k hk => by
  rw [h k hk]
  by_cases q3 : k < 10 * m
  · rw [if_pos q3]
  · rw [if_neg q3]
    unfold hswr
    rw [if_pos (by omega)]
theorem hswr_hi {f : Nat → Int32} {a b k : Nat} (h : k / 10 = 3 ∨ 5 ≤ k / 10) : hswr a b f k = f k := by
  unfold hswr
  rw [if_pos h]
theorem hswr_lo {f : Nat → Int32} {a b m x : Nat} (hm : m < 5) (h3 : ¬ m = 3) (hx : x < 10) : hswr a b f (10 * m + x) = if x = a then f (10 * m + b) else if x = b then f (10 * m + a) else f (10 * m + x) := by
  unfold hswr
  rw [if_neg (by omega), show (10 * m + x) % 10 = x by omega, show (10 * m + x) / 10 * 10 = 10 * m by omega]
theorem hswr_aa {f : Nat → Int32} {a k : Nat} : hswr a a f k = f k := by
  unfold hswr
  split
  · rfl
  · split
    next q => rw [show k / 10 * 10 + a = k by omega]
    · rfl
theorem huO.swp {ro : Nat → Int32} {n a b : Nat} (h : huO ro n) (h10 : n ≤ 10) (ha : a < n ∧ b < n ∨ a = b) : huO (hswr a b ro) n := by
  rcases ha with ⟨ha, hb⟩ | rfl
  · obtain ⟨h1, h2, h3⟩ := h
    refine ⟨fun k hk => ?_, by rw [hswr_hi (by omega)]; exact h2, by rw [hswr_hi (by omega)]; exact h3⟩
    have e0 := hswr_lo (f := ro) (a := a) (b := b) (m := 0) (x := k) (by omega) (by omega) (by omega)
    have e4 := hswr_lo (f := ro) (a := a) (b := b) (m := 4) (x := k) (by omega) (by omega) (by omega)
    rw [show 10 * 0 + k = k by omega, show 10 * 0 + a = a by omega, show 10 * 0 + b = b by omega] at e0
    rw [show 10 * 4 + k = 40 + k by omega, show 10 * 4 + a = 40 + a by omega, show 10 * 4 + b = 40 + b by omega] at e4
    rw [e0, e4, hswr_hi (show (30 + k) / 10 = 3 ∨ _ from Or.inl (by omega)), hswr_hi (show (60 + k) / 10 = 3 ∨ 5 ≤ (60 + k) / 10 from Or.inr (by omega))]
    obtain ⟨p1, p2, p3, p4⟩ := h1 k hk
    obtain ⟨q1, q2, q3, q4⟩ := h1 a ha
    obtain ⟨r1, r2, r3, r4⟩ := h1 b hb
    by_cases c1 : k = a
    · rw [if_pos c1, if_pos c1]
      exact ⟨r1, r2, p3, p4.1, r4.2⟩
    · rw [if_neg c1, if_neg c1]
      by_cases c2 : k = b
      · rw [if_pos c2, if_pos c2]
        exact ⟨q1, q2, p3, p4.1, q4.2⟩
      · rw [if_neg c2, if_neg c2]
        exact ⟨p1, p2, p3, p4⟩
  · exact h.mv h10 (fun k _ => hswr_aa)
theorem hdL.swp {L n a b : Nat} {ro : Nat → Int32} {A A' : hs_A} (h : hdL L ro n A) (ha : a < n ∧ b < n ∨ a = b) (e : ∀ k, 6 ≤ k → k ≤ 10 → A'.1 L k = A.1 L k) (f : ∀ j, 1 ≤ j → j ≤ 4 → ∀ x : Nat, x < 10 → A'.2.1 (L + j) x = if x = a then A.2.1 (L + j) b else if x = b then A.2.1 (L + j) a else A.2.1 (L + j) x) (g : ∀ j, 5 ≤ j → j ≤ 6 → ∀ x : Nat, x < 10 → A'.2.1 (L + j) x = A.2.1 (L + j) x) : hdL L (hswr a b ro) n A' := by
  rcases ha with ⟨ha, hb⟩ | rfl
  · obtain ⟨h0, h1, ⟨h2, h3, h4⟩, ⟨m, m1, m2, m3⟩, h5⟩ := h
    refine ⟨h0, by rw [e 6 (by omega) (by omega)]; exact h1, ⟨by rw [e 7 (by omega) (by omega), hswr_hi (by omega)]; exact h2, by rw [e 8 (by omega) (by omega), hswr_hi (by omega)]; exact h3, by rw [e 10 (by omega) (by omega), hswr_hi (by omega)]; exact h4⟩, ⟨m, m1, by rw [e 9 (by omega) (by omega)]; exact m2, fun k hk => by rw [hswr_hi (Or.inr (by omega))]; exact m3 k hk⟩, fun k hk => ?_⟩
    obtain ⟨⟨a1, a2, a3⟩, a4, a5, a6⟩ := h5 k hk
    obtain ⟨⟨b1, b2, b3⟩, b4, b5, b6⟩ := h5 a ha
    obtain ⟨⟨c1, c2, c3⟩, c4, c5, c6⟩ := h5 b hb
    have s0 := hswr_lo (f := ro) (a := a) (b := b) (m := 0) (x := k) (by omega) (by omega) (by omega)
    have s1 := hswr_lo (f := ro) (a := a) (b := b) (m := 1) (x := k) (by omega) (by omega) (by omega)
    have s2 := hswr_lo (f := ro) (a := a) (b := b) (m := 2) (x := k) (by omega) (by omega) (by omega)
    have s4 := hswr_lo (f := ro) (a := a) (b := b) (m := 4) (x := k) (by omega) (by omega) (by omega)
    rw [show 10 * 0 + k = k by omega, show 10 * 0 + a = a by omega, show 10 * 0 + b = b by omega] at s0
    rw [show 10 * 1 + k = 10 + k by omega, show 10 * 1 + a = 10 + a by omega, show 10 * 1 + b = 10 + b by omega] at s1
    rw [show 10 * 2 + k = 20 + k by omega, show 10 * 2 + a = 20 + a by omega, show 10 * 2 + b = 20 + b by omega] at s2
    rw [show 10 * 4 + k = 40 + k by omega, show 10 * 4 + a = 40 + a by omega, show 10 * 4 + b = 40 + b by omega] at s4
    refine ⟨⟨?_, ?_, ?_⟩, ?_, ?_, ?_⟩
    · rw [f 1 (by omega) (by omega) k (by omega), s0, a1, b1, c1]
    · rw [f 2 (by omega) (by omega) k (by omega), s1, a2, b2, c2]
    · rw [f 3 (by omega) (by omega) k (by omega), s4, a3, b3, c3]
    · rw [f 4 (by omega) (by omega) k (by omega), s2, a4, b4, c4]
    · rw [g 5 (by omega) (by omega) k (by omega), hswr_hi (Or.inl (by omega))]
      exact a5
    · rw [g 6 (by omega) (by omega) k (by omega), hswr_hi (Or.inr (by omega))]
      exact a6
  · refine h.mv e (fun j a b x hx => ?_) (fun k _ => hswr_aa)
    by_cases q : j ≤ 4
    · rw [f j a q x hx]
      split
      next p => rw [p]
      · rfl
    · exact g j (by omega) b x hx
/-- how many have all that is wanted behind 48 hours, a and b having changed -/
def huCe (D : hg_D) (n : Nat) (ro : Nat → Int32) (a b : Nat) : Nat := huCt (huCn (huY D n false (Int32.ofNat 0) 48 (hswr a b ro))) n
def huDs (D : hg_D) (n : Nat) (ro : Nat → Int32) (i j : Nat) (s : Int32 × Int32) : Int32 × Int32 := if s.1.toInt < (Int32.ofNat (huCe D n ro i j)).toInt then (Int32.ofNat (huCe D n ro i j), Int32.ofNat (10 * i + j)) else s
def huDi (D : hg_D) (n : Nat) (ro : Nat → Int32) (i : Nat) : Nat → Int32 × Int32 → Int32 × Int32
  | 0, s => s
  | j + 1, s => if i < j then huDs D n ro i j (huDi D n ro i j s) else huDi D n ro i j s
def huDb (D : hg_D) (n : Nat) (ro : Nat → Int32) : Nat → Int32 × Int32
  | 0 => (Int32.ofNat (huCe D n ro 0 0), Int32.ofNat 4294967294)
  | i + 1 => huDi D n ro i n (huDb D n ro i)
def huDr (D : hg_D) (n : Nat) (ro : Nat → Int32) (w : Int32) : Int32 := if w.toInt = 0 ∨ (huDb D n ro n).2.toInt = -2 then (huDb D n ro n).2 else (huDb D n ro n).1
section HDB
variable {D : hg_D} {n i j : Nat} {ro : Nat → Int32} {s : Int32 × Int32}
theorem huCe_le {a b : Nat} : huCe D n ro a b ≤ n := huCt_le n
theorem huCe_c (h : n ≤ 10) {a b : Nat} : (Int32.ofNat (huCe D n ro a b)).toInt = (huCe D n ro a b : Int) := by
  have q := huCe_le (D := D) (n := n) (ro := ro) (a := a) (b := b)
  exact hn_c (n := huCe D n ro a b) (z := Int32.ofNat (huCe D n ro a b)) rfl (by omega)
theorem huCe_0 (h : n ≤ 10) : huCe D n ro 0 0 = huCt (huCn (huY D n false (Int32.ofNat 0) 48 ro)) n := huCt_cg n (fun j hj => by
  have e := huY_cg (D := D) (b := false) (s := Int32.ofNat 0) (r1 := hswr 0 0 ro) (r2 := ro) h (fun k _ => hswr_aa) 48
  show decide _ = decide _
  rw [e (40 + j) (by omega), e j (by omega)])
theorem huDi_n (hi : i < j) (h : ¬ (huDi D n ro i j s).1.toInt < (Int32.ofNat (huCe D n ro i j)).toInt) : huDi D n ro i (j + 1) s = huDi D n ro i j s := by
  show (if i < j then huDs D n ro i j (huDi D n ro i j s) else huDi D n ro i j s) = _
  rw [if_pos hi]
  exact if_neg h
theorem huDi_y (hi : i < j) (h : (huDi D n ro i j s).1.toInt < (Int32.ofNat (huCe D n ro i j)).toInt) : huDi D n ro i (j + 1) s = (Int32.ofNat (huCe D n ro i j), Int32.ofNat (10 * i + j)) := by
  show (if i < j then huDs D n ro i j (huDi D n ro i j s) else huDi D n ro i j s) = _
  rw [if_pos hi]
  exact if_pos h
theorem huDi_lo : ∀ k, k ≤ i + 1 → huDi D n ro i k s = s
  | 0, _ => rfl
  | k + 1, hk => by
    show (if i < k then huDs D n ro i k (huDi D n ro i k s) else huDi D n ro i k s) = _
    rw [if_neg (by omega)]
    exact huDi_lo k (by omega)
/-- no more than all -/
theorem huDi_st (h10 : n ≤ 10) (h : (n : Int) ≤ (huDi D n ro i j s).1.toInt) : ∀ k, huDi D n ro i (j + k) s = huDi D n ro i j s
  | 0 => rfl
  | k + 1 => by
    have q := huDi_st h10 h k
    show (if i < j + k then huDs D n ro i (j + k) (huDi D n ro i (j + k) s) else huDi D n ro i (j + k) s) = _
    rw [q]
    split
    · have c := huCe_c (D := D) (ro := ro) h10 (a := i) (b := j + k)
      have l := huCe_le (D := D) (n := n) (ro := ro) (a := i) (b := j + k)
      exact if_neg (by omega)
    · rfl
theorem huDi_ex (h10 : n ≤ 10) (hj : j ≤ n) (h : (n : Int) ≤ (j : Int) ∨ (n : Int) ≤ (huDi D n ro i j s).1.toInt) : huDi D n ro i n s = huDi D n ro i j s := by
  rcases h with h | h
  · rw [show n = j by omega]
  · have q := huDi_st h10 h (n - j)
    rw [show j + (n - j) = n by omega] at q
    exact q
theorem huDi_p (hi : i < 10) (h : huCp s) : ∀ k, k ≤ 10 → huCp (huDi D n ro i k s)
  | 0, _ => h
  | k + 1, hk => by
    have q := huDi_p hi h k (by omega)
    show huCp (if i < k then huDs D n ro i k (huDi D n ro i k s) else huDi D n ro i k s)
    split
    · unfold huDs
      split
      · have e := hn_c (n := 10 * i + k) (z := Int32.ofNat (10 * i + k)) rfl (by omega)
        exact Or.inr (by show 0 ≤ (Int32.ofNat (10 * i + k)).toInt; omega)
      · exact q
    · exact q
theorem huDb_p (h10 : n ≤ 10) : ∀ k, k ≤ 10 → huCp (huDb D n ro k)
  | 0, _ => Or.inl hk_4294967294
  | k + 1, hk => huDi_p (by omega) (huDb_p h10 k (by omega)) n h10
end HDB
def uM109 : Nat := 323519758526442653765592515450834468691971158579190544925380837901312
theorem hW109 {g d f : Nat} {A : hs_A} {T n m : Nat} {D : hg_D} {ro : Nat → Int32} (a1 : Int32) (hT : hTT T) (h3 : A.2.2.2 0 3 = T + 1) (hTn : (A.1 T 4).toInt = (n : Int)) (hC : hdK T D A) (hL : hdL 26 ro n A) (hO : huO ro n) (hD : ∀ t, t < 24 → 0 ≤ D.1 t ∧ D.1 t ≤ 255) (hD2 : 0 ≤ D.2.1 ∧ D.2.1 ≤ 10000) (h70 : (ro 70).toInt ≤ 1000000) (ha : a1.toInt = (m : Int)) (h7m : m ≤ 72) (hH0 : uf_H A) {P : Option Value → hs_A → Prop} (hP : ∀ (r : Option Value) (A' : hs_A), (r = none ∧ ((∀ h, h < n → A'.2.1 344 h = huLs D n ro h m))) → P r A') : hpa (f, g) d none hm_t109 0 [.ref 1, .int a1, .retAddr 0, .retAddr 0] [] A P := by
  have k0 := hk_0
  have k1 := hk_1
  have hT9 : T ≤ 11 := by rcases hT with rfl | rfl <;> omega
  have hn10 := hL.1
  have o70 := hO.2.1
  have cn := hn_c (n := n) (z := Int32.ofNat n) rfl (by omega)
  have U0 : uf_W uM109 A A := uf_W.rfl
  have LL : ∀ f : Nat, (∀ (x21_3 : Value) (x21_2 : Int32) (A21 : hs_A) (k : Nat) (bk : k ≤ m) (ek : x21_2 = Int32.ofNat k) (L33 : hdL 33 (huY D n false (Int32.ofNat 0) k ro) n A21) (SU : ∀ h, h < n → A21.2.1 344 h = huLs D n ro h k) (U21 : uf_W uM109 A A21) (H21 : uf_H A21), hpa (f, g) d none hm_t109 21 [.ref 1, .int a1, .int x21_2, x21_3] [] A21 P) ∧ (∀ (x45_2 : Int32) (x45_3 : Int32) (A45 : hs_A) (k : Nat) (j : Nat) (bk : k ≤ m) (bj : j ≤ n) (ek : x45_2 = Int32.ofNat k) (ej : x45_3 = Int32.ofNat j) (L33 : hdL 33 (huY D n false (Int32.ofNat 0) (k + 1) ro) n A45) (S1 : ∀ h, h < j → A45.2.1 344 h = huLs D n ro h (k + 1)) (S2 : ∀ h, j ≤ h → h < n → A45.2.1 344 h = huLs D n ro h k) (kk : k < m) (U45 : uf_W uM109 A A45) (H45 : uf_H A45), hpa (f, g) d none hm_t109 45 [.ref 1, .int a1, .int x45_2, .int x45_3] [] A45 P) := by
    intro f
    induction f with
    | zero => exact ⟨(by intros; exact hpa.zero), (by intros; exact hpa.zero)⟩
    | succ f ih =>
      obtain ⟨ih21, ih45⟩ := ih
      refine ⟨?_, ?_⟩
      ·
        intro x21_3 x21_2 A21 k bk ek L33 SU U21 H21
        subst ek
        have ck := hn_c (n := k) (z := Int32.ofNat k) rfl (by omega)
        refine hpa_iload_nS (by rfl) rfl ?_
        refine hpa_iload_n (by rfl) rfl ?_
        refine hpj_cge (by rfl) ck rfl (fun q1 => ?_) (fun q1 => ?_)
        ·
          exact hpa_return (by rfl) rfl (hP _ _ ⟨rfl, fun h hh => by rw [SU h hh, show k = m by omega]⟩)
        ·
          refine hpa_aload_n (by rfl) rfl ?_
          refine hpa_get (v := .ref 34) (by rfl) (by rfl) (by rfl) rfl ?_
          refine hpa_aload_n (by rfl) rfl ?_
          have h3wA21 : A21.2.2.2 0 3 = T + 1 := (U21.2.2.2 0 _ _ 3 rfl rfl (by decide +kernel)).trans h3
          refine hpj_getT (by rfl) (by rfl) (by rfl) h3wA21 ?_
          refine hpa_aload_n (by rfl) rfl ?_
          refine hpa_get (v := .ref 324) (by rfl) (by rfl) (by rfl) rfl ?_
          refine hpa_iconst (by rfl) rfl ?_
          refine hpa_iconst (by rfl) rfl ?_
          have hCA21 : hdK T D A21 := hC.uf hT U21 (by decide +kernel)
          have hTnA21 : (A21.1 T 4).toInt = (n : Int) := (congrArg Int32.toInt (hdT4 U21 hT (by decide +kernel))).trans hTn
          refine hpa_call0 (by rfl) (by rfl) (by rfl) (by rfl) (by rfl) (by rfl) (uf_C (X := ug_x136) (j := 136) rfl rfl (ug_L.cons (uf_rk_ok (by decide +kernel)) (ug_L.cons (by rcases hT with rfl | rfl <;> exact uf_rk_ok (by decide +kernel)) (ug_L.cons (uf_rk_ok (by decide +kernel)) (uf_int (uf_int uf_nil))))) H21 (hP26_33 (b := false) (Int32.ofNat 0) (Int32.ofNat 0) hT hCA21 L33 (hO.I (b := false) (s := (Int32.ofNat 0)) hn10 hD hD2 k (by omega)).1 hD hD2 hk_0 hTnA21 H21)) ?_
          rintro _ A2 ⟨⟨rfl, LL_A2⟩, wA2, HA2⟩
          have UA2 := (U21).trans (wA2.le (by decide +kernel : ug_wle ug_x136.2.2.2.1 uM109 = true))
          have DLA2 : hdL 33 (huY D n false (Int32.ofNat 0) (k + 1) ro) n A2 := LL_A2
          have SVA2 : ∀ h, h < n → A2.2.1 344 h = huLs D n ro h k := fun h hh => (wA2.2.1 344 _ _ h rfl (by omega) (by decide +kernel)).trans (SU h hh)
          refine hpa_iconst (by rfl) rfl ?_
          refine hpa_s1 (by rfl) (Or.inl ⟨_, rfl, rfl⟩) rfl ?_
          exact ih45 (Int32.ofNat k) (Int32.ofNat 0) A2 k 0 (by omega) (by omega) rfl rfl DLA2 (fun h hh => absurd hh (Nat.not_lt_zero h)) (fun h _ hh => SVA2 h hh) (by omega) UA2 HA2
      ·
        intro x45_2 x45_3 A45 k j bk bj ek ej L33 S1 S2 kk U45 H45
        subst ek
        have ck := hn_c (n := k) (z := Int32.ofNat k) rfl (by omega)
        subst ej
        have cj := hn_c (n := j) (z := Int32.ofNat j) rfl (by omega)
        refine hpa_iload_nS (by rfl) rfl ?_
        refine hpa_aload_n (by rfl) rfl ?_
        have h3wA45 : A45.2.2.2 0 3 = T + 1 := (U45.2.2.2 0 _ _ 3 rfl rfl (by decide +kernel)).trans h3
        refine hpj_getT (by rfl) (by rfl) (by rfl) h3wA45 ?_
        refine hpj_getK (by rfl) (hsT hT) (by rfl) rfl ?_
        have hTnA45 : (A45.1 T 4).toInt = (n : Int) := (congrArg Int32.toInt (hdT4 U45 hT (by decide +kernel))).trans hTn
        rw [show (A45.1 T 4) = Int32.ofNat n from huI hTnA45 (by omega)]
        refine hpj_cge (by rfl) cj cn (fun q3 => ?_) (fun q3 => ?_)
        ·
          refine hpj_iinc (by rfl) rfl ck hk_1 (by omega) (by omega) (fun _ => rfl) (fun z4 ez4 => ?_)
          refine hpa_goto (by rfl) ?_
          exact ih21 (.int (Int32.ofNat j)) z4 A45 (k + 1) (by omega) (huI (by omega) (by omega)) L33 (fun h hh => S1 h (by omega)) U45 H45
        ·
          refine hpa_aload_n (by rfl) rfl ?_
          refine hpa_get (v := .ref 345) (by rfl) (by rfl) (by rfl) rfl ?_
          refine hpa_iload_n (by rfl) rfl ?_
          refine hpa_dup2IR (by rfl) ?_
          refine hpx_iald (by rfl) (by rfl) (fun h0v5 h1v5 v5 ev5 => ?_)
          rw [show ((Int32.ofNat j)).toNatClampNeg = j from by have := hn_cn (j := (Int32.ofNat j)) (by omega); omega] at ev5
          have lv5 := ev5.symm.trans (show _ = huLs D n ro j k from S2 j (by omega) (by omega))
          clear ev5
          subst lv5
          refine hpa_aload_n (by rfl) rfl ?_
          refine hpa_get (v := .ref 34) (by rfl) (by rfl) (by rfl) rfl ?_
          refine hpa_get (v := .ref 39) (by rfl) (by rfl) (by rfl) rfl ?_
          refine hpa_iload_n (by rfl) rfl ?_
          refine hpx_iald (by rfl) (by rfl) (fun h0v6 h1v6 v6 ev6 => ?_)
          rw [show ((Int32.ofNat j)).toNatClampNeg = j from by have := hn_cn (j := (Int32.ofNat j)) (by omega); omega] at ev6
          have lv6 := ev6.symm.trans ((L33.2.2.2.2 (j) (by omega)).2.2.1)
          clear ev6
          subst lv6
          have OY := (hO.I (b := false) (s := Int32.ofNat 0) hn10 hD hD2 (k + 1) (by omega)).1
          have b30 := (OY.1 j (by omega)).2.2.1
          refine hpa_call2 (by rfl) (by decide) (by rfl) (by rfl) (by rfl) (uf_C (X := ug_x108) (j := 108) rfl rfl (uf_int uf_nil) H45 (hP242 ((huY D n false (Int32.ofNat 0) (k + 1) ro) (30 + j)) (by omega) (by omega))) ?_
          rintro _ _ ⟨⟨rfl, z8, rfl, Z_A7⟩, -, -⟩
          subst Z_A7
          refine hpa_iadd (by rfl) ?_
          refine hpx_iast (by rfl) (by rfl) (fun A9 h0A9 h1A9 eA9 fA9 gA9 => ?_)
          have UA9 := (U45).ar eA9 fA9 gA9 (by decide +kernel)
          have HA9 := (H45).e (congrArg (fun q => q.2) gA9)
          refine hpj_iinc (by rfl) rfl cj hk_1 (by omega) (by omega) (fun _ => rfl) (fun z10 ez10 => ?_)
          refine hpa_goto (by rfl) ?_
          exact ih45 (Int32.ofNat k) z10 A9 k (j + 1) (by omega) (by omega) rfl (huI (by omega) (by omega)) (L33.mv (fun _ _ _ => by rw [eA9]) (fun j a b x _ => by rw [fA9, hup2 (by omega)]) (fun _ _ => rfl)) (fun h hh => by rw [fA9, show ((Int32.ofNat j)).toNatClampNeg = j from by have := hn_cn (j := (Int32.ofNat j)) (by omega); omega]; by_cases q : h = j; (rw [q, hup1]; rfl); rw [hup2 (by omega)]; exact S1 h (by omega)) (fun h h1 hh => by rw [fA9, show ((Int32.ofNat j)).toNatClampNeg = j from by have := hn_cn (j := (Int32.ofNat j)) (by omega); omega, hup2 (by omega)]; exact S2 h (by omega) hh) (by omega) UA9 HA9
  have L21 := fun f => (LL f).1
  have L45 := fun f => (LL f).2
  refine hpa_aload_n (by rfl) rfl ?_
  refine hpa_get (v := .ref 345) (by rfl) (by rfl) (by rfl) rfl ?_
  refine hpa_iconst (by rfl) rfl ?_
  refine hpa_call2 (by rfl) (by decide) (by rfl) (by rfl) (by rfl) (uf_C (X := ug_x194) (j := 194) rfl rfl (ug_L.cons (uf_rk_ok (by decide +kernel)) (uf_int uf_nil)) hH0 (hP246 (m := 256) rfl (by decide) (Int32.ofNat 0))) ?_
  rintro _ A11 ⟨⟨rfl, FR_A11⟩, wA11, HA11⟩
  have UA11 := (U0).trans (wA11.le (by decide +kernel : ug_wle ug_x194.2.2.2.1 uM109 = true))
  refine hpa_aload_n (by rfl) rfl ?_
  refine hpa_get (v := .ref 34) (by rfl) (by rfl) (by rfl) rfl ?_
  refine hpa_aload_n (by rfl) rfl ?_
  refine hpa_get (v := .ref 27) (by rfl) (by rfl) (by rfl) rfl ?_
  have hL26A11 : hdL 26 ro n A11 := hL.uf hLL_26 UA11 (by decide +kernel)
  refine hpa_call0 (by rfl) (by rfl) (by rfl) (by rfl) (by rfl) (by rfl) (uf_C (X := ug_x135) (j := 135) rfl rfl (ug_L.cons (uf_rk_ok (by decide +kernel)) (ug_L.cons (uf_rk_ok (by decide +kernel)) uf_nil)) HA11 (hP17_33 )) ?_
  rintro _ A12 ⟨⟨rfl, CP_A12⟩, wA12, HA12⟩
  have UA12 := (UA11).trans (wA12.le (by decide +kernel : ug_wle ug_x135.2.2.2.1 uM109 = true))
  have SUA12 : ∀ h, h < n → A12.2.1 344 h = huLs D n ro h 0 := fun h hh => (CP_A12.2.2.2.1 344 (by omega) h).trans (FR_A11.2.2.2 h (by omega))
  refine hpa_iconst (by rfl) rfl ?_
  refine hpa_s1 (by rfl) (Or.inl ⟨_, rfl, rfl⟩) rfl ?_
  exact L21 _ (.retAddr 0) (Int32.ofNat 0) A12 0 (by omega) rfl (CP_A12.d hL26A11) SUA12 UA12 HA12
theorem hP109 {g d : Nat} {A : hs_A} {T n m : Nat} {D : hg_D} {ro : Nat → Int32} (a1 : Int32) (hT : hTT T) (h3 : A.2.2.2 0 3 = T + 1) (hTn : (A.1 T 4).toInt = (n : Int)) (hC : hdK T D A) (hL : hdL 26 ro n A) (hO : huO ro n) (hD : ∀ t, t < 24 → 0 ≤ D.1 t ∧ D.1 t ≤ 255) (hD2 : 0 ≤ D.2.1 ∧ D.2.1 ≤ 10000) (h70 : (ro 70).toInt ≤ 1000000) (ha : a1.toInt = (m : Int)) (h7m : m ≤ 72) (hH0 : uf_H A) : hpC g d 109 hm_m109 [.ref 1, .int a1] A (fun r A' => r = none ∧ ((∀ h, h < n → A'.2.1 344 h = huLs D n ro h m))) := hpC.all (fun f d => hW109 a1 hT h3 hTn hC hL hO hD hD2 h70 ha h7m hH0 (fun r A' h => h))
def uM108 : Nat := 323519758526442653765592515450834468691971158579190544925380837901312
theorem hW108 {g d f : Nat} {A : hs_A} {T n : Nat} {D : hg_D} {ro : Nat → Int32} (a1 a2 : Int32) (hT : hTT T) (h3 : A.2.2.2 0 3 = T + 1) (hTn : (A.1 T 4).toInt = (n : Int)) (hC : hdK T D A) (hL : hdL 26 ro n A) (hO : huO ro n) (hD : ∀ t, t < 24 → 0 ≤ D.1 t ∧ D.1 t ≤ 255) (hD2 : 0 ≤ D.2.1 ∧ D.2.1 ≤ 10000) (h70 : (ro 70).toInt ≤ 1000000) (hH0 : uf_H A) {P : Option Value → hs_A → Prop} (hP : ∀ (r : Option Value) (A' : hs_A), (∃ z : Int32, r = some (.int z) ∧ huIf ((1 ≤ a1.toInt ∧ a1.toInt ≤ 72) ∧ 0 ≤ a2.toInt ∧ a2.toInt ≤ 1) (huLd D n ro a1.toNatClampNeg a2) z) → P r A') : hpa (f, g) d (some (.int)) hm_t108 0 [.ref 1, .int a1, .int a2, .retAddr 0, .retAddr 0] [] A P := by
  have k0 := hk_0
  have k1 := hk_1
  have k4294967294 := hk_4294967294
  have k4294967295 := hk_4294967295
  have k72 := hk_72
  have hT9 : T ≤ 11 := by rcases hT with rfl | rfl <;> omega
  have hn10 := hL.1
  have o70 := hO.2.1
  have cn := hn_c (n := n) (z := Int32.ofNat n) rfl (by omega)
  have U0 : uf_W uM108 A A := uf_W.rfl
  have L44 : ∀ (f : Nat) (x44_3 : Int32) (x44_4 : Int32) (A44 : hs_A) (i : Nat) (x44e3 : x44_3 = Int32.ofNat (huMi (fun h => huLs D n ro h a1.toNatClampNeg) i)) (x44e4 : x44_4 = Int32.ofNat (i + 1)) (ii : i < n) (SU : ∀ h, h < n → A44.2.1 344 h = huLs D n ro h a1.toNatClampNeg) (hb1 : 1 ≤ a1.toInt ∧ a1.toInt ≤ 72) (hb2 : 0 ≤ a2.toInt ∧ a2.toInt ≤ 1) (U44 : uf_W uM108 A A44) (H44 : uf_H A44), hpa (f, g) d (some (.int)) hm_t108 44 [.ref 1, .int a1, .int a2, .int x44_3, .int x44_4] [] A44 P := by
    intro f
    induction f with
    | zero => intros; exact hpa.zero
    | succ f ih44 =>
      intro x44_3 x44_4 A44 i x44e3 x44e4 ii SU hb1 hb2 U44 H44
      subst x44e3
      subst x44e4
      have ci := hn_c (n := i + 1) (z := Int32.ofNat (i + 1)) rfl (by omega)
      have lm := huMi_le (f := (fun h => huLs D n ro h a1.toNatClampNeg)) i
      have cm := hn_c (n := huMi (fun h => huLs D n ro h a1.toNatClampNeg) i) (z := Int32.ofNat (huMi (fun h => huLs D n ro h a1.toNatClampNeg) i)) rfl (by omega)
      have c1 := hn_cn (j := a1) (by omega)
      refine hpa_iloadS (by rfl) rfl ?_
      refine hpa_aload_n (by rfl) rfl ?_
      have h3wA44 : A44.2.2.2 0 3 = T + 1 := (U44.2.2.2 0 _ _ 3 rfl rfl (by decide +kernel)).trans h3
      refine hpj_getT (by rfl) (by rfl) (by rfl) h3wA44 ?_
      refine hpj_getK (by rfl) (hsT hT) (by rfl) rfl ?_
      have hTnA44 : (A44.1 T 4).toInt = (n : Int) := (congrArg Int32.toInt (hdT4 U44 hT (by decide +kernel))).trans hTn
      rw [show (A44.1 T 4) = Int32.ofNat n from huI hTnA44 (by omega)]
      refine hpj_cge (by rfl) rfl cn (fun q1 => ?_) (fun q1 => ?_)
      ·
        refine hpa_iload_n (by rfl) rfl ?_
        refine hpj_zne (by rfl) rfl (fun q2 => ?_) (fun q2 => ?_)
        ·
          refine hpa_aload_n (by rfl) rfl ?_
          refine hpa_get (v := .ref 345) (by rfl) (by rfl) (by rfl) rfl ?_
          refine hpa_iload_n (by rfl) rfl ?_
          refine hpx_iald (by rfl) (by rfl) (fun h0v3 h1v3 v3 ev3 => ?_)
          rw [show ((Int32.ofNat (huMi (fun h => huLs D n ro h a1.toNatClampNeg) i))).toNatClampNeg = huMi (fun h => huLs D n ro h a1.toNatClampNeg) i from by have := hn_cn (j := (Int32.ofNat (huMi (fun h => huLs D n ro h a1.toNatClampNeg) i))) (by omega); omega] at ev3
          have lv3 := ev3.symm.trans (show _ = huLs D n ro (huMi (fun h => huLs D n ro h a1.toNatClampNeg) i) a1.toNatClampNeg from SU (huMi (fun h => huLs D n ro h a1.toNatClampNeg) i) (by omega))
          clear ev3
          subst lv3
          exact hpa_ireturn (by rfl) rfl (hP _ _ ⟨_, rfl, Or.inl ⟨⟨⟨by omega, by omega⟩, by omega, by omega⟩, by unfold huLd; rw [if_neg (by omega), if_neg (by omega), show n - 1 = i by omega]⟩⟩)
        ·
          refine hpa_iload_n (by rfl) rfl ?_
          refine hpa_goto (by rfl) ?_
          exact hpa_ireturn (by rfl) rfl (hP _ _ ⟨_, rfl, Or.inl ⟨⟨⟨by omega, by omega⟩, by omega, by omega⟩, by unfold huLd; rw [if_neg (by omega), if_pos (by omega), show n - 1 = i by omega]⟩⟩)
      ·
        refine hpa_aload_n (by rfl) rfl ?_
        refine hpa_get (v := .ref 345) (by rfl) (by rfl) (by rfl) rfl ?_
        refine hpa_iload (by rfl) rfl ?_
        refine hpx_iald (by rfl) (by rfl) (fun h0v4 h1v4 v4 ev4 => ?_)
        rw [show ((Int32.ofNat (i + 1))).toNatClampNeg = i + 1 from by have := hn_cn (j := (Int32.ofNat (i + 1))) (by omega); omega] at ev4
        have lv4 := ev4.symm.trans (show _ = huLs D n ro (i + 1) a1.toNatClampNeg from SU (i + 1) (by omega))
        clear ev4
        subst lv4
        refine hpa_aload_n (by rfl) rfl ?_
        refine hpa_get (v := .ref 345) (by rfl) (by rfl) (by rfl) rfl ?_
        refine hpa_iload_n (by rfl) rfl ?_
        refine hpx_iald (by rfl) (by rfl) (fun h0v5 h1v5 v5 ev5 => ?_)
        rw [show ((Int32.ofNat (huMi (fun h => huLs D n ro h a1.toNatClampNeg) i))).toNatClampNeg = huMi (fun h => huLs D n ro h a1.toNatClampNeg) i from by have := hn_cn (j := (Int32.ofNat (huMi (fun h => huLs D n ro h a1.toNatClampNeg) i))) (by omega); omega] at ev5
        have lv5 := ev5.symm.trans (show _ = huLs D n ro (huMi (fun h => huLs D n ro h a1.toNatClampNeg) i) a1.toNatClampNeg from SU (huMi (fun h => huLs D n ro h a1.toNatClampNeg) i) (by omega))
        clear ev5
        subst lv5
        refine hpj_cle (by rfl) rfl rfl (fun q6 => ?_) (fun q6 => ?_)
        ·
          refine hpj_iinc (by rfl) rfl rfl hk_1 (by omega) (by omega) (fun _ => rfl) (fun z7 ez7 => ?_)
          refine hpa_goto (by rfl) ?_
          exact ih44 (Int32.ofNat (huMi (fun h => huLs D n ro h a1.toNatClampNeg) i)) z7 A44 (i + 1) (by rw [huMi_n (f := (fun h => huLs D n ro h a1.toNatClampNeg)) (show ¬ ((fun h => huLs D n ro h a1.toNatClampNeg) (huMi (fun h => huLs D n ro h a1.toNatClampNeg) i)).toInt < ((fun h => huLs D n ro h a1.toNatClampNeg) (i + 1)).toInt from (by dsimp only; omega))]) (huI (by omega) (by omega)) (by omega) SU (by omega) (by omega) U44 H44
        ·
          refine hpa_iload (by rfl) rfl ?_
          refine hpa_s1 (by rfl) (Or.inl ⟨_, rfl, rfl⟩) rfl ?_
          refine hpj_iinc (by rfl) rfl rfl hk_1 (by omega) (by omega) (fun _ => rfl) (fun z8 ez8 => ?_)
          refine hpa_goto (by rfl) ?_
          exact ih44 (Int32.ofNat (i + 1)) z8 A44 (i + 1) (by rw [huMi_y (f := (fun h => huLs D n ro h a1.toNatClampNeg)) (show ((fun h => huLs D n ro h a1.toNatClampNeg) (huMi (fun h => huLs D n ro h a1.toNatClampNeg) i)).toInt < ((fun h => huLs D n ro h a1.toNatClampNeg) (i + 1)).toInt from (by dsimp only; omega))]) (huI (by omega) (by omega)) (by omega) SU (by omega) (by omega) U44 H44
  refine hpa_iload_n (by rfl) rfl ?_
  refine hpa_iconst (by rfl) rfl ?_
  refine hpa_bipush (by rfl) rfl ?_
  refine hpa_call2 (by rfl) (by decide) (by rfl) (by rfl) (by rfl) (uf_C (X := ug_x100) (j := 100) rfl rfl (uf_int (uf_int (uf_int uf_nil))) hH0 (hP78 a1 (Int32.ofNat 1) (Int32.ofNat 72))) ?_
  rintro _ _ ⟨⟨rfl, z10, rfl, (⟨fz_A9, lo_A9, hi_A9⟩ | ⟨fz_A9, no_A9⟩)⟩, -, -⟩
  ·
    have c1 := hn_cn (j := a1) (by omega)
    refine hpj_zeq (by rfl) rfl (fun q11 => False.elim (by omega)) (fun q11 => ?_)
    refine hpa_iload_n (by rfl) rfl ?_
    refine hpa_iconst (by rfl) rfl ?_
    refine hpa_iconst (by rfl) rfl ?_
    refine hpa_call2 (by rfl) (by decide) (by rfl) (by rfl) (by rfl) (uf_C (X := ug_x100) (j := 100) rfl rfl (uf_int (uf_int (uf_int uf_nil))) hH0 (hP78 a2 (Int32.ofNat 0) (Int32.ofNat 1))) ?_
    rintro _ _ ⟨⟨rfl, z13, rfl, (⟨fz_A12, lo_A12, hi_A12⟩ | ⟨fz_A12, no_A12⟩)⟩, -, -⟩
    ·
      refine hpj_zne (by rfl) rfl (fun q14 => ?_) (fun q14 => False.elim (by omega))
      refine hpa_aload_n (by rfl) rfl ?_
      refine hpj_getT (by rfl) (by rfl) (by rfl) h3 ?_
      refine hpj_getK (by rfl) (hsT hT) (by rfl) rfl ?_
      rw [show (A.1 T 4) = Int32.ofNat n from huI hTn (by omega)]
      refine hpj_zne (by rfl) cn (fun q15 => ?_) (fun q15 => ?_)
      ·
        refine hpa_aload_n (by rfl) rfl ?_
        refine hpa_iload_n (by rfl) rfl ?_
        refine hpa_call0 (by rfl) (by rfl) (by rfl) (by rfl) (by rfl) (by rfl) (uf_C (X := ug_x151) (j := 151) rfl rfl (ug_L.cons (uf_rk_ok (by decide +kernel)) (uf_int uf_nil)) hH0 (hP109 (m := a1.toNatClampNeg) a1 hT h3 hTn hC hL hO hD hD2 h70 (by omega) (by omega) hH0)) ?_
        rintro _ A16 ⟨⟨rfl, SU_A16⟩, wA16, HA16⟩
        have UA16 := (U0).trans (wA16.le (by decide +kernel : ug_wle ug_x151.2.2.2.1 uM108 = true))
        refine hpa_iconst (by rfl) rfl ?_
        refine hpa_s1 (by rfl) (Or.inl ⟨_, rfl, rfl⟩) rfl ?_
        refine hpa_iconst (by rfl) rfl ?_
        refine hpa_s1 (by rfl) (Or.inr ⟨_, rfl, rfl⟩) rfl ?_
        exact L44 _ (Int32.ofNat 0) (Int32.ofNat 1) A16 0 rfl rfl (by omega) SU_A16 (by omega) (by omega) UA16 HA16
      ·
        refine hpa_bipush (by rfl) rfl ?_
        exact hpa_ireturn (by rfl) rfl (hP _ _ ⟨_, rfl, Or.inl ⟨⟨⟨by omega, by omega⟩, by omega, by omega⟩, by unfold huLd; rw [if_pos (by omega)]⟩⟩)
    ·
      refine hpj_zne (by rfl) rfl (fun q17 => False.elim (by omega)) (fun q17 => ?_)
      refine hpa_iconst (by rfl) rfl ?_
      exact hpa_ireturn (by rfl) rfl (hP _ _ ⟨_, rfl, Or.inr ⟨fun p => by omega, rfl⟩⟩)
  ·
    refine hpj_zeq (by rfl) rfl (fun q18 => ?_) (fun q18 => False.elim (by omega))
    refine hpa_iconst (by rfl) rfl ?_
    exact hpa_ireturn (by rfl) rfl (hP _ _ ⟨_, rfl, Or.inr ⟨fun p => by omega, rfl⟩⟩)
theorem hP108 {g d : Nat} {A : hs_A} {T n : Nat} {D : hg_D} {ro : Nat → Int32} (a1 a2 : Int32) (hT : hTT T) (h3 : A.2.2.2 0 3 = T + 1) (hTn : (A.1 T 4).toInt = (n : Int)) (hC : hdK T D A) (hL : hdL 26 ro n A) (hO : huO ro n) (hD : ∀ t, t < 24 → 0 ≤ D.1 t ∧ D.1 t ≤ 255) (hD2 : 0 ≤ D.2.1 ∧ D.2.1 ≤ 10000) (h70 : (ro 70).toInt ≤ 1000000) (hH0 : uf_H A) : hpC g d 108 hm_m108 [.ref 1, .int a1, .int a2] A (fun r A' => ∃ z : Int32, r = some (.int z) ∧ huIf ((1 ≤ a1.toInt ∧ a1.toInt ≤ 72) ∧ 0 ≤ a2.toInt ∧ a2.toInt ≤ 1) (huLd D n ro a1.toNatClampNeg a2) z) := hpC.all (fun f d => hW108 a1 a2 hT h3 hTn hC hL hO hD hD2 h70 hH0 (fun r A' h => h))
def uM219 : Nat := 12433080910244666053884556203670521002511403769933693273105247035019749871316650761912320
theorem hW219 {g d f : Nat} {A : hs_A} {sd n : Nat} {D : hg_D} {ro : Nat → Int32} (a1 a2 : Int32) (hK : hrK sd D A) (hHn : A.2.1 376 sd = Int32.ofNat n) (h10 : n ≤ 10) (hg5 : ∀ k, k < 73 → A.2.1 395 k = ro k) (hO : huO ro n) (hD : ∀ t, t < 24 → 0 ≤ D.1 t ∧ D.1 t ≤ 255) (hD2 : 0 ≤ D.2.1 ∧ D.2.1 ≤ 10000) (hD3 : 0 ≤ D.2.2.1 ∧ D.2.2.1 ≤ 10000) (h70 : (ro 70).toInt ≤ 1000000) (hH0 : uf_H A) {P : Option Value → hs_A → Prop} (hP : ∀ (r : Option Value) (A' : hs_A), (∃ z : Int32, r = some (.int z) ∧ huIf ((1 ≤ a1.toInt ∧ a1.toInt ≤ 72) ∧ 0 ≤ a2.toInt ∧ a2.toInt ≤ 1) (huLd D n ro a1.toNatClampNeg a2) z) → P r A') : hpa (f, g) d (some (.int)) hm_t219 0 [.ref 368, .int a1, .int a2, .retAddr 0, .retAddr 0] [] A P := by
  have k0 := hk_0
  have k1 := hk_1
  have k10 := hk_10
  have k30 := hk_30
  have k4294967294 := hk_4294967294
  have k4294967295 := hk_4294967295
  have k18 := hK.1
  have ksd := hK.2.1
  have cn := hn_c (n := n) (z := Int32.ofNat n) rfl (by omega)
  have o70 := hO.2.1
  have U0 : uf_W uM219 A A := uf_W.rfl
  have LL : ∀ f : Nat, (∀ (x39_3 : Int32) (A39 : hs_A) (k : Nat) (bk : k ≤ 10) (ek : x39_3 = Int32.ofNat k) (ZE : ∀ h, h < k → A39.2.1 405 h = Int32.ofNat 0) (RY : ∀ j, j < 73 → A39.2.1 396 j = ro j) (LS : A39.1 367 47 = (Int32.ofInt D.2.2.1)) (SL : (A39.1 367 48).toInt = 1) (hb1 : 1 ≤ a1.toInt ∧ a1.toInt ≤ 72) (hb2 : 0 ≤ a2.toInt ∧ a2.toInt ≤ 1) (np : 0 < n) (U39 : uf_W uM219 A A39) (H39 : uf_H A39), hpa (f, g) d (some (.int)) hm_t219 39 [.ref 368, .int a1, .int a2, .int x39_3, .retAddr 0] [] A39 P) ∧ (∀ (x60_4 : Value) (x60_3 : Int32) (A60 : hs_A) (k : Nat) (bk : k ≤ 72) (ek : x60_3 = Int32.ofNat k) (RY : ∀ j, j < 73 → A60.2.1 396 j = (huY D n false (Int32.ofInt D.2.2.1) k ro) j) (LS : A60.1 367 47 = (Int32.ofInt D.2.2.1)) (SL : (A60.1 367 48).toInt = 1) (hb1 : 1 ≤ a1.toInt ∧ a1.toInt ≤ 72) (hb2 : 0 ≤ a2.toInt ∧ a2.toInt ≤ 1) (np : 0 < n) (SU : ∀ h, h < n → A60.2.1 405 h = huLs D n ro h k) (kk : (k : Int) ≤ a1.toInt) (U60 : uf_W uM219 A A60) (H60 : uf_H A60), hpa (f, g) d (some (.int)) hm_t219 60 [.ref 368, .int a1, .int a2, .int x60_3, x60_4] [] A60 P) ∧ (∀ (x72_3 : Int32) (x72_4 : Int32) (A72 : hs_A) (k : Nat) (j : Nat) (bk : k ≤ 72) (bj : j ≤ n) (ek : x72_3 = Int32.ofNat k) (ej : x72_4 = Int32.ofNat j) (RY : ∀ j, j < 73 → A72.2.1 396 j = (huY D n false (Int32.ofInt D.2.2.1) (k + 1) ro) j) (RZ : ∀ j, j < 73 → A72.2.1 396 j = (huY D n false (Int32.ofNat 0) (k + 1) ro) j) (LS : A72.1 367 47 = (Int32.ofInt D.2.2.1)) (SL : (A72.1 367 48).toInt = 1) (hb1 : 1 ≤ a1.toInt ∧ a1.toInt ≤ 72) (hb2 : 0 ≤ a2.toInt ∧ a2.toInt ≤ 1) (np : 0 < n) (S1 : ∀ h, h < j → A72.2.1 405 h = huLs D n ro h (k + 1)) (S2 : ∀ h, j ≤ h → h < n → A72.2.1 405 h = huLs D n ro h k) (kk : (k : Int) < a1.toInt) (U72 : uf_W uM219 A A72) (H72 : uf_H A72), hpa (f, g) d (some (.int)) hm_t219 72 [.ref 368, .int a1, .int a2, .int x72_3, .int x72_4] [] A72 P) ∧ (∀ (x126_3 : Int32) (x126_4 : Int32) (A126 : hs_A) (i : Nat) (x126e3 : x126_3 = Int32.ofNat (huMi (fun h => huLs D n ro h a1.toNatClampNeg) i)) (x126e4 : x126_4 = Int32.ofNat (i + 1)) (ii : i < n) (SU : ∀ h, h < n → A126.2.1 405 h = huLs D n ro h a1.toNatClampNeg) (hb1 : 1 ≤ a1.toInt ∧ a1.toInt ≤ 72) (hb2 : 0 ≤ a2.toInt ∧ a2.toInt ≤ 1) (U126 : uf_W uM219 A A126) (H126 : uf_H A126), hpa (f, g) d (some (.int)) hm_t219 126 [.ref 368, .int a1, .int a2, .int x126_3, .int x126_4] [] A126 P) := by
    intro f
    induction f with
    | zero => exact ⟨(by intros; exact hpa.zero), (by intros; exact hpa.zero), (by intros; exact hpa.zero), (by intros; exact hpa.zero)⟩
    | succ f ih =>
      obtain ⟨ih39, ih60, ih72, ih126⟩ := ih
      refine ⟨?_, ?_, ?_, ?_⟩
      ·
        intro x39_3 A39 k bk ek ZE RY LS SL hb1 hb2 np U39 H39
        subst ek
        have ck := hn_c (n := k) (z := Int32.ofNat k) rfl (by omega)
        have c1 := hn_cn (j := a1) (by omega)
        refine hpa_iload_nS (by rfl) rfl ?_
        refine hpa_bipush (by rfl) rfl ?_
        refine hpj_cge (by rfl) ck hk_10 (fun q1 => ?_) (fun q1 => ?_)
        ·
          refine hpa_iconst (by rfl) rfl ?_
          refine hpa_s1 (by rfl) (Or.inl ⟨_, rfl, rfl⟩) rfl ?_
          exact ih60 (.retAddr 0) (Int32.ofNat 0) A39 0 (by omega) rfl RY LS SL (by omega) (by omega) (by omega) (fun h hh => ZE h (by omega)) (by omega) U39 H39
        ·
          refine hpa_aload_n (by rfl) rfl ?_
          refine hpa_get (v := .ref 406) (by rfl) (by rfl) (by rfl) rfl ?_
          refine hpa_iload_n (by rfl) rfl ?_
          refine hpa_iconst (by rfl) rfl ?_
          refine hpx_iast (by rfl) (by rfl) (fun A2 h0A2 h1A2 eA2 fA2 gA2 => ?_)
          have UA2 := (U39).ar eA2 fA2 gA2 (by decide +kernel)
          have HA2 := (H39).e (congrArg (fun q => q.2) gA2)
          refine hpj_iinc (by rfl) rfl ck hk_1 (by omega) (by omega) (fun _ => rfl) (fun z3 ez3 => ?_)
          refine hpa_goto (by rfl) ?_
          exact ih39 z3 A2 (k + 1) (by omega) (huI (by omega) (by omega)) (fun h hh => by rw [fA2, show ((Int32.ofNat k)).toNatClampNeg = k from by have := hn_cn (j := (Int32.ofNat k)) (by omega); omega]; by_cases q : h = k; (rw [q, hup1]); rw [hup2 (by omega)]; exact ZE h (by omega)) (fun j hj => by rw [fA2, hup2 (by omega)]; exact RY j hj) (by rw [eA2]; exact LS) (by rw [eA2]; exact SL) (by omega) (by omega) (by omega) UA2 HA2
      ·
        intro x60_4 x60_3 A60 k bk ek RY LS SL hb1 hb2 np SU kk U60 H60
        subst ek
        have ck := hn_c (n := k) (z := Int32.ofNat k) rfl (by omega)
        have c1 := hn_cn (j := a1) (by omega)
        refine hpa_iload_nS (by rfl) rfl ?_
        refine hpa_iload_n (by rfl) rfl ?_
        refine hpj_cge (by rfl) ck rfl (fun q4 => ?_) (fun q4 => ?_)
        ·
          refine hpa_iconst (by rfl) rfl ?_
          refine hpa_s1 (by rfl) (Or.inl ⟨_, rfl, rfl⟩) rfl ?_
          refine hpa_iconst (by rfl) rfl ?_
          refine hpa_s1 (by rfl) (Or.inr ⟨_, rfl, rfl⟩) rfl ?_
          exact ih126 (Int32.ofNat 0) (Int32.ofNat 1) A60 0 rfl rfl (by omega) (fun h hh => by rw [SU h hh, show k = a1.toNatClampNeg by omega]) (by omega) (by omega) U60 H60
        ·
          refine hpa_aload_n (by rfl) rfl ?_
          have hKA60 : hrK sd D A60 := hK.uf U60 (by decide +kernel)
          have hHnA60 : A60.2.1 376 sd = Int32.ofNat n := (U60.2.1 376 _ _ sd rfl (by have := hK.2.1; omega) (by decide +kernel)).trans hHn
          refine hpa_call0 (by rfl) (by rfl) (by rfl) (by rfl) (by rfl) (by rfl) (uf_C (X := ug_x202) (j := 202) rfl rfl (ug_L.cons (uf_rk_ok (by decide +kernel)) uf_nil) H60 (hP184 (b := false) hKA60 hHnA60 h10 RY (hO.I (b := false) (s := (Int32.ofInt D.2.2.1)) h10 hD hD2 k (by omega)).1 hD hD2 LS SL H60)) ?_
          rintro _ A5 ⟨⟨rfl, RW_A5⟩, wA5, HA5⟩
          have UA5 := (U60).trans (wA5.le (by decide +kernel : ug_wle ug_x202.2.2.2.1 uM219 = true))
          have LSA5 : A5.1 367 47 = (Int32.ofInt D.2.2.1) := (wA5.1 367 _ _ 47 rfl rfl (by decide +kernel)).trans LS
          have SLA5 : (A5.1 367 48).toInt = 1 := (congrArg Int32.toInt (wA5.1 367 _ _ 48 rfl rfl (by decide +kernel))).trans SL
          have RZA5 : ∀ j, j < 73 → A5.2.1 396 j = (huY D n false (Int32.ofNat 0) (k + 1) ro) j := fun j hj => (RW_A5 j hj).trans (congrFun (huY_f (k + 1)) j)
          have SVA5 : ∀ h, h < n → A5.2.1 405 h = huLs D n ro h k := fun h hh => (wA5.2.1 405 _ _ h rfl (by omega) (by decide +kernel)).trans (SU h hh)
          refine hpa_iconst (by rfl) rfl ?_
          refine hpa_s1 (by rfl) (Or.inr ⟨_, rfl, rfl⟩) rfl ?_
          exact ih72 (Int32.ofNat k) (Int32.ofNat 0) A5 k 0 (by omega) (by omega) rfl rfl RW_A5 RZA5 LSA5 SLA5 (by omega) (by omega) (by omega) (fun h hh => absurd hh (Nat.not_lt_zero h)) (fun h _ hh => SVA5 h hh) (by omega) UA5 HA5
      ·
        intro x72_3 x72_4 A72 k j bk bj ek ej RY RZ LS SL hb1 hb2 np S1 S2 kk U72 H72
        subst ek
        have ck := hn_c (n := k) (z := Int32.ofNat k) rfl (by omega)
        subst ej
        have cj := hn_c (n := j) (z := Int32.ofNat j) rfl (by omega)
        have c1 := hn_cn (j := a1) (by omega)
        refine hpa_iloadS (by rfl) rfl ?_
        refine hpa_aload_n (by rfl) rfl ?_
        refine hpa_get (v := .ref 377) (by rfl) (by rfl) (by rfl) rfl ?_
        refine hpa_aload_n (by rfl) rfl ?_
        refine hpj_getK (by rfl) (by rfl) (by rfl) rfl ?_
        have k18A72 : (A72.1 367 18).toInt = (sd : Int) := (congrArg Int32.toInt (U72.1 367 _ _ 18 rfl rfl (by decide +kernel))).trans hK.1
        refine hpx_iald (by rfl) (by rfl) (fun h0v6 h1v6 v6 ev6 => ?_)
        have hHnA72 : A72.2.1 376 sd = Int32.ofNat n := (U72.2.1 376 _ _ sd rfl (by have := hK.2.1; omega) (by decide +kernel)).trans hHn
        rw [show ((A72.1 367 18)).toNatClampNeg = sd from by have := hn_cn (j := (A72.1 367 18)) (by omega); omega, hHnA72] at ev6
        subst ev6
        refine hpj_cge (by rfl) cj cn (fun q7 => ?_) (fun q7 => ?_)
        ·
          refine hpj_iinc (by rfl) rfl ck hk_1 (by omega) (by omega) (fun _ => rfl) (fun z8 ez8 => ?_)
          refine hpa_goto (by rfl) ?_
          exact ih60 (.int (Int32.ofNat j)) z8 A72 (k + 1) (by omega) (huI (by omega) (by omega)) RY LS SL (by omega) (by omega) (by omega) (fun h hh => S1 h (by omega)) (by omega) U72 H72
        ·
          refine hpa_aload_n (by rfl) rfl ?_
          refine hpa_get (v := .ref 406) (by rfl) (by rfl) (by rfl) rfl ?_
          refine hpa_iload (by rfl) rfl ?_
          refine hpa_dup2IR (by rfl) ?_
          refine hpx_iald (by rfl) (by rfl) (fun h0v9 h1v9 v9 ev9 => ?_)
          rw [show ((Int32.ofNat j)).toNatClampNeg = j from by have := hn_cn (j := (Int32.ofNat j)) (by omega); omega] at ev9
          have lv9 := ev9.symm.trans (show _ = huLs D n ro j k from S2 j (by omega) (by omega))
          clear ev9
          subst lv9
          refine hpa_aload_n (by rfl) rfl ?_
          refine hpa_get (v := .ref 397) (by rfl) (by rfl) (by rfl) rfl ?_
          refine hpa_bipush (by rfl) rfl ?_
          refine hpa_iload (by rfl) rfl ?_
          refine hpj_iadd (by rfl) hk_30 cj (by omega) (by omega) (fun z10 ez10 => ?_)
          refine hpx_iald (by rfl) (by rfl) (fun h0v11 h1v11 v11 ev11 => ?_)
          rw [show (z10).toNatClampNeg = 30 + j from by have := hn_cn (j := z10) (by omega); omega] at ev11
          have lv11 := ev11.symm.trans (show _ = (huY D n false (Int32.ofNat 0) (k + 1) ro) (30 + j) from RZ (30 + j) (by omega))
          clear ev11
          subst lv11
          refine hpa_call2 (by rfl) (by decide) (by rfl) (by rfl) (by rfl) (uf_C (X := ug_x126) (j := 126) rfl rfl (uf_int uf_nil) H72 (hP166 ((huY D n false (Int32.ofNat 0) (k + 1) ro) (30 + j)))) ?_
          rintro _ _ ⟨⟨rfl, z13, rfl, Z_A12⟩, -, -⟩
          subst Z_A12
          refine hpa_iadd (by rfl) ?_
          refine hpx_iast (by rfl) (by rfl) (fun A14 h0A14 h1A14 eA14 fA14 gA14 => ?_)
          have UA14 := (U72).ar eA14 fA14 gA14 (by decide +kernel)
          have HA14 := (H72).e (congrArg (fun q => q.2) gA14)
          refine hpj_iinc (by rfl) rfl cj hk_1 (by omega) (by omega) (fun _ => rfl) (fun z15 ez15 => ?_)
          refine hpa_goto (by rfl) ?_
          exact ih72 (Int32.ofNat k) z15 A14 k (j + 1) (by omega) (by omega) rfl (huI (by omega) (by omega)) (fun j hj => by rw [fA14, hup2 (by omega)]; exact RY j hj) (fun j hj => by rw [fA14, hup2 (by omega)]; exact RZ j hj) (by rw [eA14]; exact LS) (by rw [eA14]; exact SL) (by omega) (by omega) (by omega) (fun h hh => by rw [fA14, show ((Int32.ofNat j)).toNatClampNeg = j from by have := hn_cn (j := (Int32.ofNat j)) (by omega); omega]; by_cases q : h = j; (rw [q, hup1]; rfl); rw [hup2 (by omega)]; exact S1 h (by omega)) (fun h h1 hh => by rw [fA14, show ((Int32.ofNat j)).toNatClampNeg = j from by have := hn_cn (j := (Int32.ofNat j)) (by omega); omega, hup2 (by omega)]; exact S2 h (by omega) hh) (by omega) UA14 HA14
      ·
        intro x126_3 x126_4 A126 i x126e3 x126e4 ii SU hb1 hb2 U126 H126
        subst x126e3
        subst x126e4
        have ci := hn_c (n := i + 1) (z := Int32.ofNat (i + 1)) rfl (by omega)
        have lm := huMi_le (f := (fun h => huLs D n ro h a1.toNatClampNeg)) i
        have cm := hn_c (n := huMi (fun h => huLs D n ro h a1.toNatClampNeg) i) (z := Int32.ofNat (huMi (fun h => huLs D n ro h a1.toNatClampNeg) i)) rfl (by omega)
        have c1 := hn_cn (j := a1) (by omega)
        refine hpa_iloadS (by rfl) rfl ?_
        refine hpa_aload_n (by rfl) rfl ?_
        refine hpa_get (v := .ref 377) (by rfl) (by rfl) (by rfl) rfl ?_
        refine hpa_aload_n (by rfl) rfl ?_
        refine hpj_getK (by rfl) (by rfl) (by rfl) rfl ?_
        have k18A126 : (A126.1 367 18).toInt = (sd : Int) := (congrArg Int32.toInt (U126.1 367 _ _ 18 rfl rfl (by decide +kernel))).trans hK.1
        refine hpx_iald (by rfl) (by rfl) (fun h0v16 h1v16 v16 ev16 => ?_)
        have hHnA126 : A126.2.1 376 sd = Int32.ofNat n := (U126.2.1 376 _ _ sd rfl (by have := hK.2.1; omega) (by decide +kernel)).trans hHn
        rw [show ((A126.1 367 18)).toNatClampNeg = sd from by have := hn_cn (j := (A126.1 367 18)) (by omega); omega, hHnA126] at ev16
        subst ev16
        refine hpj_cge (by rfl) rfl cn (fun q17 => ?_) (fun q17 => ?_)
        ·
          refine hpa_iload_n (by rfl) rfl ?_
          refine hpj_zne (by rfl) rfl (fun q18 => ?_) (fun q18 => ?_)
          ·
            refine hpa_aload_n (by rfl) rfl ?_
            refine hpa_get (v := .ref 406) (by rfl) (by rfl) (by rfl) rfl ?_
            refine hpa_iload_n (by rfl) rfl ?_
            refine hpx_iald (by rfl) (by rfl) (fun h0v19 h1v19 v19 ev19 => ?_)
            rw [show ((Int32.ofNat (huMi (fun h => huLs D n ro h a1.toNatClampNeg) i))).toNatClampNeg = huMi (fun h => huLs D n ro h a1.toNatClampNeg) i from by have := hn_cn (j := (Int32.ofNat (huMi (fun h => huLs D n ro h a1.toNatClampNeg) i))) (by omega); omega] at ev19
            have lv19 := ev19.symm.trans (show _ = huLs D n ro (huMi (fun h => huLs D n ro h a1.toNatClampNeg) i) a1.toNatClampNeg from SU (huMi (fun h => huLs D n ro h a1.toNatClampNeg) i) (by omega))
            clear ev19
            subst lv19
            exact hpa_ireturn (by rfl) rfl (hP _ _ ⟨_, rfl, Or.inl ⟨⟨⟨by omega, by omega⟩, by omega, by omega⟩, by unfold huLd; rw [if_neg (by omega), if_neg (by omega), show n - 1 = i by omega]⟩⟩)
          ·
            refine hpa_iload_n (by rfl) rfl ?_
            refine hpa_goto (by rfl) ?_
            exact hpa_ireturn (by rfl) rfl (hP _ _ ⟨_, rfl, Or.inl ⟨⟨⟨by omega, by omega⟩, by omega, by omega⟩, by unfold huLd; rw [if_neg (by omega), if_pos (by omega), show n - 1 = i by omega]⟩⟩)
        ·
          refine hpa_aload_n (by rfl) rfl ?_
          refine hpa_get (v := .ref 406) (by rfl) (by rfl) (by rfl) rfl ?_
          refine hpa_iload (by rfl) rfl ?_
          refine hpx_iald (by rfl) (by rfl) (fun h0v20 h1v20 v20 ev20 => ?_)
          rw [show ((Int32.ofNat (i + 1))).toNatClampNeg = i + 1 from by have := hn_cn (j := (Int32.ofNat (i + 1))) (by omega); omega] at ev20
          have lv20 := ev20.symm.trans (show _ = huLs D n ro (i + 1) a1.toNatClampNeg from SU (i + 1) (by omega))
          clear ev20
          subst lv20
          refine hpa_aload_n (by rfl) rfl ?_
          refine hpa_get (v := .ref 406) (by rfl) (by rfl) (by rfl) rfl ?_
          refine hpa_iload_n (by rfl) rfl ?_
          refine hpx_iald (by rfl) (by rfl) (fun h0v21 h1v21 v21 ev21 => ?_)
          rw [show ((Int32.ofNat (huMi (fun h => huLs D n ro h a1.toNatClampNeg) i))).toNatClampNeg = huMi (fun h => huLs D n ro h a1.toNatClampNeg) i from by have := hn_cn (j := (Int32.ofNat (huMi (fun h => huLs D n ro h a1.toNatClampNeg) i))) (by omega); omega] at ev21
          have lv21 := ev21.symm.trans (show _ = huLs D n ro (huMi (fun h => huLs D n ro h a1.toNatClampNeg) i) a1.toNatClampNeg from SU (huMi (fun h => huLs D n ro h a1.toNatClampNeg) i) (by omega))
          clear ev21
          subst lv21
          refine hpj_cle (by rfl) rfl rfl (fun q22 => ?_) (fun q22 => ?_)
          ·
            refine hpj_iinc (by rfl) rfl rfl hk_1 (by omega) (by omega) (fun _ => rfl) (fun z23 ez23 => ?_)
            refine hpa_goto (by rfl) ?_
            exact ih126 (Int32.ofNat (huMi (fun h => huLs D n ro h a1.toNatClampNeg) i)) z23 A126 (i + 1) (by rw [huMi_n (f := (fun h => huLs D n ro h a1.toNatClampNeg)) (show ¬ ((fun h => huLs D n ro h a1.toNatClampNeg) (huMi (fun h => huLs D n ro h a1.toNatClampNeg) i)).toInt < ((fun h => huLs D n ro h a1.toNatClampNeg) (i + 1)).toInt from (by dsimp only; omega))]) (huI (by omega) (by omega)) (by omega) SU (by omega) (by omega) U126 H126
          ·
            refine hpa_iload (by rfl) rfl ?_
            refine hpa_s1 (by rfl) (Or.inl ⟨_, rfl, rfl⟩) rfl ?_
            refine hpj_iinc (by rfl) rfl rfl hk_1 (by omega) (by omega) (fun _ => rfl) (fun z24 ez24 => ?_)
            refine hpa_goto (by rfl) ?_
            exact ih126 (Int32.ofNat (i + 1)) z24 A126 (i + 1) (by rw [huMi_y (f := (fun h => huLs D n ro h a1.toNatClampNeg)) (show ((fun h => huLs D n ro h a1.toNatClampNeg) (huMi (fun h => huLs D n ro h a1.toNatClampNeg) i)).toInt < ((fun h => huLs D n ro h a1.toNatClampNeg) (i + 1)).toInt from (by dsimp only; omega))]) (huI (by omega) (by omega)) (by omega) SU (by omega) (by omega) U126 H126
  have L39 := fun f => (LL f).1
  have L60 := fun f => (LL f).2.1
  have L72 := fun f => (LL f).2.2.1
  have L126 := fun f => (LL f).2.2.2
  refine hpa_iload_n (by rfl) rfl ?_
  refine hpa_call2 (by rfl) (by decide) (by rfl) (by rfl) (by rfl) (uf_C (X := ug_x103) (j := 103) rfl rfl (uf_int uf_nil) hH0 (hP197 a1)) ?_
  rintro _ _ ⟨⟨rfl, z26, rfl, (⟨fz_A25, HS_A25⟩ | ⟨fz_A25, HS_A25⟩)⟩, -, -⟩
  ·
    have c1 := hn_cn (j := a1) (by omega)
    refine hpj_zeq (by rfl) rfl (fun q27 => False.elim (by omega)) (fun q27 => ?_)
    refine hpa_iload_n (by rfl) rfl ?_
    refine hpa_iconst (by rfl) rfl ?_
    refine hpa_iconst (by rfl) rfl ?_
    refine hpa_call2 (by rfl) (by decide) (by rfl) (by rfl) (by rfl) (uf_C (X := ug_x104) (j := 104) rfl rfl (uf_int (uf_int (uf_int uf_nil))) hH0 (hP164 a2 (Int32.ofNat 0) (Int32.ofNat 1))) ?_
    rintro _ _ ⟨⟨rfl, z29, rfl, (⟨fz_A28, lo_A28, hi_A28⟩ | ⟨fz_A28, no_A28⟩)⟩, -, -⟩
    ·
      refine hpj_zne (by rfl) rfl (fun q30 => ?_) (fun q30 => False.elim (by omega))
      refine hpa_aload_n (by rfl) rfl ?_
      refine hpa_get (v := .ref 377) (by rfl) (by rfl) (by rfl) rfl ?_
      refine hpa_aload_n (by rfl) rfl ?_
      refine hpj_getK (by rfl) (by rfl) (by rfl) rfl ?_
      refine hpx_iald (by rfl) (by rfl) (fun h0v31 h1v31 v31 ev31 => ?_)
      rw [show ((A.1 367 18)).toNatClampNeg = sd from by have := hn_cn (j := (A.1 367 18)) (by omega); omega, hHn] at ev31
      subst ev31
      refine hpj_zne (by rfl) cn (fun q32 => ?_) (fun q32 => ?_)
      ·
        refine hpa_aload_n (by rfl) rfl ?_
        refine hpa_call0 (by rfl) (by rfl) (by rfl) (by rfl) (by rfl) (by rfl) (uf_C (X := ug_x158) (j := 158) rfl rfl (ug_L.cons (uf_rk_ok (by decide +kernel)) uf_nil) hH0 (hP172 hK hH0)) ?_
        rintro _ A33 ⟨⟨rfl, RW_A33, LS_A33, SL_A33⟩, wA33, HA33⟩
        have UA33 := (U0).trans (wA33.le (by decide +kernel : ug_wle ug_x158.2.2.2.1 uM219 = true))
        refine hpa_iconst (by rfl) rfl ?_
        refine hpa_s1 (by rfl) (Or.inl ⟨_, rfl, rfl⟩) rfl ?_
        exact L39 _ (Int32.ofNat 0) A33 0 (by omega) rfl (fun h hh => absurd hh (Nat.not_lt_zero h)) (fun k hk => (RW_A33 k hk).trans (hg5 k hk)) (LS_A33.trans (hrK.seed hK hD3)) (by rw [SL_A33]; exact hk_1) (by omega) (by omega) (by omega) UA33 HA33
      ·
        refine hpa_bipush (by rfl) rfl ?_
        exact hpa_ireturn (by rfl) rfl (hP _ _ ⟨_, rfl, Or.inl ⟨⟨⟨by omega, by omega⟩, by omega, by omega⟩, by unfold huLd; rw [if_pos (by omega)]⟩⟩)
    ·
      refine hpj_zne (by rfl) rfl (fun q34 => False.elim (by omega)) (fun q34 => ?_)
      refine hpa_iconst (by rfl) rfl ?_
      exact hpa_ireturn (by rfl) rfl (hP _ _ ⟨_, rfl, Or.inr ⟨fun p => by omega, rfl⟩⟩)
  ·
    refine hpj_zeq (by rfl) rfl (fun q35 => ?_) (fun q35 => False.elim (by omega))
    refine hpa_iconst (by rfl) rfl ?_
    exact hpa_ireturn (by rfl) rfl (hP _ _ ⟨_, rfl, Or.inr ⟨fun p => by omega, rfl⟩⟩)
theorem hP219 {g d : Nat} {A : hs_A} {sd n : Nat} {D : hg_D} {ro : Nat → Int32} (a1 a2 : Int32) (hK : hrK sd D A) (hHn : A.2.1 376 sd = Int32.ofNat n) (h10 : n ≤ 10) (hg5 : ∀ k, k < 73 → A.2.1 395 k = ro k) (hO : huO ro n) (hD : ∀ t, t < 24 → 0 ≤ D.1 t ∧ D.1 t ≤ 255) (hD2 : 0 ≤ D.2.1 ∧ D.2.1 ≤ 10000) (hD3 : 0 ≤ D.2.2.1 ∧ D.2.2.1 ≤ 10000) (h70 : (ro 70).toInt ≤ 1000000) (hH0 : uf_H A) : hpC g d 219 hm_m219 [.ref 368, .int a1, .int a2] A (fun r A' => ∃ z : Int32, r = some (.int z) ∧ huIf ((1 ≤ a1.toInt ∧ a1.toInt ≤ 72) ∧ 0 ≤ a2.toInt ∧ a2.toInt ≤ 1) (huLd D n ro a1.toNatClampNeg a2) z) := hpC.all (fun f d => hW219 a1 a2 hK hHn h10 hg5 hO hD hD2 hD3 h70 hH0 (fun r A' h => h))
theorem hW25 {g d f : Nat} {A : hs_A} {C a b : Nat} (hC0 : hc_get hs_sh C = some (0, 1, [10])) (a1 a2 : Int32) (ha : a1 = Int32.ofNat a) (hb : a2 = Int32.ofNat b) (ha10 : a < 10) (hb10 : b < 10) {P : Option Value → hs_A → Prop} (hP : ∀ (r : Option Value) (A' : hs_A), (r = none ∧ ((A'.1 = A.1 ∧ A'.2.2 = A.2.2 ∧ (∀ i, ¬ i = C → A'.2.1 i = A.2.1 i) ∧ ∀ x, A'.2.1 C x = if x = a then A.2.1 C b else if x = b then A.2.1 C a else A.2.1 C x))) → P r A') : hpa (f, g) d none hm_t25 0 [.ref (C + 1), .int a1, .int a2, .retAddr 0] [] A P := by
  have ca := hn_c (n := a) (z := Int32.ofNat a) rfl (by omega)
  have cb := hn_c (n := b) (z := Int32.ofNat b) rfl (by omega)
  have ea : a1.toInt = (a : Int) := by rw [ha]; exact ca
  have eb : a2.toInt = (b : Int) := by rw [hb]; exact cb
  refine hpa_aload_n (by rfl) rfl ?_
  refine hpa_iload_n (by rfl) rfl ?_
  refine hpx_iald (by rfl) hC0 (fun h0v1 h1v1 v1 ev1 => ?_)
  rw [show (a1).toNatClampNeg = a from by have := hn_cn (j := a1) (by omega); omega] at ev1
  subst ev1
  refine hpa_s1 (by rfl) (Or.inl ⟨_, rfl, rfl⟩) rfl ?_
  refine hpa_aload_n (by rfl) rfl ?_
  refine hpa_iload_n (by rfl) rfl ?_
  refine hpa_aload_n (by rfl) rfl ?_
  refine hpa_iload_n (by rfl) rfl ?_
  refine hpx_iald (by rfl) hC0 (fun h0v2 h1v2 v2 ev2 => ?_)
  rw [show (a2).toNatClampNeg = b from by have := hn_cn (j := a2) (by omega); omega] at ev2
  subst ev2
  refine hpx_iast (by rfl) hC0 (fun A3 h0A3 h1A3 eA3 fA3 gA3 => ?_)
  rw [show (a1).toNatClampNeg = a from by have := hn_cn (j := a1) (by omega); omega] at fA3
  refine hpa_aload_n (by rfl) rfl ?_
  refine hpa_iload_n (by rfl) rfl ?_
  refine hpa_iload_n (by rfl) rfl ?_
  refine hpx_iast (by rfl) hC0 (fun A4 h0A4 h1A4 eA4 fA4 gA4 => ?_)
  rw [show (a2).toNatClampNeg = b from by have := hn_cn (j := a2) (by omega); omega] at fA4
  exact hpa_return (by rfl) rfl (hP _ _ ⟨rfl, eA4.trans eA3, gA4.trans gA3, fun i hi => by rw [fA4, fA3]; funext y; rw [hup2 (by omega), hup2 (by omega)], fun x => by rw [fA4, fA3]; by_cases p : x = a; (by_cases r : x = b; (rw [if_pos p, r, hup1, show a = b by omega]); rw [if_pos p, hup2 (by omega), p, hup1]); rw [if_neg p]; by_cases r : x = b; (rw [if_pos r, r, hup1]); rw [if_neg r, hup2 (by omega), hup2 (by omega)]⟩)
theorem hP25 {g d : Nat} {A : hs_A} {C a b : Nat} (hC0 : hc_get hs_sh C = some (0, 1, [10])) (a1 a2 : Int32) (ha : a1 = Int32.ofNat a) (hb : a2 = Int32.ofNat b) (ha10 : a < 10) (hb10 : b < 10) : hpC g d 25 hm_m25 [.ref (C + 1), .int a1, .int a2] A (fun r A' => r = none ∧ ((A'.1 = A.1 ∧ A'.2.2 = A.2.2 ∧ (∀ i, ¬ i = C → A'.2.1 i = A.2.1 i) ∧ ∀ x, A'.2.1 C x = if x = a then A.2.1 C b else if x = b then A.2.1 C a else A.2.1 C x))) := hpC.all (fun f d => hW25 hC0 a1 a2 ha hb ha10 hb10 (fun r A' h => h))
theorem hW24_33 {g d f : Nat} {A : hs_A} {ro : Nat → Int32} {n a b : Nat} (a1 a2 : Int32) (ha : a1 = Int32.ofNat a) (hb : a2 = Int32.ofNat b) (ha10 : a < 10) (hb10 : b < 10) (hab : a < n ∧ b < n ∨ a = b) (hL33 : hdL 33 ro n A) {P : Option Value → hs_A → Prop} (hP : ∀ (r : Option Value) (A' : hs_A), (r = none ∧ (hdL 33 (hswr a b ro) n A')) → P r A') : hpa (f, g) d none hm_t24 0 [.ref 34, .int a1, .int a2] [] A P := by
  refine hpa_aload_n (by rfl) rfl ?_
  refine hpa_get (v := .ref 35) (by rfl) (by rfl) (by rfl) rfl ?_
  refine hpa_iload_n (by rfl) rfl ?_
  refine hpa_iload_n (by rfl) rfl ?_
  refine hpa_call2 (by rfl) (by decide) (by rfl) (by rfl) (by rfl) (hP25 rfl a1 a2 ha hb ha10 hb10) ?_
  rintro _ A1 ⟨rfl, CH_A1⟩
  refine hpa_aload_n (by rfl) rfl ?_
  refine hpa_get (v := .ref 36) (by rfl) (by rfl) (by rfl) rfl ?_
  refine hpa_iload_n (by rfl) rfl ?_
  refine hpa_iload_n (by rfl) rfl ?_
  refine hpa_call2 (by rfl) (by decide) (by rfl) (by rfl) (by rfl) (hP25 rfl a1 a2 ha hb ha10 hb10) ?_
  rintro _ A2 ⟨rfl, CH_A2⟩
  refine hpa_aload_n (by rfl) rfl ?_
  refine hpa_get (v := .ref 37) (by rfl) (by rfl) (by rfl) rfl ?_
  refine hpa_iload_n (by rfl) rfl ?_
  refine hpa_iload_n (by rfl) rfl ?_
  refine hpa_call2 (by rfl) (by decide) (by rfl) (by rfl) (by rfl) (hP25 rfl a1 a2 ha hb ha10 hb10) ?_
  rintro _ A3 ⟨rfl, CH_A3⟩
  refine hpa_aload_n (by rfl) rfl ?_
  refine hpa_get (v := .ref 38) (by rfl) (by rfl) (by rfl) rfl ?_
  refine hpa_iload_n (by rfl) rfl ?_
  refine hpa_iload_n (by rfl) rfl ?_
  refine hpa_call2 (by rfl) (by decide) (by rfl) (by rfl) (by rfl) (hP25 rfl a1 a2 ha hb ha10 hb10) ?_
  rintro _ A4 ⟨rfl, CH_A4⟩
  exact hpa_return (by rfl) rfl (hP _ _ ⟨rfl, hL33.swp hab (fun k _ _ => by rw [CH_A4.1, CH_A3.1, CH_A2.1, CH_A1.1]) (fun j a_ b_ x hx => by rcases (by omega : j = 1 ∨ j = 2 ∨ j = 3 ∨ j = 4) with rfl | rfl | rfl | rfl; (show _ = (if x = a then A.2.1 34 b else if x = b then A.2.1 34 a else A.2.1 34 x); show A4.2.1 34 x = _; rw [CH_A4.2.2.1 34 (by omega), CH_A3.2.2.1 34 (by omega), CH_A2.2.2.1 34 (by omega), CH_A1.2.2.2 x]); (show _ = (if x = a then A.2.1 35 b else if x = b then A.2.1 35 a else A.2.1 35 x); show A4.2.1 35 x = _; rw [CH_A4.2.2.1 35 (by omega), CH_A3.2.2.1 35 (by omega), CH_A2.2.2.2 x, CH_A1.2.2.1 35 (by omega)]); (show _ = (if x = a then A.2.1 36 b else if x = b then A.2.1 36 a else A.2.1 36 x); show A4.2.1 36 x = _; rw [CH_A4.2.2.1 36 (by omega), CH_A3.2.2.2 x, CH_A2.2.2.1 36 (by omega), CH_A1.2.2.1 36 (by omega)]); (show _ = (if x = a then A.2.1 37 b else if x = b then A.2.1 37 a else A.2.1 37 x); show A4.2.1 37 x = _; rw [CH_A4.2.2.2 x, CH_A3.2.2.1 37 (by omega), CH_A2.2.2.1 37 (by omega), CH_A1.2.2.1 37 (by omega)])) (fun j a_ b_ x hx => by rcases (by omega : j = 5 ∨ j = 6) with rfl | rfl; (show A4.2.1 38 x = A.2.1 38 x; rw [CH_A4.2.2.1 38 (by omega), CH_A3.2.2.1 38 (by omega), CH_A2.2.2.1 38 (by omega), CH_A1.2.2.1 38 (by omega)]); (show A4.2.1 39 x = A.2.1 39 x; rw [CH_A4.2.2.1 39 (by omega), CH_A3.2.2.1 39 (by omega), CH_A2.2.2.1 39 (by omega), CH_A1.2.2.1 39 (by omega)]))⟩)
theorem hP24_33 {g d : Nat} {A : hs_A} {ro : Nat → Int32} {n a b : Nat} (a1 a2 : Int32) (ha : a1 = Int32.ofNat a) (hb : a2 = Int32.ofNat b) (ha10 : a < 10) (hb10 : b < 10) (hab : a < n ∧ b < n ∨ a = b) (hL33 : hdL 33 ro n A) : hpC g d 24 hm_m24 [.ref 34, .int a1, .int a2] A (fun r A' => r = none ∧ (hdL 33 (hswr a b ro) n A')) := hpC.all (fun f d => hW24_33 a1 a2 ha hb ha10 hb10 hab hL33 (fun r A' h => h))
def uM119 : Nat := 323519758526442653765592515450834468691971158576829361683946015294464
theorem hW119 {g d f : Nat} {A : hs_A} {T n a b : Nat} {D : hg_D} {ro : Nat → Int32} (a1 a2 : Int32) (hT : hTT T) (h3 : A.2.2.2 0 3 = T + 1) (hTn : (A.1 T 4).toInt = (n : Int)) (hC : hdK T D A) (hL : hdL 26 ro n A) (hO : huO ro n) (hD : ∀ t, t < 24 → 0 ≤ D.1 t ∧ D.1 t ≤ 255) (hD2 : 0 ≤ D.2.1 ∧ D.2.1 ≤ 10000) (ha : a1 = Int32.ofNat a) (hb : a2 = Int32.ofNat b) (ha10 : a < 10) (hb10 : b < 10) (hab : a < n ∧ b < n ∨ a = b) (h70 : (ro 70).toInt ≤ 1000000) (hH0 : uf_H A) {P : Option Value → hs_A → Prop} (hP : ∀ (r : Option Value) (A' : hs_A), (∃ z : Int32, r = some (.int z) ∧ z = Int32.ofNat (huCe D n ro a b)) → P r A') : hpa (f, g) d (some (.int)) hm_t119 0 [.ref 1, .int a1, .int a2, .retAddr 0] [] A P := by
  have k0 := hk_0
  have k1 := hk_1
  have k48 := hk_48
  have hT9 : T ≤ 11 := by rcases hT with rfl | rfl <;> omega
  have hn10 := hL.1
  have o70 := hO.2.1
  have hOs := hO.swp hn10 hab
  have s70 : hswr a b ro 70 = ro 70 := hswr_hi (by omega)
  have U0 : uf_W uM119 A A := uf_W.rfl
  have L22 : ∀ (f : Nat) (x22_3 : Int32) (A22 : hs_A) (k : Nat) (bk : k ≤ 48) (ek : x22_3 = Int32.ofNat k) (L33 : hdL 33 (huY D n false (Int32.ofNat 0) k (hswr a b ro)) n A22) (U22 : uf_W uM119 A A22) (H22 : uf_H A22), hpa (f, g) d (some (.int)) hm_t119 22 [.ref 1, .int a1, .int a2, .int x22_3] [] A22 P := by
    intro f
    induction f with
    | zero => intros; exact hpa.zero
    | succ f ih22 =>
      intro x22_3 A22 k bk ek L33 U22 H22
      subst ek
      have ck := hn_c (n := k) (z := Int32.ofNat k) rfl (by omega)
      refine hpa_iload_nS (by rfl) rfl ?_
      refine hpa_bipush (by rfl) rfl ?_
      refine hpj_cge (by rfl) ck hk_48 (fun q1 => ?_) (fun q1 => ?_)
      ·
        refine hpa_aload_n (by rfl) rfl ?_
        refine hpa_get (v := .ref 34) (by rfl) (by rfl) (by rfl) rfl ?_
        refine hpa_call0 (by rfl) (by rfl) (by rfl) (by rfl) (by rfl) (by rfl) (uf_C (X := ug_x153) (j := 153) rfl rfl (ug_L.cons (uf_rk_ok (by decide +kernel)) uf_nil) H22 (hP30_33 (ro := (huY D n false (Int32.ofNat 0) 48 (hswr a b ro))) (by rw [show 48 = k by omega]; exact L33) (hOs.I (b := false) (s := Int32.ofNat 0) hn10 hD hD2 48 (by rw [s70]; omega)).1)) ?_
        rintro _ _ ⟨⟨rfl, z3, rfl, Z_A2⟩, -, -⟩
        subst Z_A2
        refine hpa_call2 (by rfl) (by decide) (by rfl) (by rfl) (by rfl) (uf_C (X := ug_x108) (j := 108) rfl rfl (uf_int uf_nil) H22 (hP242 (Int32.ofNat (huBn (huCn (huY D n false (Int32.ofNat 0) 48 (hswr a b ro))) n)) (huBn_in hn10).1 (huBn_in hn10).2)) ?_
        rintro _ _ ⟨⟨rfl, z5, rfl, Z_A4⟩, -, -⟩
        subst Z_A4
        exact hpa_ireturn (by rfl) rfl (hP _ _ ⟨_, rfl, huB_bn n hn10⟩)
      ·
        refine hpa_aload_n (by rfl) rfl ?_
        refine hpa_get (v := .ref 34) (by rfl) (by rfl) (by rfl) rfl ?_
        refine hpa_aload_n (by rfl) rfl ?_
        have h3wA22 : A22.2.2.2 0 3 = T + 1 := (U22.2.2.2 0 _ _ 3 rfl rfl (by decide +kernel)).trans h3
        refine hpj_getT (by rfl) (by rfl) (by rfl) h3wA22 ?_
        refine hpa_aload_n (by rfl) rfl ?_
        refine hpa_get (v := .ref 324) (by rfl) (by rfl) (by rfl) rfl ?_
        refine hpa_iconst (by rfl) rfl ?_
        refine hpa_iconst (by rfl) rfl ?_
        have hCA22 : hdK T D A22 := hC.uf hT U22 (by decide +kernel)
        have hTnA22 : (A22.1 T 4).toInt = (n : Int) := (congrArg Int32.toInt (hdT4 U22 hT (by decide +kernel))).trans hTn
        refine hpa_call0 (by rfl) (by rfl) (by rfl) (by rfl) (by rfl) (by rfl) (uf_C (X := ug_x136) (j := 136) rfl rfl (ug_L.cons (uf_rk_ok (by decide +kernel)) (ug_L.cons (by rcases hT with rfl | rfl <;> exact uf_rk_ok (by decide +kernel)) (ug_L.cons (uf_rk_ok (by decide +kernel)) (uf_int (uf_int uf_nil))))) H22 (hP26_33 (b := false) (Int32.ofNat 0) (Int32.ofNat 0) hT hCA22 L33 (hOs.I (b := false) (s := Int32.ofNat 0) hn10 hD hD2 k (by rw [s70]; omega)).1 hD hD2 hk_0 hTnA22 H22)) ?_
        rintro _ A6 ⟨⟨rfl, LL_A6⟩, wA6, HA6⟩
        have UA6 := (U22).trans (wA6.le (by decide +kernel : ug_wle ug_x136.2.2.2.1 uM119 = true))
        refine hpj_iinc (by rfl) rfl ck hk_1 (by omega) (by omega) (fun _ => rfl) (fun z7 ez7 => ?_)
        refine hpa_goto (by rfl) ?_
        exact ih22 z7 A6 (k + 1) (by omega) (huI (by omega) (by omega)) LL_A6 UA6 HA6
  refine hpa_aload_n (by rfl) rfl ?_
  refine hpa_get (v := .ref 34) (by rfl) (by rfl) (by rfl) rfl ?_
  refine hpa_aload_n (by rfl) rfl ?_
  refine hpa_get (v := .ref 27) (by rfl) (by rfl) (by rfl) rfl ?_
  refine hpa_call0 (by rfl) (by rfl) (by rfl) (by rfl) (by rfl) (by rfl) (uf_C (X := ug_x135) (j := 135) rfl rfl (ug_L.cons (uf_rk_ok (by decide +kernel)) (ug_L.cons (uf_rk_ok (by decide +kernel)) uf_nil)) hH0 (hP17_33 )) ?_
  rintro _ A8 ⟨⟨rfl, CP_A8⟩, wA8, HA8⟩
  have UA8 := (U0).trans (wA8.le (by decide +kernel : ug_wle ug_x135.2.2.2.1 uM119 = true))
  refine hpa_aload_n (by rfl) rfl ?_
  refine hpa_get (v := .ref 34) (by rfl) (by rfl) (by rfl) rfl ?_
  refine hpa_iload_n (by rfl) rfl ?_
  refine hpa_iload_n (by rfl) rfl ?_
  refine hpa_call0 (by rfl) (by rfl) (by rfl) (by rfl) (by rfl) (by rfl) (uf_C (X := ug_x195) (j := 195) rfl rfl (ug_L.cons (uf_rk_ok (by decide +kernel)) (uf_int (uf_int uf_nil))) HA8 (hP24_33 a1 a2 ha hb ha10 hb10 hab (CP_A8.d hL))) ?_
  rintro _ A9 ⟨⟨rfl, SW_A9⟩, wA9, HA9⟩
  have UA9 := (UA8).trans (wA9.le (by decide +kernel : ug_wle ug_x195.2.2.2.1 uM119 = true))
  refine hpa_iconst (by rfl) rfl ?_
  refine hpa_s1 (by rfl) (Or.inl ⟨_, rfl, rfl⟩) rfl ?_
  exact L22 _ (Int32.ofNat 0) A9 0 (by omega) rfl SW_A9 UA9 HA9
theorem hP119 {g d : Nat} {A : hs_A} {T n a b : Nat} {D : hg_D} {ro : Nat → Int32} (a1 a2 : Int32) (hT : hTT T) (h3 : A.2.2.2 0 3 = T + 1) (hTn : (A.1 T 4).toInt = (n : Int)) (hC : hdK T D A) (hL : hdL 26 ro n A) (hO : huO ro n) (hD : ∀ t, t < 24 → 0 ≤ D.1 t ∧ D.1 t ≤ 255) (hD2 : 0 ≤ D.2.1 ∧ D.2.1 ≤ 10000) (ha : a1 = Int32.ofNat a) (hb : a2 = Int32.ofNat b) (ha10 : a < 10) (hb10 : b < 10) (hab : a < n ∧ b < n ∨ a = b) (h70 : (ro 70).toInt ≤ 1000000) (hH0 : uf_H A) : hpC g d 119 hm_m119 [.ref 1, .int a1, .int a2] A (fun r A' => ∃ z : Int32, r = some (.int z) ∧ z = Int32.ofNat (huCe D n ro a b)) := hpC.all (fun f d => hW119 a1 a2 hT h3 hTn hC hL hO hD hD2 ha hb ha10 hb10 hab h70 hH0 (fun r A' h => h))
def uM118 : Nat := 323519758526442653765592515450834468691971158576829361683946015294464
theorem hW118 {g d f : Nat} {A : hs_A} {T n : Nat} {D : hg_D} {ro : Nat → Int32} (a1 : Int32) (hT : hTT T) (h3 : A.2.2.2 0 3 = T + 1) (hTn : (A.1 T 4).toInt = (n : Int)) (hC : hdK T D A) (hL : hdL 26 ro n A) (hO : huO ro n) (hD : ∀ t, t < 24 → 0 ≤ D.1 t ∧ D.1 t ≤ 255) (hD2 : 0 ≤ D.2.1 ∧ D.2.1 ≤ 10000) (h70 : (ro 70).toInt ≤ 1000000) (hH0 : uf_H A) {P : Option Value → hs_A → Prop} (hP : ∀ (r : Option Value) (A' : hs_A), (∃ z : Int32, r = some (.int z) ∧ huIf (0 ≤ a1.toInt ∧ a1.toInt ≤ 1) (huDr D n ro a1) z) → P r A') : hpa (f, g) d (some (.int)) hm_t118 0 [.ref 1, .int a1, .retAddr 0, .retAddr 0, .retAddr 0, .retAddr 0, .retAddr 0] [] A P := by
  have k0 := hk_0
  have k1 := hk_1
  have k10 := hk_10
  have k4294967294 := hk_4294967294
  have k4294967295 := hk_4294967295
  have hT9 : T ≤ 11 := by rcases hT with rfl | rfl <;> omega
  have hn10 := hL.1
  have o70 := hO.2.1
  have cn := hn_c (n := n) (z := Int32.ofNat n) rfl (by omega)
  have h10n := hn10
  have U0 : uf_W uM118 A A := uf_W.rfl
  have LL : ∀ f : Nat, (∀ (x24_5 : Value) (x24_6 : Value) (x24_4 : Int32) (x24_2 : Int32) (x24_3 : Int32) (A24 : hs_A) (i : Nat) (bi : i ≤ 10) (ei : x24_4 = Int32.ofNat i) (x24e2 : x24_2 = (huDb D n ro i).1) (x24e3 : x24_3 = (huDb D n ro i).2) (ii : i ≤ n) (hb1 : 0 ≤ a1.toInt ∧ a1.toInt ≤ 1) (U24 : uf_W uM118 A A24) (H24 : uf_H A24), hpa (f, g) d (some (.int)) hm_t118 24 [.ref 1, .int a1, .int x24_2, .int x24_3, .int x24_4, x24_5, x24_6] [] A24 P) ∧ (∀ (x42_6 : Value) (x42_4 : Int32) (x42_5 : Int32) (x42_2 : Int32) (x42_3 : Int32) (A42 : hs_A) (i : Nat) (j : Nat) (bi : i ≤ 10) (bj : j ≤ 10) (ei : x42_4 = Int32.ofNat i) (ej : x42_5 = Int32.ofNat j) (x42e2 : x42_2 = (huDi D n ro i j (huDb D n ro i)).1) (x42e3 : x42_3 = (huDi D n ro i j (huDb D n ro i)).2) (ii : i < n) (ij : i < j) (jj : j ≤ n) (hb1 : 0 ≤ a1.toInt ∧ a1.toInt ≤ 1) (U42 : uf_W uM118 A A42) (H42 : uf_H A42), hpa (f, g) d (some (.int)) hm_t118 42 [.ref 1, .int a1, .int x42_2, .int x42_3, .int x42_4, .int x42_5, x42_6] [] A42 P) := by
    intro f
    induction f with
    | zero => exact ⟨(by intros; exact hpa.zero), (by intros; exact hpa.zero)⟩
    | succ f ih =>
      obtain ⟨ih24, ih42⟩ := ih
      refine ⟨?_, ?_⟩
      ·
        intro x24_5 x24_6 x24_4 x24_2 x24_3 A24 i bi ei x24e2 x24e3 ii hb1 U24 H24
        subst ei
        have ci := hn_c (n := i) (z := Int32.ofNat i) rfl (by omega)
        subst x24e2
        subst x24e3
        refine hpa_iloadS (by rfl) rfl ?_
        refine hpa_aload_n (by rfl) rfl ?_
        have h3wA24 : A24.2.2.2 0 3 = T + 1 := (U24.2.2.2 0 _ _ 3 rfl rfl (by decide +kernel)).trans h3
        refine hpj_getT (by rfl) (by rfl) (by rfl) h3wA24 ?_
        refine hpj_getK (by rfl) (hsT hT) (by rfl) rfl ?_
        have hTnA24 : (A24.1 T 4).toInt = (n : Int) := (congrArg Int32.toInt (hdT4 U24 hT (by decide +kernel))).trans hTn
        rw [show (A24.1 T 4) = Int32.ofNat n from huI hTnA24 (by omega)]
        refine hpj_cge (by rfl) ci cn (fun q1 => ?_) (fun q1 => ?_)
        ·
          refine hpa_iload_n (by rfl) rfl ?_
          refine hpj_zeq (by rfl) rfl (fun q2 => ?_) (fun q2 => ?_)
          ·
            refine hpa_iload_n (by rfl) rfl ?_
            refine hpa_goto (by rfl) ?_
            obtain rfl : i = n := by omega
            exact hpa_ireturn (by rfl) rfl (hP _ _ ⟨_, rfl, Or.inl ⟨⟨by omega, by omega⟩, by unfold huDr; rw [if_pos (by omega)]⟩⟩)
          ·
            refine hpa_iload_n (by rfl) rfl ?_
            refine hpa_bipush (by rfl) rfl ?_
            refine hpj_cne (by rfl) rfl hk_4294967294 (fun q3 => ?_) (fun q3 => ?_)
            ·
              refine hpa_iload_n (by rfl) rfl ?_
              obtain rfl : i = n := by omega
              exact hpa_ireturn (by rfl) rfl (hP _ _ ⟨_, rfl, Or.inl ⟨⟨by omega, by omega⟩, by unfold huDr; rw [if_neg (by omega)]⟩⟩)
            ·
              refine hpa_iload_n (by rfl) rfl ?_
              refine hpa_goto (by rfl) ?_
              obtain rfl : i = n := by omega
              exact hpa_ireturn (by rfl) rfl (hP _ _ ⟨_, rfl, Or.inl ⟨⟨by omega, by omega⟩, by unfold huDr; rw [if_pos (by omega)]⟩⟩)
        ·
          refine hpa_iload (by rfl) rfl ?_
          refine hpa_iconst (by rfl) rfl ?_
          refine hpj_iadd (by rfl) ci hk_1 (by omega) (by omega) (fun z4 ez4 => ?_)
          refine hpa_s1 (by rfl) (Or.inr ⟨_, rfl, rfl⟩) rfl ?_
          exact ih42 (x24_6) (Int32.ofNat i) z4 ((huDb D n ro i).1) ((huDb D n ro i).2) A24 i (i + 1) (by omega) (by omega) rfl (huI (by omega) (by omega)) (by rw [huDi_lo (i + 1) (Nat.le_refl _)]) (by rw [huDi_lo (i + 1) (Nat.le_refl _)]) (by omega) (by omega) (by omega) (by omega) U24 H24
      ·
        intro x42_6 x42_4 x42_5 x42_2 x42_3 A42 i j bi bj ei ej x42e2 x42e3 ii ij jj hb1 U42 H42
        subst ei
        have ci := hn_c (n := i) (z := Int32.ofNat i) rfl (by omega)
        subst ej
        have cj := hn_c (n := j) (z := Int32.ofNat j) rfl (by omega)
        subst x42e2
        subst x42e3
        refine hpa_iloadS (by rfl) rfl ?_
        refine hpa_aload_n (by rfl) rfl ?_
        have h3wA42 : A42.2.2.2 0 3 = T + 1 := (U42.2.2.2 0 _ _ 3 rfl rfl (by decide +kernel)).trans h3
        refine hpj_getT (by rfl) (by rfl) (by rfl) h3wA42 ?_
        refine hpj_getK (by rfl) (hsT hT) (by rfl) rfl ?_
        have hTnA42 : (A42.1 T 4).toInt = (n : Int) := (congrArg Int32.toInt (hdT4 U42 hT (by decide +kernel))).trans hTn
        rw [show (A42.1 T 4) = Int32.ofNat n from huI hTnA42 (by omega)]
        refine hpj_cge (by rfl) cj cn (fun q5 => ?_) (fun q5 => ?_)
        ·
          refine hpj_iinc (by rfl) rfl ci hk_1 (by omega) (by omega) (fun _ => rfl) (fun z6 ez6 => ?_)
          refine hpa_goto (by rfl) ?_
          exact ih24 (.int (Int32.ofNat j)) (x42_6) z6 ((huDi D n ro i j (huDb D n ro i)).1) ((huDi D n ro i j (huDb D n ro i)).2) A42 (i + 1) (by omega) (huI (by omega) (by omega)) (by show _ = (huDi D n ro i n (huDb D n ro i)).1; rw [huDi_ex h10n (by omega) (by omega)]) (by show _ = (huDi D n ro i n (huDb D n ro i)).2; rw [huDi_ex h10n (by omega) (by omega)]) (by omega) (by omega) U42 H42
        ·
          refine hpa_iload_n (by rfl) rfl ?_
          refine hpa_aload_n (by rfl) rfl ?_
          refine hpj_getT (by rfl) (by rfl) (by rfl) h3wA42 ?_
          refine hpj_getK (by rfl) (hsT hT) (by rfl) rfl ?_
          rw [show (A42.1 T 4) = Int32.ofNat n from huI hTnA42 (by omega)]
          refine hpj_cge (by rfl) rfl cn (fun q7 => ?_) (fun q7 => ?_)
          ·
            refine hpj_iinc (by rfl) rfl ci hk_1 (by omega) (by omega) (fun _ => rfl) (fun z8 ez8 => ?_)
            refine hpa_goto (by rfl) ?_
            exact ih24 (.int (Int32.ofNat j)) (x42_6) z8 ((huDi D n ro i j (huDb D n ro i)).1) ((huDi D n ro i j (huDb D n ro i)).2) A42 (i + 1) (by omega) (huI (by omega) (by omega)) (by show _ = (huDi D n ro i n (huDb D n ro i)).1; rw [huDi_ex h10n (by omega) (by omega)]) (by show _ = (huDi D n ro i n (huDb D n ro i)).2; rw [huDi_ex h10n (by omega) (by omega)]) (by omega) (by omega) U42 H42
          ·
            refine hpa_aload_n (by rfl) rfl ?_
            refine hpa_iload (by rfl) rfl ?_
            refine hpa_iload (by rfl) rfl ?_
            have hCA42 : hdK T D A42 := hC.uf hT U42 (by decide +kernel)
            have hL26A42 : hdL 26 ro n A42 := hL.uf hLL_26 U42 (by decide +kernel)
            refine hpa_call0 (by rfl) (by rfl) (by rfl) (by rfl) (by rfl) (by rfl) (uf_C (X := ug_x155) (j := 155) rfl rfl (ug_L.cons (uf_rk_ok (by decide +kernel)) (uf_int (uf_int uf_nil))) H42 (hP119 (a := i) (b := j) (Int32.ofNat i) (Int32.ofNat j) hT h3wA42 hTnA42 hCA42 hL26A42 hO hD hD2 rfl rfl (by omega) (by omega) (Or.inl ⟨by omega, by omega⟩) h70 H42)) ?_
            rintro _ A9 ⟨⟨z10, rfl, Z_A9⟩, wA9, HA9⟩
            have UA9 := (U42).trans (wA9.le (by decide +kernel : ug_wle ug_x155.2.2.2.1 uM118 = true))
            subst Z_A9
            have cce := huCe_c (D := D) (ro := ro) hn10 (a := i) (b := j)
            refine hpa_s1 (by rfl) (Or.inr ⟨_, rfl, rfl⟩) rfl ?_
            refine hpa_iload (by rfl) rfl ?_
            refine hpa_iload_n (by rfl) rfl ?_
            refine hpj_cle (by rfl) rfl rfl (fun q11 => ?_) (fun q11 => ?_)
            ·
              refine hpj_iinc (by rfl) rfl cj hk_1 (by omega) (by omega) (fun _ => rfl) (fun z12 ez12 => ?_)
              refine hpa_goto (by rfl) ?_
              exact ih42 (.int (Int32.ofNat (huCe D n ro i j))) (Int32.ofNat i) z12 ((huDi D n ro i j (huDb D n ro i)).1) ((huDi D n ro i j (huDb D n ro i)).2) A9 i (j + 1) (by omega) (by omega) rfl (huI (by omega) (by omega)) (by rw [huDi_n (by omega) (by omega)]) (by rw [huDi_n (by omega) (by omega)]) (by omega) (by omega) (by omega) (by omega) UA9 HA9
            ·
              refine hpa_iload (by rfl) rfl ?_
              refine hpa_s1 (by rfl) (Or.inl ⟨_, rfl, rfl⟩) rfl ?_
              refine hpa_bipush (by rfl) rfl ?_
              refine hpa_iload (by rfl) rfl ?_
              refine hpj_imul (by rfl) hk_10 ci (by omega) (by omega) (fun z13 ez13 => ?_)
              refine hpa_iload (by rfl) rfl ?_
              refine hpj_iadd (by rfl) rfl cj (by omega) (by omega) (fun z14 ez14 => ?_)
              refine hpa_s1 (by rfl) (Or.inl ⟨_, rfl, rfl⟩) rfl ?_
              refine hpj_iinc (by rfl) rfl cj hk_1 (by omega) (by omega) (fun _ => rfl) (fun z15 ez15 => ?_)
              refine hpa_goto (by rfl) ?_
              exact ih42 (.int (Int32.ofNat (huCe D n ro i j))) (Int32.ofNat i) z15 (Int32.ofNat (huCe D n ro i j)) z14 A9 i (j + 1) (by omega) (by omega) rfl (huI (by omega) (by omega)) (by rw [huDi_y (by omega) (by omega)]) (by rw [huDi_y (by omega) (by omega)]; show _ = Int32.ofNat (10 * i + j); exact huI (by omega) (by omega)) (by omega) (by omega) (by omega) (by omega) UA9 HA9
  have L24 := fun f => (LL f).1
  have L42 := fun f => (LL f).2
  refine hpa_iload_n (by rfl) rfl ?_
  refine hpa_iconst (by rfl) rfl ?_
  refine hpa_iconst (by rfl) rfl ?_
  refine hpa_call2 (by rfl) (by decide) (by rfl) (by rfl) (by rfl) (uf_C (X := ug_x100) (j := 100) rfl rfl (uf_int (uf_int (uf_int uf_nil))) hH0 (hP78 a1 (Int32.ofNat 0) (Int32.ofNat 1))) ?_
  rintro _ _ ⟨⟨rfl, z17, rfl, (⟨fz_A16, lo_A16, hi_A16⟩ | ⟨fz_A16, no_A16⟩)⟩, -, -⟩
  ·
    refine hpj_zne (by rfl) rfl (fun q18 => ?_) (fun q18 => False.elim (by omega))
    refine hpa_aload_n (by rfl) rfl ?_
    refine hpa_iconst (by rfl) rfl ?_
    refine hpa_iconst (by rfl) rfl ?_
    refine hpa_call0 (by rfl) (by rfl) (by rfl) (by rfl) (by rfl) (by rfl) (uf_C (X := ug_x155) (j := 155) rfl rfl (ug_L.cons (uf_rk_ok (by decide +kernel)) (uf_int (uf_int uf_nil))) hH0 (hP119 (a := 0) (b := 0) (Int32.ofNat 0) (Int32.ofNat 0) hT h3 hTn hC hL hO hD hD2 rfl rfl (by omega) (by omega) (Or.inr rfl) h70 hH0)) ?_
    rintro _ A19 ⟨⟨z20, rfl, Z_A19⟩, wA19, HA19⟩
    have UA19 := (U0).trans (wA19.le (by decide +kernel : ug_wle ug_x155.2.2.2.1 uM118 = true))
    subst Z_A19
    refine hpa_s1 (by rfl) (Or.inl ⟨_, rfl, rfl⟩) rfl ?_
    refine hpa_bipush (by rfl) rfl ?_
    refine hpa_s1 (by rfl) (Or.inl ⟨_, rfl, rfl⟩) rfl ?_
    refine hpa_iconst (by rfl) rfl ?_
    refine hpa_s1 (by rfl) (Or.inr ⟨_, rfl, rfl⟩) rfl ?_
    exact L24 _ (.retAddr 0) (.retAddr 0) (Int32.ofNat 0) (Int32.ofNat (huCe D n ro 0 0)) (Int32.ofNat 4294967294) A19 0 (by omega) rfl rfl rfl (by omega) (by omega) UA19 HA19
  ·
    refine hpj_zne (by rfl) rfl (fun q21 => False.elim (by omega)) (fun q21 => ?_)
    refine hpa_iconst (by rfl) rfl ?_
    exact hpa_ireturn (by rfl) rfl (hP _ _ ⟨_, rfl, Or.inr ⟨fun p => by omega, rfl⟩⟩)
theorem hP118 {g d : Nat} {A : hs_A} {T n : Nat} {D : hg_D} {ro : Nat → Int32} (a1 : Int32) (hT : hTT T) (h3 : A.2.2.2 0 3 = T + 1) (hTn : (A.1 T 4).toInt = (n : Int)) (hC : hdK T D A) (hL : hdL 26 ro n A) (hO : huO ro n) (hD : ∀ t, t < 24 → 0 ≤ D.1 t ∧ D.1 t ≤ 255) (hD2 : 0 ≤ D.2.1 ∧ D.2.1 ≤ 10000) (h70 : (ro 70).toInt ≤ 1000000) (hH0 : uf_H A) : hpC g d 118 hm_m118 [.ref 1, .int a1] A (fun r A' => ∃ z : Int32, r = some (.int z) ∧ huIf (0 ≤ a1.toInt ∧ a1.toInt ≤ 1) (huDr D n ro a1) z) := hpC.all (fun f d => hW118 a1 hT h3 hTn hC hL hO hD hD2 h70 hH0 (fun r A' h => h))
theorem hW194k {g d f : Nat} {A : hs_A} {ro : Nat → Int32} {a b : Nat} (a1 a2 : Int32) (ha : a1 = Int32.ofNat a) (hb : a2 = Int32.ofNat b) (ha10 : a < 10) (hb10 : b < 10) (hg : ∀ k, k < 73 → A.2.1 396 k = ro k) {P : Option Value → hs_A → Prop} (hP : ∀ (r : Option Value) (A' : hs_A), (r = none ∧ ((∀ k, k < 73 → A'.2.1 396 k = hswr a b ro k))) → P r A') : hpa (f, g) d none hm_t194 0 [.ref 368, .int a1, .int a2, .retAddr 0, .retAddr 0] [] A P := by
  have k0 := hk_0
  have k10 := hk_10
  have k30 := hk_30
  have k50 := hk_50
  have ca := hn_c (n := a) (z := Int32.ofNat a) rfl (by omega)
  have cb := hn_c (n := b) (z := Int32.ofNat b) rfl (by omega)
  have ea : a1.toInt = (a : Int) := by rw [ha]; exact ca
  have eb : a2.toInt = (b : Int) := by rw [hb]; exact cb
  have L2 : ∀ (f : Nat) (x2_4 : Value) (x2_3 : Int32) (A2 : hs_A) (m : Nat) (x2e3 : x2_3 = Int32.ofNat (10 * m)) (mm : m ≤ 5) (RR : ∀ k, k < 73 → A2.2.1 396 k = if k < 10 * m then hswr a b ro k else ro k), hpa (f, g) d none hm_t194 2 [.ref 368, .int a1, .int a2, .int x2_3, x2_4] [] A2 P := by
    intro f
    induction f with
    | zero => intros; exact hpa.zero
    | succ f ih2 =>
      intro x2_4 x2_3 A2 m x2e3 mm RR
      subst x2e3
      have cm3 := hn_c (n := 10 * m) (z := Int32.ofNat (10 * m)) rfl (by omega)
      refine hpa_iload_nS (by rfl) rfl ?_
      refine hpa_bipush (by rfl) rfl ?_
      refine hpj_cge (by rfl) rfl hk_50 (fun q1 => ?_) (fun q1 => ?_)
      ·
        exact hpa_return (by rfl) rfl (hP _ _ ⟨rfl, hswr_k5 (by omega) RR⟩)
      ·
        refine hpa_iload_n (by rfl) rfl ?_
        refine hpa_bipush (by rfl) rfl ?_
        refine hpj_cne (by rfl) rfl hk_30 (fun q2 => ?_) (fun q2 => ?_)
        ·
          refine hpa_aload_n (by rfl) rfl ?_
          refine hpa_get (v := .ref 397) (by rfl) (by rfl) (by rfl) rfl ?_
          refine hpa_iload_n (by rfl) rfl ?_
          refine hpa_iload_n (by rfl) rfl ?_
          refine hpj_iadd (by rfl) rfl rfl (by omega) (by omega) (fun z3 ez3 => ?_)
          refine hpx_iald (by rfl) (by rfl) (fun h0v4 h1v4 v4 ev4 => ?_)
          rw [show (z3).toNatClampNeg = 10 * m + a from by have := hn_cn (j := z3) (by omega); omega] at ev4
          subst ev4
          refine hpa_s1 (by rfl) (Or.inr ⟨_, rfl, rfl⟩) rfl ?_
          refine hpa_aload_n (by rfl) rfl ?_
          refine hpa_get (v := .ref 397) (by rfl) (by rfl) (by rfl) rfl ?_
          refine hpa_iload_n (by rfl) rfl ?_
          refine hpa_iload_n (by rfl) rfl ?_
          refine hpj_iadd (by rfl) rfl rfl (by omega) (by omega) (fun z5 ez5 => ?_)
          refine hpa_aload_n (by rfl) rfl ?_
          refine hpa_get (v := .ref 397) (by rfl) (by rfl) (by rfl) rfl ?_
          refine hpa_iload_n (by rfl) rfl ?_
          refine hpa_iload_n (by rfl) rfl ?_
          refine hpj_iadd (by rfl) rfl rfl (by omega) (by omega) (fun z6 ez6 => ?_)
          refine hpx_iald (by rfl) (by rfl) (fun h0v7 h1v7 v7 ev7 => ?_)
          rw [show (z6).toNatClampNeg = 10 * m + b from by have := hn_cn (j := z6) (by omega); omega] at ev7
          subst ev7
          refine hpx_iast (by rfl) (by rfl) (fun A8 h0A8 h1A8 eA8 fA8 gA8 => ?_)
          rw [show (z5).toNatClampNeg = 10 * m + a from by have := hn_cn (j := z5) (by omega); omega] at fA8
          refine hpa_aload_n (by rfl) rfl ?_
          refine hpa_get (v := .ref 397) (by rfl) (by rfl) (by rfl) rfl ?_
          refine hpa_iload_n (by rfl) rfl ?_
          refine hpa_iload_n (by rfl) rfl ?_
          refine hpj_iadd (by rfl) rfl rfl (by omega) (by omega) (fun z9 ez9 => ?_)
          refine hpa_iload (by rfl) rfl ?_
          refine hpx_iast (by rfl) (by rfl) (fun A10 h0A10 h1A10 eA10 fA10 gA10 => ?_)
          rw [show (z9).toNatClampNeg = 10 * m + b from by have := hn_cn (j := z9) (by omega); omega] at fA10
          refine hpj_iinc (by rfl) rfl rfl hk_10 (by omega) (by omega) (fun _ => rfl) (fun z11 ez11 => ?_)
          refine hpa_goto (by rfl) ?_
          exact ih2 (.int (A2.2.1 396 (10 * m + a))) z11 A10 (m + 1) (huI (by omega) (by omega)) (by omega) (hswr_t ha10 hb10 (by omega) (by omega) RR (fun k hk => by rw [fA10, fA8]; by_cases p : k = 10 * m + a; (by_cases r : k = 10 * m + b; (rw [if_pos p, r, hup1, show 10 * m + a = 10 * m + b by omega]); rw [if_pos p, hup2 (by omega), p, hup1]); rw [if_neg p]; by_cases r : k = 10 * m + b; (rw [if_pos r, r, hup1]); rw [if_neg r, hup2 (by omega), hup2 (by omega)]))
        ·
          refine hpa_goto (by rfl) ?_
          refine hpj_iinc (by rfl) rfl rfl hk_10 (by omega) (by omega) (fun _ => rfl) (fun z12 ez12 => ?_)
          refine hpa_goto (by rfl) ?_
          exact ih2 (x2_4) z12 A2 (m + 1) (huI (by omega) (by omega)) (by omega) (hswr_k3 (by omega) RR)
  refine hpa_iconst (by rfl) rfl ?_
  refine hpa_s1 (by rfl) (Or.inl ⟨_, rfl, rfl⟩) rfl ?_
  exact L2 _ (.retAddr 0) (Int32.ofNat 0) A 0 rfl (by omega) (fun k hk => by rw [if_neg (by omega)]; exact hg k hk)
theorem hP194k {g d : Nat} {A : hs_A} {ro : Nat → Int32} {a b : Nat} (a1 a2 : Int32) (ha : a1 = Int32.ofNat a) (hb : a2 = Int32.ofNat b) (ha10 : a < 10) (hb10 : b < 10) (hg : ∀ k, k < 73 → A.2.1 396 k = ro k) : hpC g d 194 hm_m194 [.ref 368, .int a1, .int a2] A (fun r A' => r = none ∧ ((∀ k, k < 73 → A'.2.1 396 k = hswr a b ro k))) := hpC.all (fun f d => hW194k a1 a2 ha hb ha10 hb10 hg (fun r A' h => h))
def uM229 : Nat := 12433080910244666053884556203670521002511403769933692940798248088790781645364885691826176
theorem hW229 {g d f : Nat} {A : hs_A} {sd n : Nat} {D : hg_D} {ro : Nat → Int32} (a1 : Int32) (hK : hrK sd D A) (hHn : A.2.1 376 sd = Int32.ofNat n) (h10 : n ≤ 10) (hg5 : ∀ k, k < 73 → A.2.1 395 k = ro k) (hO : huO ro n) (hD : ∀ t, t < 24 → 0 ≤ D.1 t ∧ D.1 t ≤ 255) (hD2 : 0 ≤ D.2.1 ∧ D.2.1 ≤ 10000) (hD3 : 0 ≤ D.2.2.1 ∧ D.2.2.1 ≤ 10000) (h70 : (ro 70).toInt ≤ 1000000) (hH0 : uf_H A) {P : Option Value → hs_A → Prop} (hP : ∀ (r : Option Value) (A' : hs_A), (∃ z : Int32, r = some (.int z) ∧ huIf (0 ≤ a1.toInt ∧ a1.toInt ≤ 1) (huDr D n ro a1) z) → P r A') : hpa (f, g) d (some (.int)) hm_t229 0 [.ref 368, .int a1, .retAddr 0, .retAddr 0, .retAddr 0, .retAddr 0] [] A P := by
  have k0 := hk_0
  have k1 := hk_1
  have k10 := hk_10
  have k4294967294 := hk_4294967294
  have k4294967295 := hk_4294967295
  have k48 := hk_48
  have k18 := hK.1
  have ksd := hK.2.1
  have cn := hn_c (n := n) (z := Int32.ofNat n) rfl (by omega)
  have o70 := hO.2.1
  have h10n := h10
  have U0 : uf_W uM229 A A := uf_W.rfl
  have LL : ∀ f : Nat, (∀ (x32_5 : Value) (x32_4 : Int32) (x32_2 : Int32) (x32_3 : Int32) (A32 : hs_A) (i : Nat) (bi : i ≤ 10) (ei : x32_4 = Int32.ofNat i) (x32e2 : x32_2 = (huDb D n ro i).1) (x32e3 : x32_3 = (huDb D n ro i).2) (ii : i ≤ n) (hb1 : 0 ≤ a1.toInt ∧ a1.toInt ≤ 1) (U32 : uf_W uM229 A A32) (H32 : uf_H A32), hpa (f, g) d (some (.int)) hm_t229 32 [.ref 368, .int a1, .int x32_2, .int x32_3, .int x32_4, x32_5] [] A32 P) ∧ (∀ (x52_4 : Int32) (x52_5 : Int32) (x52_2 : Int32) (x52_3 : Int32) (A52 : hs_A) (i : Nat) (j : Nat) (bi : i ≤ 10) (bj : j ≤ 10) (ei : x52_4 = Int32.ofNat i) (ej : x52_5 = Int32.ofNat j) (x52e2 : x52_2 = (huDi D n ro i j (huDb D n ro i)).1) (x52e3 : x52_3 = (huDi D n ro i j (huDb D n ro i)).2) (ii : i < n) (ij : i < j) (jj : j ≤ n) (hb1 : 0 ≤ a1.toInt ∧ a1.toInt ≤ 1) (U52 : uf_W uM229 A A52) (H52 : uf_H A52), hpa (f, g) d (some (.int)) hm_t229 52 [.ref 368, .int a1, .int x52_2, .int x52_3, .int x52_4, .int x52_5] [] A52 P) := by
    intro f
    induction f with
    | zero => exact ⟨(by intros; exact hpa.zero), (by intros; exact hpa.zero)⟩
    | succ f ih =>
      obtain ⟨ih32, ih52⟩ := ih
      refine ⟨?_, ?_⟩
      ·
        intro x32_5 x32_4 x32_2 x32_3 A32 i bi ei x32e2 x32e3 ii hb1 U32 H32
        subst ei
        have ci := hn_c (n := i) (z := Int32.ofNat i) rfl (by omega)
        subst x32e2
        subst x32e3
        refine hpa_iloadS (by rfl) rfl ?_
        refine hpa_aload_n (by rfl) rfl ?_
        refine hpa_get (v := .ref 377) (by rfl) (by rfl) (by rfl) rfl ?_
        refine hpa_aload_n (by rfl) rfl ?_
        refine hpj_getK (by rfl) (by rfl) (by rfl) rfl ?_
        have k18A32 : (A32.1 367 18).toInt = (sd : Int) := (congrArg Int32.toInt (U32.1 367 _ _ 18 rfl rfl (by decide +kernel))).trans hK.1
        refine hpx_iald (by rfl) (by rfl) (fun h0v1 h1v1 v1 ev1 => ?_)
        have hHnA32 : A32.2.1 376 sd = Int32.ofNat n := (U32.2.1 376 _ _ sd rfl (by have := hK.2.1; omega) (by decide +kernel)).trans hHn
        rw [show ((A32.1 367 18)).toNatClampNeg = sd from by have := hn_cn (j := (A32.1 367 18)) (by omega); omega, hHnA32] at ev1
        subst ev1
        refine hpj_cge (by rfl) ci cn (fun q2 => ?_) (fun q2 => ?_)
        ·
          have hp := huDb_p (D := D) (ro := ro) h10 i (by omega)
          unfold huCp at hp
          refine hpa_iload_n (by rfl) rfl ?_
          refine hpj_zlt (by rfl) rfl (fun q3 => ?_) (fun q3 => ?_)
          ·
            refine hpa_iload_n (by rfl) rfl ?_
            refine hpa_goto (by rfl) ?_
            obtain rfl : i = n := by omega
            exact hpa_ireturn (by rfl) rfl (hP _ _ ⟨_, rfl, Or.inl ⟨⟨by omega, by omega⟩, by unfold huDr; rw [if_pos (by omega)]⟩⟩)
          ·
            refine hpa_iload_n (by rfl) rfl ?_
            refine hpj_zne (by rfl) rfl (fun q4 => ?_) (fun q4 => ?_)
            ·
              refine hpa_iload_n (by rfl) rfl ?_
              obtain rfl : i = n := by omega
              exact hpa_ireturn (by rfl) rfl (hP _ _ ⟨_, rfl, Or.inl ⟨⟨by omega, by omega⟩, by unfold huDr; rw [if_neg (by omega)]⟩⟩)
            ·
              refine hpa_iload_n (by rfl) rfl ?_
              refine hpa_goto (by rfl) ?_
              obtain rfl : i = n := by omega
              exact hpa_ireturn (by rfl) rfl (hP _ _ ⟨_, rfl, Or.inl ⟨⟨by omega, by omega⟩, by unfold huDr; rw [if_pos (by omega)]⟩⟩)
        ·
          refine hpa_iload (by rfl) rfl ?_
          refine hpa_iconst (by rfl) rfl ?_
          refine hpj_iadd (by rfl) ci hk_1 (by omega) (by omega) (fun z5 ez5 => ?_)
          refine hpa_s1 (by rfl) (Or.inr ⟨_, rfl, rfl⟩) rfl ?_
          exact ih52 (Int32.ofNat i) z5 ((huDb D n ro i).1) ((huDb D n ro i).2) A32 i (i + 1) (by omega) (by omega) rfl (huI (by omega) (by omega)) (by rw [huDi_lo (i + 1) (Nat.le_refl _)]) (by rw [huDi_lo (i + 1) (Nat.le_refl _)]) (by omega) (by omega) (by omega) (by omega) U32 H32
      ·
        intro x52_4 x52_5 x52_2 x52_3 A52 i j bi bj ei ej x52e2 x52e3 ii ij jj hb1 U52 H52
        subst ei
        have ci := hn_c (n := i) (z := Int32.ofNat i) rfl (by omega)
        subst ej
        have cj := hn_c (n := j) (z := Int32.ofNat j) rfl (by omega)
        subst x52e2
        subst x52e3
        refine hpa_iloadS (by rfl) rfl ?_
        refine hpa_aload_n (by rfl) rfl ?_
        refine hpa_get (v := .ref 377) (by rfl) (by rfl) (by rfl) rfl ?_
        refine hpa_aload_n (by rfl) rfl ?_
        refine hpj_getK (by rfl) (by rfl) (by rfl) rfl ?_
        have k18A52 : (A52.1 367 18).toInt = (sd : Int) := (congrArg Int32.toInt (U52.1 367 _ _ 18 rfl rfl (by decide +kernel))).trans hK.1
        refine hpx_iald (by rfl) (by rfl) (fun h0v6 h1v6 v6 ev6 => ?_)
        have hHnA52 : A52.2.1 376 sd = Int32.ofNat n := (U52.2.1 376 _ _ sd rfl (by have := hK.2.1; omega) (by decide +kernel)).trans hHn
        rw [show ((A52.1 367 18)).toNatClampNeg = sd from by have := hn_cn (j := (A52.1 367 18)) (by omega); omega, hHnA52] at ev6
        subst ev6
        refine hpj_cge (by rfl) cj cn (fun q7 => ?_) (fun q7 => ?_)
        ·
          refine hpj_iinc (by rfl) rfl ci hk_1 (by omega) (by omega) (fun _ => rfl) (fun z8 ez8 => ?_)
          refine hpa_goto (by rfl) ?_
          exact ih32 (.int (Int32.ofNat j)) z8 ((huDi D n ro i j (huDb D n ro i)).1) ((huDi D n ro i j (huDb D n ro i)).2) A52 (i + 1) (by omega) (huI (by omega) (by omega)) (by show _ = (huDi D n ro i n (huDb D n ro i)).1; rw [huDi_ex h10n (by omega) (by omega)]) (by show _ = (huDi D n ro i n (huDb D n ro i)).2; rw [huDi_ex h10n (by omega) (by omega)]) (by omega) (by omega) U52 H52
        ·
          refine hpa_aload_n (by rfl) rfl ?_
          have hKA52 : hrK sd D A52 := hK.uf U52 (by decide +kernel)
          have hg5wA52 : ∀ k, k < 73 → A52.2.1 395 k = ro k := fun k hk => (U52.2.1 395 _ _ k rfl hk (by decide +kernel)).trans (hg5 k hk)
          refine hpa_call0 (by rfl) (by rfl) (by rfl) (by rfl) (by rfl) (by rfl) (uf_C (X := ug_x158) (j := 158) rfl rfl (ug_L.cons (uf_rk_ok (by decide +kernel)) uf_nil) H52 (hP172 hKA52 H52)) ?_
          rintro _ A9 ⟨⟨rfl, RW_A9, LS_A9, SL_A9⟩, wA9, HA9⟩
          have UA9 := (U52).trans (wA9.le (by decide +kernel : ug_wle ug_x158.2.2.2.1 uM229 = true))
          refine hpa_aload_n (by rfl) rfl ?_
          refine hpa_iload (by rfl) rfl ?_
          refine hpa_iload (by rfl) rfl ?_
          refine hpa_call0 (by rfl) (by rfl) (by rfl) (by rfl) (by rfl) (by rfl) (uf_C (X := ug_x204) (j := 204) rfl rfl (ug_L.cons (uf_rk_ok (by decide +kernel)) (uf_int (uf_int uf_nil))) HA9 (hP194k (ro := ro) (a := i) (b := j) (Int32.ofNat i) (Int32.ofNat j) rfl rfl (by omega) (by omega) (fun k hk => (RW_A9 k hk).trans (hg5wA52 k hk)))) ?_
          rintro _ A10 ⟨⟨rfl, SR_A10⟩, wA10, HA10⟩
          have UA10 := (UA9).trans (wA10.le (by decide +kernel : ug_wle ug_x204.2.2.2.1 uM229 = true))
          have LSA10 : A10.1 367 47 = (Int32.ofInt D.2.2.1) := (wA10.1 367 _ _ 47 rfl rfl (by decide +kernel)).trans (LS_A9.trans (hrK.seed hKA52 hD3))
          have SLA10 : (A10.1 367 48).toInt = 1 := (congrArg Int32.toInt (wA10.1 367 _ _ 48 rfl rfl (by decide +kernel))).trans (by rw [SL_A9]; exact hk_1)
          have s70 : hswr i j ro 70 = ro 70 := hswr_hi (by omega)
          have hOs := hO.swp h10 (Or.inl ⟨(by omega : i < n), (by omega : j < n)⟩)
          refine hpa_aload_n (by rfl) rfl ?_
          refine hpa_bipush (by rfl) rfl ?_
          have hKA10 : hrK sd D A10 := hK.uf UA10 (by decide +kernel)
          have hHnA10 : A10.2.1 376 sd = Int32.ofNat n := (UA10.2.1 376 _ _ sd rfl (by have := hK.2.1; omega) (by decide +kernel)).trans hHn
          refine hpa_call0 (by rfl) (by rfl) (by rfl) (by rfl) (by rfl) (by rfl) (uf_C (X := ug_x159) (j := 159) rfl rfl (ug_L.cons (uf_rk_ok (by decide +kernel)) (uf_int uf_nil)) HA10 (hP185 (ro := hswr i j ro) (b := false) (m := 48) (Int32.ofNat 48) hKA10 hHnA10 h10 SR_A10 hOs hD hD2 LSA10 SLA10 hk_48 (by rw [s70]; omega) HA10)) ?_
          rintro _ A11 ⟨⟨rfl, RW_A11⟩, wA11, HA11⟩
          have UA11 := (UA10).trans (wA11.le (by decide +kernel : ug_wle ug_x159.2.2.2.1 uM229 = true))
          have RYA11 : ∀ q, q < 73 → A11.2.1 396 q = (huY D n false (Int32.ofNat 0) 48 (hswr i j ro)) q := fun q hq => (RW_A11 q hq).trans (congrFun (huY_f 48) q)
          refine hpa_aload_n (by rfl) rfl ?_
          have hKA11 : hrK sd D A11 := hK.uf UA11 (by decide +kernel)
          have hHnA11 : A11.2.1 376 sd = Int32.ofNat n := (UA11.2.1 376 _ _ sd rfl (by have := hK.2.1; omega) (by decide +kernel)).trans hHn
          refine hpa_call0 (by rfl) (by rfl) (by rfl) (by rfl) (by rfl) (by rfl) (uf_C (X := ug_x160) (j := 160) rfl rfl (ug_L.cons (uf_rk_ok (by decide +kernel)) uf_nil) HA11 (hP187 (ro := (huY D n false (Int32.ofNat 0) 48 (hswr i j ro))) hKA11 hHnA11 h10 RYA11)) ?_
          rintro _ _ ⟨⟨rfl, z13, rfl, Z_A12⟩, -, -⟩
          subst Z_A12
          rw [show huCt (huCn (huY D n false (Int32.ofNat 0) 48 (hswr i j ro))) n = huCe D n ro i j from rfl]
          have cce := huCe_c (D := D) (ro := ro) h10 (a := i) (b := j)
          refine hpa_iload_n (by rfl) rfl ?_
          refine hpj_cgt (by rfl) rfl rfl (fun q14 => ?_) (fun q14 => ?_)
          ·
            refine hpa_bipush (by rfl) rfl ?_
            refine hpa_iload (by rfl) rfl ?_
            refine hpj_imul (by rfl) hk_10 ci (by omega) (by omega) (fun z15 ez15 => ?_)
            refine hpa_iload (by rfl) rfl ?_
            refine hpj_iadd (by rfl) rfl cj (by omega) (by omega) (fun z16 ez16 => ?_)
            refine hpa_s1 (by rfl) (Or.inl ⟨_, rfl, rfl⟩) rfl ?_
            refine hpa_aload_n (by rfl) rfl ?_
            refine hpa_call0 (by rfl) (by rfl) (by rfl) (by rfl) (by rfl) (by rfl) (uf_C (X := ug_x160) (j := 160) rfl rfl (ug_L.cons (uf_rk_ok (by decide +kernel)) uf_nil) HA11 (hP187 (ro := (huY D n false (Int32.ofNat 0) 48 (hswr i j ro))) hKA11 hHnA11 h10 RYA11)) ?_
            rintro _ _ ⟨⟨rfl, z18, rfl, Z_A17⟩, -, -⟩
            subst Z_A17
            rw [show huCt (huCn (huY D n false (Int32.ofNat 0) 48 (hswr i j ro))) n = huCe D n ro i j from rfl]
            refine hpa_s1 (by rfl) (Or.inl ⟨_, rfl, rfl⟩) rfl ?_
            refine hpj_iinc (by rfl) rfl cj hk_1 (by omega) (by omega) (fun _ => rfl) (fun z19 ez19 => ?_)
            refine hpa_goto (by rfl) ?_
            exact ih52 (Int32.ofNat i) z19 (Int32.ofNat (huCe D n ro i j)) z16 A11 i (j + 1) (by omega) (by omega) rfl (huI (by omega) (by omega)) (by rw [huDi_y (by omega) (by omega)]) (by rw [huDi_y (by omega) (by omega)]; show _ = Int32.ofNat (10 * i + j); exact huI (by omega) (by omega)) (by omega) (by omega) (by omega) (by omega) UA11 HA11
          ·
            refine hpa_goto (by rfl) ?_
            refine hpj_iinc (by rfl) rfl cj hk_1 (by omega) (by omega) (fun _ => rfl) (fun z20 ez20 => ?_)
            refine hpa_goto (by rfl) ?_
            exact ih52 (Int32.ofNat i) z20 ((huDi D n ro i j (huDb D n ro i)).1) ((huDi D n ro i j (huDb D n ro i)).2) A11 i (j + 1) (by omega) (by omega) rfl (huI (by omega) (by omega)) (by rw [huDi_n (by omega) (by omega)]) (by rw [huDi_n (by omega) (by omega)]) (by omega) (by omega) (by omega) (by omega) UA11 HA11
  have L32 := fun f => (LL f).1
  have L52 := fun f => (LL f).2
  refine hpa_iload_n (by rfl) rfl ?_
  refine hpa_iconst (by rfl) rfl ?_
  refine hpa_iconst (by rfl) rfl ?_
  refine hpa_call2 (by rfl) (by decide) (by rfl) (by rfl) (by rfl) (uf_C (X := ug_x104) (j := 104) rfl rfl (uf_int (uf_int (uf_int uf_nil))) hH0 (hP164 a1 (Int32.ofNat 0) (Int32.ofNat 1))) ?_
  rintro _ _ ⟨⟨rfl, z22, rfl, (⟨fz_A21, lo_A21, hi_A21⟩ | ⟨fz_A21, no_A21⟩)⟩, -, -⟩
  ·
    refine hpj_zne (by rfl) rfl (fun q23 => ?_) (fun q23 => False.elim (by omega))
    refine hpa_aload_n (by rfl) rfl ?_
    refine hpa_call0 (by rfl) (by rfl) (by rfl) (by rfl) (by rfl) (by rfl) (uf_C (X := ug_x158) (j := 158) rfl rfl (ug_L.cons (uf_rk_ok (by decide +kernel)) uf_nil) hH0 (hP172 hK hH0)) ?_
    rintro _ A24 ⟨⟨rfl, RW_A24, LS_A24, SL_A24⟩, wA24, HA24⟩
    have UA24 := (U0).trans (wA24.le (by decide +kernel : ug_wle ug_x158.2.2.2.1 uM229 = true))
    refine hpa_aload_n (by rfl) rfl ?_
    refine hpa_bipush (by rfl) rfl ?_
    have hKA24 : hrK sd D A24 := hK.uf UA24 (by decide +kernel)
    have hHnA24 : A24.2.1 376 sd = Int32.ofNat n := (UA24.2.1 376 _ _ sd rfl (by have := hK.2.1; omega) (by decide +kernel)).trans hHn
    refine hpa_call0 (by rfl) (by rfl) (by rfl) (by rfl) (by rfl) (by rfl) (uf_C (X := ug_x159) (j := 159) rfl rfl (ug_L.cons (uf_rk_ok (by decide +kernel)) (uf_int uf_nil)) HA24 (hP185 (b := false) (m := 48) (Int32.ofNat 48) hKA24 hHnA24 h10 (fun k hk => (RW_A24 k hk).trans (hg5 k hk)) hO hD hD2 (LS_A24.trans (hrK.seed hK hD3)) (by rw [SL_A24]; exact hk_1) hk_48 (by omega) HA24)) ?_
    rintro _ A25 ⟨⟨rfl, RW_A25⟩, wA25, HA25⟩
    have UA25 := (UA24).trans (wA25.le (by decide +kernel : ug_wle ug_x159.2.2.2.1 uM229 = true))
    have RYA25 : ∀ j, j < 73 → A25.2.1 396 j = (huY D n false (Int32.ofNat 0) 48 ro) j := fun j hj => (RW_A25 j hj).trans (congrFun (huY_f 48) j)
    refine hpa_aload_n (by rfl) rfl ?_
    have hKA25 : hrK sd D A25 := hK.uf UA25 (by decide +kernel)
    have hHnA25 : A25.2.1 376 sd = Int32.ofNat n := (UA25.2.1 376 _ _ sd rfl (by have := hK.2.1; omega) (by decide +kernel)).trans hHn
    refine hpa_call0 (by rfl) (by rfl) (by rfl) (by rfl) (by rfl) (by rfl) (uf_C (X := ug_x160) (j := 160) rfl rfl (ug_L.cons (uf_rk_ok (by decide +kernel)) uf_nil) HA25 (hP187 (ro := (huY D n false (Int32.ofNat 0) 48 ro)) hKA25 hHnA25 h10 RYA25)) ?_
    rintro _ _ ⟨⟨rfl, z27, rfl, Z_A26⟩, -, -⟩
    subst Z_A26
    rw [← huCe_0 h10]
    refine hpa_s1 (by rfl) (Or.inl ⟨_, rfl, rfl⟩) rfl ?_
    refine hpa_bipush (by rfl) rfl ?_
    refine hpa_s1 (by rfl) (Or.inl ⟨_, rfl, rfl⟩) rfl ?_
    refine hpa_iconst (by rfl) rfl ?_
    refine hpa_s1 (by rfl) (Or.inr ⟨_, rfl, rfl⟩) rfl ?_
    exact L32 _ (.retAddr 0) (Int32.ofNat 0) (Int32.ofNat (huCe D n ro 0 0)) (Int32.ofNat 4294967294) A25 0 (by omega) rfl rfl rfl (by omega) (by omega) UA25 HA25
  ·
    refine hpj_zne (by rfl) rfl (fun q28 => False.elim (by omega)) (fun q28 => ?_)
    refine hpa_iconst (by rfl) rfl ?_
    exact hpa_ireturn (by rfl) rfl (hP _ _ ⟨_, rfl, Or.inr ⟨fun p => by omega, rfl⟩⟩)
theorem hP229 {g d : Nat} {A : hs_A} {sd n : Nat} {D : hg_D} {ro : Nat → Int32} (a1 : Int32) (hK : hrK sd D A) (hHn : A.2.1 376 sd = Int32.ofNat n) (h10 : n ≤ 10) (hg5 : ∀ k, k < 73 → A.2.1 395 k = ro k) (hO : huO ro n) (hD : ∀ t, t < 24 → 0 ≤ D.1 t ∧ D.1 t ≤ 255) (hD2 : 0 ≤ D.2.1 ∧ D.2.1 ≤ 10000) (hD3 : 0 ≤ D.2.2.1 ∧ D.2.2.1 ≤ 10000) (h70 : (ro 70).toInt ≤ 1000000) (hH0 : uf_H A) : hpC g d 229 hm_m229 [.ref 368, .int a1] A (fun r A' => ∃ z : Int32, r = some (.int z) ∧ huIf (0 ≤ a1.toInt ∧ a1.toInt ≤ 1) (huDr D n ro a1) z) := hpC.all (fun f d => hW229 a1 hK hHn h10 hg5 hO hD hD2 hD3 h70 hH0 (fun r A' h => h))
theorem hpr_lives {N : Int} {A : hs_A} (hA : hJ 0 N (N + 72) A A) (hN : N ≤ 800000) (hI : hIC A) (a1 : Int32) : hxC 26 111 hm_m111 [.ref 1, .int a1] A (fun r A1 => ∃ z : Int32, r = some (.int z) ∧ hxC 26 221 hm_m221 [.ref 368, .int a1] A1 (fun r2 A2 => ∃ z2 : Int32, r2 = some (.int z2) ∧ z = z2 ∧ ∃ N' : Int, N' ≤ N + 144 ∧ hJ 0 N' (N' + 72) A2 A2 ∧ hIC A2)) := by
  have lH := hHn.le hA
  obtain ⟨hIB0, hX0⟩ := id hI
  obtain ⟨hN0, hP0, hS0, D, hC0⟩ := id hX0
  obtain ⟨n, hn⟩ : ∃ n : Nat, hHn A = (n : Int) := ⟨(hHn A).toNat, by omega⟩
  have h10 : n ≤ 10 := by omega
  have hN9 : hNw (n : Int) A := by rw [← hn]; exact hN0
  have hL : hdL 26 (A.2.1 395) n A := hN9.1.d h10
  obtain ⟨T, hT, h3, -⟩ := hA.T
  have hTn : (A.1 T 4).toInt = (n : Int) := (congrArg Int32.toInt (hIB0.2.1 T h3)).trans hn
  have hN2 : A.2.1 376 (A.1 367 18).toNatClampNeg = Int32.ofNat n := huI hn (by omega)
  refine hxC.post (hxC.and (g := 0) (hX111 (d := 25) hA a1) (fun g => hP111 a1 hT h3 hTn hL)) ?_
  rintro _ _ ⟨⟨rfl, z1, rfl⟩, A1v, v1, -, z1v, e1, f1⟩
  refine ⟨z1, rfl, ?_⟩
  refine hxC.post (hxC.and (g := 0) (hX221 (d := 25) hA a1) (fun g => hP221 a1 hC0.2.1 hN2 h10 (fun _ _ => rfl))) ?_
  rintro _ _ ⟨⟨rfl, z2, rfl⟩, A2v, v2, -, z2v, e2, f2⟩
  have q1 : z1 = z1v := by injection e1 with e; injection e
  have q2 : z2 = z2v := by injection e2 with e; injection e
  exact ⟨z2, rfl, by rw [q1, q2]; exact huLi_one f1 f2, N + 72, by omega, hJ.mono hA (by omega) (by omega), hI⟩
theorem hpr_needs {N : Int} {A : hs_A} (hA : hJ 0 N (N + 72) A A) (hN : N ≤ 800000) (hI : hIC A) (a1 : Int32) : hxC 26 117 hm_m117 [.ref 1, .int a1] A (fun r A1 => ∃ z : Int32, r = some (.int z) ∧ hxC 26 228 hm_m228 [.ref 368, .int a1] A1 (fun r2 A2 => ∃ z2 : Int32, r2 = some (.int z2) ∧ z = z2 ∧ ∃ N' : Int, N' ≤ N + 144 ∧ hJ 0 N' (N' + 72) A2 A2 ∧ hIC A2)) := by
  have lH := hHn.le hA
  obtain ⟨hIB0, hX0⟩ := id hI
  obtain ⟨hN0, hP0, hS0, D, hC0⟩ := id hX0
  obtain ⟨n, hn⟩ : ∃ n : Nat, hHn A = (n : Int) := ⟨(hHn A).toNat, by omega⟩
  have h10 : n ≤ 10 := by omega
  have hN9 : hNw (n : Int) A := by rw [← hn]; exact hN0
  have hL : hdL 26 (A.2.1 395) n A := hN9.1.d h10
  obtain ⟨T, hT, h3, -⟩ := hA.T
  have hTn : (A.1 T 4).toInt = (n : Int) := (congrArg Int32.toInt (hIB0.2.1 T h3)).trans hn
  have hN2 : A.2.1 376 (A.1 367 18).toNatClampNeg = Int32.ofNat n := huI hn (by omega)
  refine hxC.post (hxC.and (g := 0) (hX117 (d := 24) hA a1) (fun g => hP117 a1 hT h3 hTn hL)) ?_
  rintro _ _ ⟨⟨rfl, z1, rfl⟩, A1v, v1, -, z1v, e1, f1⟩
  refine ⟨z1, rfl, ?_⟩
  refine hxC.post (hxC.and (g := 0) (hX228 (d := 23) hA a1) (fun g => hP228 a1 hC0.2.1 hN2 h10 (fun _ _ => rfl))) ?_
  rintro _ _ ⟨⟨rfl, z2, rfl⟩, A2v, v2, -, z2v, e2, f2⟩
  have q1 : z1 = z1v := by injection e1 with e; injection e
  have q2 : z2 = z2v := by injection e2 with e; injection e
  exact ⟨z2, rfl, by rw [q1, q2]; exact huAt_one f1 f2, N + 72, by omega, hJ.mono hA (by omega) (by omega), hI⟩
theorem hpr_off {N : Int} {A : hs_A} (hA : hJ 0 N (N + 72) A A) (hN : N ≤ 800000) (hI : hIC A) (a1 : Int32) : hxC 26 120 hm_m120 [.ref 1, .int a1] A (fun r A1 => ∃ z : Int32, r = some (.int z) ∧ hxC 26 230 hm_m230 [.ref 368, .int a1] A1 (fun r2 A2 => ∃ z2 : Int32, r2 = some (.int z2) ∧ z = z2 ∧ ∃ N' : Int, N' ≤ N + 144 ∧ hJ 0 N' (N' + 72) A2 A2 ∧ hIC A2)) := by
  have lH := hHn.le hA
  obtain ⟨hIB0, hX0⟩ := id hI
  obtain ⟨hN0, hP0, hS0, D, hC0⟩ := id hX0
  obtain ⟨n, hn⟩ : ∃ n : Nat, hHn A = (n : Int) := ⟨(hHn A).toNat, by omega⟩
  have h10 : n ≤ 10 := by omega
  have hN9 : hNw (n : Int) A := by rw [← hn]; exact hN0
  have hL : hdL 26 (A.2.1 395) n A := hN9.1.d h10
  obtain ⟨T, hT, h3, -⟩ := hA.T
  have hTn : (A.1 T 4).toInt = (n : Int) := (congrArg Int32.toInt (hIB0.2.1 T h3)).trans hn
  have hN2 : A.2.1 376 (A.1 367 18).toNatClampNeg = Int32.ofNat n := huI hn (by omega)
  refine hxC.post (hxC.and (g := 0) (hX120 (d := 24) hA a1) (fun g => hP120 a1 hT h3 hTn hL)) ?_
  rintro _ _ ⟨⟨rfl, z1, rfl⟩, A1v, v1, -, z1v, e1, f1⟩
  refine ⟨z1, rfl, ?_⟩
  refine hxC.post (hxC.and (g := 0) (hX230 (d := 23) hA a1) (fun g => hP230 a1 hC0.2.1 hN2 h10 (fun _ _ => rfl) (fun k hk => hOnb_b01 hL.2.2.2.1 k hk))) ?_
  rintro _ _ ⟨⟨rfl, z2, rfl⟩, A2v, v2, -, z2v, e2, f2⟩
  have q1 : z1 = z1v := by injection e1 with e; injection e
  have q2 : z2 = z2v := by injection e2 with e; injection e
  exact ⟨z2, rfl, by rw [q1, q2]; exact huAt_one f1 f2, N + 72, by omega, hJ.mono hA (by omega) (by omega), hI⟩
theorem hpr_passed {N : Int} {A : hs_A} (hA : hJ 0 N (N + 72) A A) (hN : N ≤ 800000) (hI : hIC A) (a1 : Int32) (a2 : Int32) : hxC 26 81 hm_m81 [.ref 1, .int a1, .int a2] A (fun r A1 => ∃ z : Int32, r = some (.int z) ∧ hxC 26 189 hm_m189 [.ref 368, .int a1, .int a2] A1 (fun r2 A2 => ∃ z2 : Int32, r2 = some (.int z2) ∧ z = z2 ∧ ∃ N' : Int, N' ≤ N + 144 ∧ hJ 0 N' (N' + 72) A2 A2 ∧ hIC A2)) := by
  have bl := hbok.get (hA.1.1 0 1) rfl
  have lH := hHn.le hA
  obtain ⟨hIB0, hX0⟩ := hI
  obtain ⟨hN0, hP0, hS0, D, hC0⟩ := id hX0
  have uH := hIB0.1.1.2.1
  obtain ⟨n, hn⟩ : ∃ n : Nat, hHn A = (n : Int) := ⟨(hHn A).toNat, by omega⟩
  have h10 : n ≤ 10 := by omega
  have hN9 : hNw (n : Int) A := by rw [← hn]; exact hN0
  have hL : hdL 26 (A.2.1 395) n A := hN9.1.d h10
  have hO : huO (A.2.1 395) n := hN9.2
  obtain ⟨T, hT, h3, -⟩ := hA.T
  have hTn : (A.1 T 4).toInt = (n : Int) := (congrArg Int32.toInt (hIB0.2.1 T h3)).trans hn
  refine hxC.post (uf_k81 uH a1 a2 (hxC.and (g := 0) (hX81 (d := 22) hA a1 a2) (fun g => hP81 a1 a2 hT h3 hTn (hC0.1 T h3) hL hO uH))) ?_
  rintro _ A1 ⟨⟨⟨hA1, z1, rfl⟩, A1v, v1, z1v, e1, f1⟩, w1, H1⟩
  refine ⟨z1, rfl, ?_⟩
  have hC1 : hCo D A1 := hC0.uf uH w1 (by decide +kernel) (by decide +kernel) (by decide +kernel)
  have eH1 : hHn A1 = hHn A := hHn.uf w1 (uf_lv hA) (by decide +kernel) (by decide +kernel)
  have hN2 : A1.2.1 376 (A1.1 367 18).toNatClampNeg = Int32.ofNat n := huI (eH1.trans hn) (by omega)
  have e5 : ∀ k, k < 73 → A1.2.1 395 k = A.2.1 395 k := fun k hk => w1.2.1 395 _ _ k rfl hk (by decide +kernel)
  refine hxC.post (uf_k189 H1 a1 a2 (hxC.and (g := 0) (hX189 (d := 21) hA1 (by omega) a1 a2) (fun g => hP189 a1 a2 hC1.2.1 hN2 h10 e5 H1))) ?_
  rintro _ A2 ⟨⟨⟨hA2, z2, rfl⟩, A2v, v2, z2v, e2, f2⟩, w2, H2⟩
  have q1 : z1 = z1v := by injection e1 with e; injection e
  have q2 : z2 = z2v := by injection e2 with e; injection e
  exact ⟨z2, rfl, by rw [q1, q2]; exact huIf_one f1 f2, N + 72, by omega, hJ.mono (hJ.self hA2) (by omega) (by omega), hIB0.q ((w1.le (by decide +kernel : ug_wle uw81 uwB = true)).trans (w2.le (by decide +kernel : ug_wle uw189 uwB = true))) H2 bl.2 (uf_lv hA), hX0.two hA uH H1 w1 w2 (by decide +kernel) (by decide +kernel)⟩
theorem hpr_breakAt {N : Int} {A : hs_A} (hA : hJ 0 N (N + 72) A A) (hN : N ≤ 800000) (hI : hIC A) (a1 : Int32) : hxC 26 106 hm_m106 [.ref 1, .int a1] A (fun r A1 => ∃ z : Int32, r = some (.int z) ∧ hxC 26 218 hm_m218 [.ref 368, .int a1] A1 (fun r2 A2 => ∃ z2 : Int32, r2 = some (.int z2) ∧ z = z2 ∧ ∃ N' : Int, N' ≤ N + 144 ∧ hJ 0 N' (N' + 72) A2 A2 ∧ hIC A2)) := by
  have bl := hbok.get (hA.1.1 0 1) rfl
  have b1 := hbok.get (hA.1.1 40 1) rfl
  have b2 := hbok.get (hA.1.1 40 2) rfl
  have lH := hHn.le hA
  obtain ⟨hIB0, hX0⟩ := id hI
  obtain ⟨hN0, hP0, hS0, D, hC0⟩ := id hX0
  have uH := hIB0.1.1.2.1
  obtain ⟨n, hn⟩ : ∃ n : Nat, hHn A = (n : Int) := ⟨(hHn A).toNat, by omega⟩
  have h10 : n ≤ 10 := by omega
  have hN9 : hNw (n : Int) A := by rw [← hn]; exact hN0
  have hL : hdL 26 (A.2.1 395) n A := hN9.1.d h10
  have hO : huO (A.2.1 395) n := hN9.2
  obtain ⟨T, hT, h3, -⟩ := hA.T
  have hTn : (A.1 T 4).toInt = (n : Int) := (congrArg Int32.toInt (hIB0.2.1 T h3)).trans hn
  have hC := hC0.1 T h3
  have hD := hC0.2.2
  have h70 : (A.2.1 395 70).toInt ≤ 1000000 := by have q70 := hA.2.1.2.1; omega
  refine hxC.post (hxC.and (g := 0) (hX106 (d := 22) hA a1) (fun g => hP106 a1 hT h3 hTn hL)) ?_
  rintro _ _ ⟨⟨rfl, z1, rfl⟩, A1v, v1, -, z1v, e1, f1⟩
  refine ⟨z1, rfl, ?_⟩
  have hA1 := hA
  have H1 := uH
  have hK1 := hC0.2.1
  have hN2 : A.2.1 376 (A.1 367 18).toNatClampNeg = Int32.ofNat n := huI hn (by omega)
  have e5 : ∀ k, k < 73 → A.2.1 395 k = A.2.1 395 k := fun _ _ => rfl
  refine hxC.post (uf_k218 H1 a1 (hxC.and (g := 0) (hX218 (d := 23) hA1 (by omega) a1) (fun g => hP218 a1 hK1 hN2 h10 e5 H1))) ?_
  rintro _ A2 ⟨⟨⟨hA2, z2, rfl⟩, A2v, v2, z2v, e2, f2⟩, w2, H2⟩
  have q1 : z1 = z1v := by injection e1 with e; injection e
  have q2 : z2 = z2v := by injection e2 with e; injection e
  refine ⟨z2, rfl, by rw [q1, q2]; exact huAp_one (fun _ _ => huBr_one) f1 f2, N + 72, by omega, ?_⟩
  exact ⟨hJ.mono (hJ.self hA2) (by omega) (by omega), hIB0.q (w2.le (by decide +kernel : ug_wle uw218 uwB = true)) H2 bl.2 (uf_lv hA), (hX0.uf uH (uf_lv hA) lH.2 b1 b2.2 w2 (by decide +kernel)).1⟩
theorem hpr_house {N : Int} {A : hs_A} (hA : hJ 0 N (N + 72) A A) (hN : N ≤ 800000) (hI : hIC A) (a1 : Int32) (a2 : Int32) : hxC 26 79 hm_m79 [.ref 1, .int a1, .int a2] A (fun r A1 => ∃ z : Int32, r = some (.int z) ∧ hxC 26 188 hm_m188 [.ref 368, .int a1, .int a2] A1 (fun r2 A2 => ∃ z2 : Int32, r2 = some (.int z2) ∧ z = z2 ∧ ∃ N' : Int, N' ≤ N + 144 ∧ hJ 0 N' (N' + 72) A2 A2 ∧ hIC A2)) := by
  have bl := hbok.get (hA.1.1 0 1) rfl
  have b1 := hbok.get (hA.1.1 40 1) rfl
  have b2 := hbok.get (hA.1.1 40 2) rfl
  have lH := hHn.le hA
  obtain ⟨hIB0, hX0⟩ := id hI
  obtain ⟨hN0, hP0, hS0, D, hC0⟩ := id hX0
  have uH := hIB0.1.1.2.1
  obtain ⟨n, hn⟩ : ∃ n : Nat, hHn A = (n : Int) := ⟨(hHn A).toNat, by omega⟩
  have h10 : n ≤ 10 := by omega
  have hN9 : hNw (n : Int) A := by rw [← hn]; exact hN0
  have hL : hdL 26 (A.2.1 395) n A := hN9.1.d h10
  have hO : huO (A.2.1 395) n := hN9.2
  obtain ⟨T, hT, h3, -⟩ := hA.T
  have hTn : (A.1 T 4).toInt = (n : Int) := (congrArg Int32.toInt (hIB0.2.1 T h3)).trans hn
  have hC := hC0.1 T h3
  have hD := hC0.2.2
  have h70 : (A.2.1 395 70).toInt ≤ 1000000 := by have q70 := hA.2.1.2.1; omega
  refine hxC.post (uf_k79 uH a1 a2 (hxC.and (g := 0) (hX79 (d := 22) hA a1 a2) (fun g => hP79 a1 a2 hT h3 hTn hC hL hO uH))) ?_
  rintro _ A1 ⟨⟨⟨hA1, z1, rfl⟩, A1v, v1, z1v, e1, f1⟩, w1, H1⟩
  refine ⟨z1, rfl, ?_⟩
  have hC1 : hCo D A1 := hC0.uf uH w1 (by decide +kernel) (by decide +kernel) (by decide +kernel)
  have hK1 := hC1.2.1
  have eH1 : hHn A1 = hHn A := hHn.uf w1 (uf_lv hA) (by decide +kernel) (by decide +kernel)
  have hN2 : A1.2.1 376 (A1.1 367 18).toNatClampNeg = Int32.ofNat n := huI (eH1.trans hn) (by omega)
  have e5 : ∀ k, k < 73 → A1.2.1 395 k = A.2.1 395 k := fun k hk => w1.2.1 395 _ _ k rfl hk (by decide +kernel)
  refine hxC.post (uf_k188 H1 a1 a2 (hxC.and (g := 0) (hX188 (d := 22) hA1 (by omega) a1 a2) (fun g => hP188 a1 a2 hK1 hN2 h10 e5 H1))) ?_
  rintro _ A2 ⟨⟨⟨hA2, z2, rfl⟩, A2v, v2, z2v, e2, f2⟩, w2, H2⟩
  have q1 : z1 = z1v := by injection e1 with e; injection e
  have q2 : z2 = z2v := by injection e2 with e; injection e
  refine ⟨z2, rfl, by rw [q1, q2]; exact huIf_one f1 f2, N + 72, by omega, ?_⟩
  exact ⟨hJ.mono (hJ.self hA2) (by omega) (by omega), hIB0.q ((w1.le (by decide +kernel : ug_wle uw79 uwB = true)).trans (w2.le (by decide +kernel : ug_wle uw188 uwB = true))) H2 bl.2 (uf_lv hA), hX0.two hA uH H1 w1 w2 (by decide +kernel) (by decide +kernel)⟩
theorem hpr_carryBest {N : Int} {A : hs_A} (hA : hJ 0 N (N + 72) A A) (hN : N ≤ 800000) (hI : hIC A) (a1 : Int32) : hxC 26 116 hm_m116 [.ref 1, .int a1] A (fun r A1 => ∃ z : Int32, r = some (.int z) ∧ hxC 26 227 hm_m227 [.ref 368, .int a1] A1 (fun r2 A2 => ∃ z2 : Int32, r2 = some (.int z2) ∧ z = z2 ∧ ∃ N' : Int, N' ≤ N + 144 ∧ hJ 0 N' (N' + 72) A2 A2 ∧ hIC A2)) := by
  have bl := hbok.get (hA.1.1 0 1) rfl
  have b1 := hbok.get (hA.1.1 40 1) rfl
  have b2 := hbok.get (hA.1.1 40 2) rfl
  have lH := hHn.le hA
  obtain ⟨hIB0, hX0⟩ := id hI
  obtain ⟨hN0, hP0, hS0, D, hC0⟩ := id hX0
  have uH := hIB0.1.1.2.1
  obtain ⟨n, hn⟩ : ∃ n : Nat, hHn A = (n : Int) := ⟨(hHn A).toNat, by omega⟩
  have h10 : n ≤ 10 := by omega
  have hN9 : hNw (n : Int) A := by rw [← hn]; exact hN0
  have hL : hdL 26 (A.2.1 395) n A := hN9.1.d h10
  have hO : huO (A.2.1 395) n := hN9.2
  obtain ⟨T, hT, h3, -⟩ := hA.T
  have hTn : (A.1 T 4).toInt = (n : Int) := (congrArg Int32.toInt (hIB0.2.1 T h3)).trans hn
  have hC := hC0.1 T h3
  have hD := hC0.2.2
  have h70 : (A.2.1 395 70).toInt ≤ 1000000 := by have q70 := hA.2.1.2.1; omega
  refine hxC.post (hxC.and (g := 0) (hX116 (d := 24) hA a1) (fun g => hP116 a1 hT h3 hTn hL hO)) ?_
  rintro _ _ ⟨⟨rfl, z1, rfl⟩, A1v, v1, -, z1v, e1, f1⟩
  refine ⟨z1, rfl, ?_⟩
  have hA1 := hA
  have H1 := uH
  have hK1 := hC0.2.1
  have hN2 : A.2.1 376 (A.1 367 18).toNatClampNeg = Int32.ofNat n := huI hn (by omega)
  have e5 : ∀ k, k < 73 → A.2.1 395 k = A.2.1 395 k := fun _ _ => rfl
  refine hxC.post (hxC.and (g := 0) (hX227 (d := 24) hA1 a1) (fun g => hP227 a1 hK1 hN2 h10 e5 hO)) ?_
  rintro _ _ ⟨⟨rfl, z2, rfl⟩, A2v, v2, -, z2v, e2, f2⟩
  have q1 : z1 = z1v := by injection e1 with e; injection e
  have q2 : z2 = z2v := by injection e2 with e; injection e
  refine ⟨z2, rfl, by rw [q1, q2]; exact huIf_one f1 f2, N + 72, by omega, ?_⟩
  exact ⟨hJ.mono hA (by omega) (by omega), hI⟩
theorem hpr_warm {N : Int} {A : hs_A} (hA : hJ 0 N (N + 72) A A) (hN : N ≤ 800000) (hI : hIC A) (a1 : Int32) : hxC 26 110 hm_m110 [.ref 1, .int a1] A (fun r A1 => ∃ z : Int32, r = some (.int z) ∧ hxC 26 220 hm_m220 [.ref 368, .int a1] A1 (fun r2 A2 => ∃ z2 : Int32, r2 = some (.int z2) ∧ z = z2 ∧ ∃ N' : Int, N' ≤ N + 144 ∧ hJ 0 N' (N' + 72) A2 A2 ∧ hIC A2)) := by
  have bl := hbok.get (hA.1.1 0 1) rfl
  have b1 := hbok.get (hA.1.1 40 1) rfl
  have b2 := hbok.get (hA.1.1 40 2) rfl
  have lH := hHn.le hA
  obtain ⟨hIB0, hX0⟩ := id hI
  obtain ⟨hN0, hP0, hS0, D, hC0⟩ := id hX0
  have uH := hIB0.1.1.2.1
  obtain ⟨n, hn⟩ : ∃ n : Nat, hHn A = (n : Int) := ⟨(hHn A).toNat, by omega⟩
  have h10 : n ≤ 10 := by omega
  have hN9 : hNw (n : Int) A := by rw [← hn]; exact hN0
  have hL : hdL 26 (A.2.1 395) n A := hN9.1.d h10
  have hO : huO (A.2.1 395) n := hN9.2
  obtain ⟨T, hT, h3, -⟩ := hA.T
  have hTn : (A.1 T 4).toInt = (n : Int) := (congrArg Int32.toInt (hIB0.2.1 T h3)).trans hn
  have hC := hC0.1 T h3
  have hD := hC0.2.2
  have h70 : (A.2.1 395 70).toInt ≤ 1000000 := by have q70 := hA.2.1.2.1; omega
  refine hxC.post (uf_k110 uH a1 (hxC.and (g := 0) (hX110 (d := 20) hA a1) (fun g => hP110 a1 hT h3 hTn hC hL hO hD.1 hD.2.1 h70 uH))) ?_
  rintro _ A1 ⟨⟨⟨hA1, z1, rfl⟩, A1v, v1, z1v, e1, f1⟩, w1, H1⟩
  refine ⟨z1, rfl, ?_⟩
  have hC1 : hCo D A1 := hC0.uf uH w1 (by decide +kernel) (by decide +kernel) (by decide +kernel)
  have hK1 := hC1.2.1
  have eH1 : hHn A1 = hHn A := hHn.uf w1 (uf_lv hA) (by decide +kernel) (by decide +kernel)
  have hN2 : A1.2.1 376 (A1.1 367 18).toNatClampNeg = Int32.ofNat n := huI (eH1.trans hn) (by omega)
  have e5 : ∀ k, k < 73 → A1.2.1 395 k = A.2.1 395 k := fun k hk => w1.2.1 395 _ _ k rfl hk (by decide +kernel)
  refine hxC.post (uf_k220 H1 a1 (hxC.and (g := 0) (hX220 (d := 19) hA1 (by omega) a1) (fun g => hP220 a1 hK1 hN2 h10 e5 hO hD.1 hD.2.1 hD.2.2 h70 H1))) ?_
  rintro _ A2 ⟨⟨⟨hA2, z2, rfl⟩, A2v, v2, z2v, e2, f2⟩, w2, H2⟩
  have q1 : z1 = z1v := by injection e1 with e; injection e
  have q2 : z2 = z2v := by injection e2 with e; injection e
  refine ⟨z2, rfl, by rw [q1, q2]; exact huIf_one f1 f2, N + 72, by omega, ?_⟩
  exact ⟨hJ.mono (hJ.self hA2) (by omega) (by omega), hIB0.q ((w1.le (by decide +kernel : ug_wle uw110 uwB = true)).trans (w2.le (by decide +kernel : ug_wle uw220 uwB = true))) H2 bl.2 (uf_lv hA), hX0.two hA uH H1 w1 w2 (by decide +kernel) (by decide +kernel)⟩
theorem hpr_mourn {N : Int} {A : hs_A} (hA : hJ 0 N (N + 72) A A) (hN : N ≤ 800000) (hI : hIC A) (a1 : Int32) : hxC 26 115 hm_m115 [.ref 1, .int a1] A (fun r A1 => ∃ z : Int32, r = some (.int z) ∧ hxC 26 226 hm_m226 [.ref 368, .int a1] A1 (fun r2 A2 => ∃ z2 : Int32, r2 = some (.int z2) ∧ z = z2 ∧ ∃ N' : Int, N' ≤ N + 144 ∧ hJ 0 N' (N' + 72) A2 A2 ∧ hIC A2)) := by
  have bl := hbok.get (hA.1.1 0 1) rfl
  have b1 := hbok.get (hA.1.1 40 1) rfl
  have b2 := hbok.get (hA.1.1 40 2) rfl
  have lH := hHn.le hA
  obtain ⟨hIB0, hX0⟩ := id hI
  obtain ⟨hN0, hP0, hS0, D, hC0⟩ := id hX0
  have uH := hIB0.1.1.2.1
  obtain ⟨n, hn⟩ : ∃ n : Nat, hHn A = (n : Int) := ⟨(hHn A).toNat, by omega⟩
  have h10 : n ≤ 10 := by omega
  have hN9 : hNw (n : Int) A := by rw [← hn]; exact hN0
  have hL : hdL 26 (A.2.1 395) n A := hN9.1.d h10
  have hO : huO (A.2.1 395) n := hN9.2
  obtain ⟨T, hT, h3, -⟩ := hA.T
  have hTn : (A.1 T 4).toInt = (n : Int) := (congrArg Int32.toInt (hIB0.2.1 T h3)).trans hn
  have hC := hC0.1 T h3
  have hD := hC0.2.2
  have h70 : (A.2.1 395 70).toInt ≤ 1000000 := by have q70 := hA.2.1.2.1; omega
  refine hxC.post (uf_k115 uH a1 (hxC.and (g := 0) (hX115 (d := 20) hA a1) (fun g => hP115 a1 hT h3 hTn hC hL hO hD.1 hD.2.1 hD.2.2 h70 uH))) ?_
  rintro _ A1 ⟨⟨⟨hA1, z1, rfl⟩, A1v, v1, z1v, e1, f1⟩, w1, H1⟩
  refine ⟨z1, rfl, ?_⟩
  have hC1 : hCo D A1 := hC0.uf uH w1 (by decide +kernel) (by decide +kernel) (by decide +kernel)
  have hK1 := hC1.2.1
  have eH1 : hHn A1 = hHn A := hHn.uf w1 (uf_lv hA) (by decide +kernel) (by decide +kernel)
  have hN2 : A1.2.1 376 (A1.1 367 18).toNatClampNeg = Int32.ofNat n := huI (eH1.trans hn) (by omega)
  have e5 : ∀ k, k < 73 → A1.2.1 395 k = A.2.1 395 k := fun k hk => w1.2.1 395 _ _ k rfl hk (by decide +kernel)
  refine hxC.post (uf_k226 H1 a1 (hxC.and (g := 0) (hX226 (d := 19) hA1 (by omega) a1) (fun g => hP226 a1 hK1 hN2 h10 e5 hO hD.1 hD.2.1 hD.2.2 h70 H1))) ?_
  rintro _ A2 ⟨⟨⟨hA2, z2, rfl⟩, A2v, v2, z2v, e2, f2⟩, w2, H2⟩
  have q1 : z1 = z1v := by injection e1 with e; injection e
  have q2 : z2 = z2v := by injection e2 with e; injection e
  refine ⟨z2, rfl, by rw [q1, q2]; exact huIf_one f1 f2, N + 72, by omega, ?_⟩
  exact ⟨hJ.mono (hJ.self hA2) (by omega) (by omega), hIB0.q ((w1.le (by decide +kernel : ug_wle uw115 uwB = true)).trans (w2.le (by decide +kernel : ug_wle uw226 uwB = true))) H2 bl.2 (uf_lv hA), hX0.two hA uH H1 w1 w2 (by decide +kernel) (by decide +kernel)⟩
theorem hpr_then {N : Int} {A : hs_A} (hA : hJ 0 N (N + 72) A A) (hN : N ≤ 800000) (hI : hIC A) (a1 : Int32) (a2 : Int32) (a3 : Int32) : hxC 26 113 hm_m113 [.ref 1, .int a1, .int a2, .int a3] A (fun r A1 => ∃ z : Int32, r = some (.int z) ∧ hxC 26 223 hm_m223 [.ref 368, .int a1, .int a2, .int a3] A1 (fun r2 A2 => ∃ z2 : Int32, r2 = some (.int z2) ∧ z = z2 ∧ ∃ N' : Int, N' ≤ N + 144 ∧ hJ 0 N' (N' + 72) A2 A2 ∧ hIC A2)) := by
  have bl := hbok.get (hA.1.1 0 1) rfl
  have b1 := hbok.get (hA.1.1 40 1) rfl
  have b2 := hbok.get (hA.1.1 40 2) rfl
  have lH := hHn.le hA
  obtain ⟨hIB0, hX0⟩ := id hI
  obtain ⟨hN0, hP0, hS0, D, hC0⟩ := id hX0
  have uH := hIB0.1.1.2.1
  obtain ⟨n, hn⟩ : ∃ n : Nat, hHn A = (n : Int) := ⟨(hHn A).toNat, by omega⟩
  have h10 : n ≤ 10 := by omega
  have hN9 : hNw (n : Int) A := by rw [← hn]; exact hN0
  have hL : hdL 26 (A.2.1 395) n A := hN9.1.d h10
  have hO : huO (A.2.1 395) n := hN9.2
  obtain ⟨T, hT, h3, -⟩ := hA.T
  have hTn : (A.1 T 4).toInt = (n : Int) := (congrArg Int32.toInt (hIB0.2.1 T h3)).trans hn
  have hC := hC0.1 T h3
  have hD := hC0.2.2
  have h70 : (A.2.1 395 70).toInt ≤ 1000000 := by have q70 := hA.2.1.2.1; omega
  refine hxC.post (uf_k113 uH a1 a2 a3 (hxC.and (g := 0) (hX113 (d := 20) hA a1 a2 a3) (fun g => hP113 a1 a2 a3 hT h3 hTn hC hL hO hD.1 hD.2.1 hD.2.2 h70 uH))) ?_
  rintro _ A1 ⟨⟨⟨hA1, z1, rfl⟩, A1v, v1, z1v, e1, f1⟩, w1, H1⟩
  refine ⟨z1, rfl, ?_⟩
  have hC1 : hCo D A1 := hC0.uf uH w1 (by decide +kernel) (by decide +kernel) (by decide +kernel)
  have hK1 := hC1.2.1
  have eH1 : hHn A1 = hHn A := hHn.uf w1 (uf_lv hA) (by decide +kernel) (by decide +kernel)
  have hN2 : A1.2.1 376 (A1.1 367 18).toNatClampNeg = Int32.ofNat n := huI (eH1.trans hn) (by omega)
  have e5 : ∀ k, k < 73 → A1.2.1 395 k = A.2.1 395 k := fun k hk => w1.2.1 395 _ _ k rfl hk (by decide +kernel)
  refine hxC.post (uf_k223 H1 a1 a2 a3 (hxC.and (g := 0) (hX223 (d := 19) hA1 (by omega) a1 a2 a3) (fun g => hP223 a1 a2 a3 hK1 hN2 h10 e5 hO hD.1 hD.2.1 hD.2.2 h70 H1))) ?_
  rintro _ A2 ⟨⟨⟨hA2, z2, rfl⟩, A2v, v2, z2v, e2, f2⟩, w2, H2⟩
  have q1 : z1 = z1v := by injection e1 with e; injection e
  have q2 : z2 = z2v := by injection e2 with e; injection e
  refine ⟨z2, rfl, by rw [q1, q2]; exact huIf_one f1 f2, N + 72, by omega, ?_⟩
  exact ⟨hJ.mono (hJ.self hA2) (by omega) (by omega), hIB0.q ((w1.le (by decide +kernel : ug_wle uw113 uwB = true)).trans (w2.le (by decide +kernel : ug_wle uw223 uwB = true))) H2 bl.2 (uf_lv hA), hX0.two hA uH H1 w1 w2 (by decide +kernel) (by decide +kernel)⟩
theorem hpr_quiet {N : Int} {A : hs_A} (hA : hJ 0 N (N + 72) A A) (hN : N ≤ 800000) (hI : hIC A) (a1 : Int32) (a2 : Int32) : hxC 26 114 hm_m114 [.ref 1, .int a1, .int a2] A (fun r A1 => ∃ z : Int32, r = some (.int z) ∧ hxC 26 224 hm_m224 [.ref 368, .int a1, .int a2] A1 (fun r2 A2 => ∃ z2 : Int32, r2 = some (.int z2) ∧ z = z2 ∧ ∃ N' : Int, N' ≤ N + 144 ∧ hJ 0 N' (N' + 72) A2 A2 ∧ hIC A2)) := by
  have bl := hbok.get (hA.1.1 0 1) rfl
  have b1 := hbok.get (hA.1.1 40 1) rfl
  have b2 := hbok.get (hA.1.1 40 2) rfl
  have lH := hHn.le hA
  obtain ⟨hIB0, hX0⟩ := id hI
  obtain ⟨hN0, hP0, hS0, D, hC0⟩ := id hX0
  have uH := hIB0.1.1.2.1
  obtain ⟨n, hn⟩ : ∃ n : Nat, hHn A = (n : Int) := ⟨(hHn A).toNat, by omega⟩
  have h10 : n ≤ 10 := by omega
  have hN9 : hNw (n : Int) A := by rw [← hn]; exact hN0
  have hL : hdL 26 (A.2.1 395) n A := hN9.1.d h10
  have hO : huO (A.2.1 395) n := hN9.2
  obtain ⟨T, hT, h3, -⟩ := hA.T
  have hTn : (A.1 T 4).toInt = (n : Int) := (congrArg Int32.toInt (hIB0.2.1 T h3)).trans hn
  have hC := hC0.1 T h3
  have hD := hC0.2.2
  have h70 : (A.2.1 395 70).toInt ≤ 1000000 := by have q70 := hA.2.1.2.1; omega
  refine hxC.post (uf_k114 uH a1 a2 (hxC.and (g := 0) (hX114 (d := 21) hA a1 a2) (fun g => hP114 a1 a2 hT h3 hTn hC hL hO hD.1 hD.2.1 h70 uH))) ?_
  rintro _ A1 ⟨⟨⟨hA1, z1, rfl⟩, A1v, v1, z1v, e1, f1⟩, w1, H1⟩
  refine ⟨z1, rfl, ?_⟩
  have hC1 : hCo D A1 := hC0.uf uH w1 (by decide +kernel) (by decide +kernel) (by decide +kernel)
  have hK1 := hC1.2.1
  have eH1 : hHn A1 = hHn A := hHn.uf w1 (uf_lv hA) (by decide +kernel) (by decide +kernel)
  have hN2 : A1.2.1 376 (A1.1 367 18).toNatClampNeg = Int32.ofNat n := huI (eH1.trans hn) (by omega)
  have e5 : ∀ k, k < 73 → A1.2.1 395 k = A.2.1 395 k := fun k hk => w1.2.1 395 _ _ k rfl hk (by decide +kernel)
  refine hxC.post (uf_k224 H1 a1 a2 (hxC.and (g := 0) (hX224 (d := 20) hA1 (by omega) a1 a2) (fun g => hP224 a1 a2 hK1 hN2 h10 e5 hO hD.1 hD.2.1 hD.2.2 h70 H1))) ?_
  rintro _ A2 ⟨⟨⟨hA2, z2, rfl⟩, A2v, v2, z2v, e2, f2⟩, w2, H2⟩
  have q1 : z1 = z1v := by injection e1 with e; injection e
  have q2 : z2 = z2v := by injection e2 with e; injection e
  refine ⟨z2, rfl, by rw [q1, q2]; exact huIf_one f1 f2, N + 72, by omega, ?_⟩
  exact ⟨hJ.mono (hJ.self hA2) (by omega) (by omega), hIB0.q ((w1.le (by decide +kernel : ug_wle uw114 uwB = true)).trans (w2.le (by decide +kernel : ug_wle uw224 uwB = true))) H2 bl.2 (uf_lv hA), hX0.two hA uH H1 w1 w2 (by decide +kernel) (by decide +kernel)⟩
theorem hpr_year {N : Int} {A : hs_A} (hA : hJ 0 N (N + 72) A A) (hN : N ≤ 800000) (hI : hIC A) (a1 : Int32) (a2 : Int32) (a3 : Int32) : hxC 26 121 hm_m121 [.ref 1, .int a1, .int a2, .int a3] A (fun r A1 => ∃ z : Int32, r = some (.int z) ∧ hxC 26 231 hm_m231 [.ref 368, .int a1, .int a2, .int a3] A1 (fun r2 A2 => ∃ z2 : Int32, r2 = some (.int z2) ∧ z = z2 ∧ ∃ N' : Int, N' ≤ N + 144 ∧ hJ 0 N' (N' + 72) A2 A2 ∧ hIC A2)) := by
  have bl := hbok.get (hA.1.1 0 1) rfl
  have b1 := hbok.get (hA.1.1 40 1) rfl
  have b2 := hbok.get (hA.1.1 40 2) rfl
  have lH := hHn.le hA
  obtain ⟨hIB0, hX0⟩ := id hI
  obtain ⟨hN0, hP0, hS0, D, hC0⟩ := id hX0
  have uH := hIB0.1.1.2.1
  obtain ⟨n, hn⟩ : ∃ n : Nat, hHn A = (n : Int) := ⟨(hHn A).toNat, by omega⟩
  have h10 : n ≤ 10 := by omega
  have hN9 : hNw (n : Int) A := by rw [← hn]; exact hN0
  have hL : hdL 26 (A.2.1 395) n A := hN9.1.d h10
  have hO : huO (A.2.1 395) n := hN9.2
  obtain ⟨T, hT, h3, -⟩ := hA.T
  have hTn : (A.1 T 4).toInt = (n : Int) := (congrArg Int32.toInt (hIB0.2.1 T h3)).trans hn
  have hC := hC0.1 T h3
  have hD := hC0.2.2
  have h70 : (A.2.1 395 70).toInt ≤ 1000000 := by have q70 := hA.2.1.2.1; omega
  refine hxC.post (uf_k121 uH a1 a2 a3 (hxC.and (g := 0) (hX121 (d := 20) hA a1 a2 a3) (fun g => hP121 a1 a2 a3 hT h3 hTn hC hL hO hD.1 hD.2.1 hD.2.2 h70 uH))) ?_
  rintro _ A1 ⟨⟨⟨hA1, z1, rfl⟩, A1v, v1, z1v, e1, f1⟩, w1, H1⟩
  refine ⟨z1, rfl, ?_⟩
  have hC1 : hCo D A1 := hC0.uf uH w1 (by decide +kernel) (by decide +kernel) (by decide +kernel)
  have hK1 := hC1.2.1
  have eH1 : hHn A1 = hHn A := hHn.uf w1 (uf_lv hA) (by decide +kernel) (by decide +kernel)
  have hN2 : A1.2.1 376 (A1.1 367 18).toNatClampNeg = Int32.ofNat n := huI (eH1.trans hn) (by omega)
  have e5 : ∀ k, k < 73 → A1.2.1 395 k = A.2.1 395 k := fun k hk => w1.2.1 395 _ _ k rfl hk (by decide +kernel)
  refine hxC.post (uf_k231 H1 a1 a2 a3 (hxC.and (g := 0) (hX231 (d := 19) hA1 (by omega) a1 a2 a3) (fun g => hP231 a1 a2 a3 hK1 hN2 h10 e5 hO hD.1 hD.2.1 hD.2.2 h70 H1))) ?_
  rintro _ A2 ⟨⟨⟨hA2, z2, rfl⟩, A2v, v2, z2v, e2, f2⟩, w2, H2⟩
  have q1 : z1 = z1v := by injection e1 with e; injection e
  have q2 : z2 = z2v := by injection e2 with e; injection e
  refine ⟨z2, rfl, by rw [q1, q2]; exact huIf_one f1 f2, N + 72, by omega, ?_⟩
  exact ⟨hJ.mono (hJ.self hA2) (by omega) (by omega), hIB0.q ((w1.le (by decide +kernel : ug_wle uw121 uwB = true)).trans (w2.le (by decide +kernel : ug_wle uw231 uwB = true))) H2 bl.2 (uf_lv hA), hX0.two hA uH H1 w1 w2 (by decide +kernel) (by decide +kernel)⟩
theorem hpr_loudest {N : Int} {A : hs_A} (hA : hJ 0 N (N + 72) A A) (hN : N ≤ 800000) (hI : hIC A) (a1 : Int32) (a2 : Int32) : hxC 26 108 hm_m108 [.ref 1, .int a1, .int a2] A (fun r A1 => ∃ z : Int32, r = some (.int z) ∧ hxC 26 219 hm_m219 [.ref 368, .int a1, .int a2] A1 (fun r2 A2 => ∃ z2 : Int32, r2 = some (.int z2) ∧ z = z2 ∧ ∃ N' : Int, N' ≤ N + 144 ∧ hJ 0 N' (N' + 72) A2 A2 ∧ hIC A2)) := by
  have bl := hbok.get (hA.1.1 0 1) rfl
  have b1 := hbok.get (hA.1.1 40 1) rfl
  have b2 := hbok.get (hA.1.1 40 2) rfl
  have lH := hHn.le hA
  obtain ⟨hIB0, hX0⟩ := id hI
  obtain ⟨hN0, hP0, hS0, D, hC0⟩ := id hX0
  have uH := hIB0.1.1.2.1
  obtain ⟨n, hn⟩ : ∃ n : Nat, hHn A = (n : Int) := ⟨(hHn A).toNat, by omega⟩
  have h10 : n ≤ 10 := by omega
  have hN9 : hNw (n : Int) A := by rw [← hn]; exact hN0
  have hL : hdL 26 (A.2.1 395) n A := hN9.1.d h10
  have hO : huO (A.2.1 395) n := hN9.2
  obtain ⟨T, hT, h3, -⟩ := hA.T
  have hTn : (A.1 T 4).toInt = (n : Int) := (congrArg Int32.toInt (hIB0.2.1 T h3)).trans hn
  have hC := hC0.1 T h3
  have hD := hC0.2.2
  have h70 : (A.2.1 395 70).toInt ≤ 1000000 := by have q70 := hA.2.1.2.1; omega
  refine hxC.post (uf_k108 uH a1 a2 (hxC.and (g := 0) (hX108 (d := 20) hA a1 a2) (fun g => hP108 a1 a2 hT h3 hTn hC hL hO hD.1 hD.2.1 h70 uH))) ?_
  rintro _ A1 ⟨⟨⟨hA1, z1, rfl⟩, A1v, v1, z1v, e1, f1⟩, w1, H1⟩
  refine ⟨z1, rfl, ?_⟩
  have hC1 : hCo D A1 := hC0.uf uH w1 (by decide +kernel) (by decide +kernel) (by decide +kernel)
  have hK1 := hC1.2.1
  have eH1 : hHn A1 = hHn A := hHn.uf w1 (uf_lv hA) (by decide +kernel) (by decide +kernel)
  have hN2 : A1.2.1 376 (A1.1 367 18).toNatClampNeg = Int32.ofNat n := huI (eH1.trans hn) (by omega)
  have e5 : ∀ k, k < 73 → A1.2.1 395 k = A.2.1 395 k := fun k hk => w1.2.1 395 _ _ k rfl hk (by decide +kernel)
  refine hxC.post (uf_k219 H1 a1 a2 (hxC.and (g := 0) (hX219 (d := 20) hA1 (by omega) a1 a2) (fun g => hP219 a1 a2 hK1 hN2 h10 e5 hO hD.1 hD.2.1 hD.2.2 h70 H1))) ?_
  rintro _ A2 ⟨⟨⟨hA2, z2, rfl⟩, A2v, v2, z2v, e2, f2⟩, w2, H2⟩
  have q1 : z1 = z1v := by injection e1 with e; injection e
  have q2 : z2 = z2v := by injection e2 with e; injection e
  refine ⟨z2, rfl, by rw [q1, q2]; exact huIf_one f1 f2, N + 72, by omega, ?_⟩
  exact ⟨hJ.mono (hJ.self hA2) (by omega) (by omega), hIB0.q ((w1.le (by decide +kernel : ug_wle uw108 uwB = true)).trans (w2.le (by decide +kernel : ug_wle uw219 uwB = true))) H2 bl.2 (uf_lv hA), hX0.two hA uH H1 w1 w2 (by decide +kernel) (by decide +kernel)⟩
theorem hpr_changeBest {N : Int} {A : hs_A} (hA : hJ 0 N (N + 72) A A) (hN : N ≤ 800000) (hI : hIC A) (a1 : Int32) : hxC 26 118 hm_m118 [.ref 1, .int a1] A (fun r A1 => ∃ z : Int32, r = some (.int z) ∧ hxC 26 229 hm_m229 [.ref 368, .int a1] A1 (fun r2 A2 => ∃ z2 : Int32, r2 = some (.int z2) ∧ z = z2 ∧ ∃ N' : Int, N' ≤ N + 144 ∧ hJ 0 N' (N' + 72) A2 A2 ∧ hIC A2)) := by
  have bl := hbok.get (hA.1.1 0 1) rfl
  have b1 := hbok.get (hA.1.1 40 1) rfl
  have b2 := hbok.get (hA.1.1 40 2) rfl
  have lH := hHn.le hA
  obtain ⟨hIB0, hX0⟩ := id hI
  obtain ⟨hN0, hP0, hS0, D, hC0⟩ := id hX0
  have uH := hIB0.1.1.2.1
  obtain ⟨n, hn⟩ : ∃ n : Nat, hHn A = (n : Int) := ⟨(hHn A).toNat, by omega⟩
  have h10 : n ≤ 10 := by omega
  have hN9 : hNw (n : Int) A := by rw [← hn]; exact hN0
  have hL : hdL 26 (A.2.1 395) n A := hN9.1.d h10
  have hO : huO (A.2.1 395) n := hN9.2
  obtain ⟨T, hT, h3, -⟩ := hA.T
  have hTn : (A.1 T 4).toInt = (n : Int) := (congrArg Int32.toInt (hIB0.2.1 T h3)).trans hn
  have hC := hC0.1 T h3
  have hD := hC0.2.2
  have h70 : (A.2.1 395 70).toInt ≤ 1000000 := by have q70 := hA.2.1.2.1; omega
  refine hxC.post (uf_k118 uH a1 (hxC.and (g := 0) (hX118 (d := 20) hA a1) (fun g => hP118 a1 hT h3 hTn hC hL hO hD.1 hD.2.1 h70 uH))) ?_
  rintro _ A1 ⟨⟨⟨hA1, z1, rfl⟩, A1v, v1, z1v, e1, f1⟩, w1, H1⟩
  refine ⟨z1, rfl, ?_⟩
  have hC1 : hCo D A1 := hC0.uf uH w1 (by decide +kernel) (by decide +kernel) (by decide +kernel)
  have hK1 := hC1.2.1
  have eH1 : hHn A1 = hHn A := hHn.uf w1 (uf_lv hA) (by decide +kernel) (by decide +kernel)
  have hN2 : A1.2.1 376 (A1.1 367 18).toNatClampNeg = Int32.ofNat n := huI (eH1.trans hn) (by omega)
  have e5 : ∀ k, k < 73 → A1.2.1 395 k = A.2.1 395 k := fun k hk => w1.2.1 395 _ _ k rfl hk (by decide +kernel)
  refine hxC.post (uf_k229 H1 a1 (hxC.and (g := 0) (hX229 (d := 19) hA1 (by omega) a1) (fun g => hP229 a1 hK1 hN2 h10 e5 hO hD.1 hD.2.1 hD.2.2 h70 H1))) ?_
  rintro _ A2 ⟨⟨⟨hA2, z2, rfl⟩, A2v, v2, z2v, e2, f2⟩, w2, H2⟩
  have q1 : z1 = z1v := by injection e1 with e; injection e
  have q2 : z2 = z2v := by injection e2 with e; injection e
  refine ⟨z2, rfl, by rw [q1, q2]; exact huIf_one f1 f2, N + 72, by omega, ?_⟩
  exact ⟨hJ.mono (hJ.self hA2) (by omega) (by omega), hIB0.q ((w1.le (by decide +kernel : ug_wle uw118 uwB = true)).trans (w2.le (by decide +kernel : ug_wle uw229 uwB = true))) H2 bl.2 (uf_lv hA), hX0.two hA uH H1 w1 w2 (by decide +kernel) (by decide +kernel)⟩
