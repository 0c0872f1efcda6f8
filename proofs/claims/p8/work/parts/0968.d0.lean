/-! WHAT CLASS AND REFERENCE SHARE (3): what is held, too -/
def hIR (A : hs_A) : Prop := hIP A ∧ hHd (A.1 0 10) (A.2.1 408)
def uwR : Nat := 16372378265846586046405433507470689580542927954513845767493537880612316557041269444474045440
set_option maxRecDepth 1000000 in
theorem uwR_ok : (Nat.testBit uwR (ug_o (ug_g 0) 1) || (Nat.testBit uwR (ug_o (ug_g 367) 2) || (Nat.testBit uwR (ug_g 1) || (Nat.testBit uwR (ug_g 368) || (Nat.testBit uwR (ug_g 374) || (Nat.testBit uwR (ug_o (ug_g 0) 2) || Nat.testBit uwR (ug_o (ug_g 367) 17))))))) = false := by decide +kernel
theorem hHd.uf {W : Nat} {A A' : hs_A} (h : hHd (A.1 0 10) (A.2.1 408)) (w : uf_W W A A') (b1 : Nat.testBit W (ug_o (ug_g 0) 10) = false) (b2 : Nat.testBit W (ug_g 408) = false) : hHd (A'.1 0 10) (A'.2.1 408) := h.eq (w.1 0 _ _ 10 rfl rfl b1) (fun s hs => w.2.1 408 _ _ s rfl hs b2)
theorem hIR.q {A A' : hs_A} (h : hIR A) (w : uf_W uwR A A') (hH : uf_H A') (hb : (A.1 0 1).toInt ≤ 2000) : hIR A' := ⟨h.1.uf w hH uwR_ok hb, h.2.uf w (by decide +kernel) (by decide +kernel)⟩
set_option maxRecDepth 1000000 in
theorem hy_IR : hIR hy_A := ⟨hy_IP, hHd.nil (by decide +kernel) (by decide +kernel)⟩
/-! WHAT CLASS AND REFERENCE SHARE (4): how many houses there are, how much is told -/
def hHs (A : hs_A) : Prop := ∀ T, A.2.2.2 0 3 = T + 1 → A.1 T 4 = A.2.1 376 (A.1 367 18).toNatClampNeg
def hIB (A : hs_A) : Prop := hIR A ∧ hHs A ∧ A.1 340 2 = A.1 367 59
theorem uf_lv {Q : Nat} {Bn Br : Int} {A0 A : hs_A} (h : hJ Q Bn Br A0 A) : (A.1 367 18).toNatClampNeg < 2 := by
  have b := hbok.get (h.1.1 367 18) rfl
  have c := hn_cn (j := A.1 367 18) b.1
  omega
theorem hHs.uf {W : Nat} {A A' : hs_A} (h : hHs A) (hH : uf_H A) (w : uf_W W A A') (l : (A.1 367 18).toNatClampNeg < 2) (c : (Nat.testBit W (ug_o (ug_g 2) 4) || (Nat.testBit W (ug_o (ug_g 11) 4) || (Nat.testBit W (ug_g 376) || (Nat.testBit W (ug_o (ug_g 367) 18) || (Nat.testBit W (ug_o (ug_g 0) 3)))))) = false) : hHs A' := by
  simp only [Bool.or_eq_false_iff] at c
  obtain ⟨c1, c2, c3, c4, c5⟩ := c
  intro T hT
  rw [w.2.2.2 0 _ _ 3 rfl rfl c5] at hT
  have q := h T hT
  rw [w.1 367 _ _ 18 rfl rfl c4, w.2.1 376 _ _ _ rfl l c3, ← q]
  rcases hH.1 with e | e
  · obtain rfl : T = 2 := by omega
    exact w.1 2 _ _ 4 rfl rfl c1
  · obtain rfl : T = 11 := by omega
    exact w.1 11 _ _ 4 rfl rfl c2
theorem hHs.c {A : hs_A} (h : hHs A) : ∀ T, hTT T → A.2.2.2 0 3 = T + 1 → (A.1 T 4).toInt = (A.2.1 376 (A.1 367 18).toNatClampNeg).toInt := fun T _ e => congrArg Int32.toInt (h T e)
theorem hHs.r {W : Nat} {A A' : hs_A} (w : uf_W W A A') (l : (A.1 367 18).toNatClampNeg < 2) (c3 : Nat.testBit W (ug_g 376) = false) (c4 : Nat.testBit W (ug_o (ug_g 367) 18) = false) : (A'.2.1 376 (A'.1 367 18).toNatClampNeg).toInt = (A.2.1 376 (A.1 367 18).toNatClampNeg).toInt := by
  rw [w.1 367 _ _ 18 rfl rfl c4, w.2.1 376 _ _ _ rfl l c3]
def uwB : Nat := 76090455170697356250966253848873728343746049324078734958121183127721077579987142304072704
set_option maxRecDepth 1000000 in
theorem uwB_ok : (Nat.testBit uwB (ug_o (ug_g 2) 4) || (Nat.testBit uwB (ug_o (ug_g 11) 4) || (Nat.testBit uwB (ug_g 376) || (Nat.testBit uwB (ug_o (ug_g 367) 18) || (Nat.testBit uwB (ug_o (ug_g 0) 3)))))) = false := by decide +kernel
theorem hIB.q {A A' : hs_A} (h : hIB A) (w : uf_W uwB A A') (hH : uf_H A') (hb : (A.1 0 1).toInt ≤ 2000) (l : (A.1 367 18).toNatClampNeg < 2) : hIB A' := ⟨h.1.q (w.le (by decide +kernel)) hH hb, h.2.1.uf h.1.1.2.1 w l uwB_ok, by rw [w.1 340 _ _ 2 rfl rfl (by decide +kernel), w.1 367 _ _ 59 rfl rfl (by decide +kernel)]; exact h.2.2⟩
set_option maxRecDepth 1000000 in
theorem hy_IBs : hy_A.2.2.2 0 3 = 3 ∧ hy_A.1 2 4 = hy_A.2.1 376 (hy_A.1 367 18).toNatClampNeg ∧ hy_A.1 340 2 = hy_A.1 367 59 := by decide +kernel
theorem hy_IB : hIB hy_A := ⟨hy_IR, fun T hT => by
  obtain ⟨a, b, -⟩ := hy_IBs
  obtain rfl : T = 2 := by omega
  exact b, hy_IBs.2.2⟩
/-- two calls' frames -/
theorem hBk {W1 W2 : Nat} {A A1 A2 : hs_A} (h : hHs A) (hH : uf_H A) (H1 : uf_H A1) (w1 : uf_W W1 A A1) (w2 : uf_W W2 A1 A2) (l : (A.1 367 18).toNatClampNeg < 2) (a : (Nat.testBit W1 (ug_o (ug_g 2) 4) || (Nat.testBit W1 (ug_o (ug_g 11) 4) || (Nat.testBit W1 (ug_g 376) || (Nat.testBit W1 (ug_o (ug_g 367) 18) || (Nat.testBit W1 (ug_o (ug_g 0) 3)))))) = false) (b : (Nat.testBit W2 (ug_o (ug_g 2) 4) || (Nat.testBit W2 (ug_o (ug_g 11) 4) || (Nat.testBit W2 (ug_g 376) || (Nat.testBit W2 (ug_o (ug_g 367) 18) || (Nat.testBit W2 (ug_o (ug_g 0) 3)))))) = false) : hHs A2 := by
  refine (h.uf hH w1 l a).uf H1 w2 ?_ b
  simp only [Bool.or_eq_false_iff] at a
  rw [w1.1 367 _ _ 18 rfl rfl a.2.2.2.1]
  exact l
theorem hTk {W1 W2 : Nat} {A A1 A2 : hs_A} (h : A.1 340 2 = A.1 367 59) (w1 : uf_W W1 A A1) (w2 : uf_W W2 A1 A2) (a : Nat.testBit W1 (ug_o (ug_g 340) 2) = false) (b : Nat.testBit W1 (ug_o (ug_g 367) 59) = false) (c : Nat.testBit W2 (ug_o (ug_g 340) 2) = false) (d : Nat.testBit W2 (ug_o (ug_g 367) 59) = false) : A2.1 340 2 = A2.1 367 59 := by
  rw [w2.1 340 _ _ 2 rfl rfl c, w2.1 367 _ _ 59 rfl rfl d, w1.1 340 _ _ 2 rfl rfl a, w1.1 367 _ _ 59 rfl rfl b]
  exact h
