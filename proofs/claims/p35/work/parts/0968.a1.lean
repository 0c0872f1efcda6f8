/-! WHAT CLASS AND REFERENCE SHARE (2): the place too -/
def hIP (A : hs_A) : Prop := hI0 A ∧ uf_H A ∧ A.1 0 2 = A.1 367 17
theorem hI0.uf {W : Nat} {A A' : hs_A} (h : hI0 A) (w : uf_W W A A') (b1 : Nat.testBit W (ug_o (ug_g 0) 1) = false) (b2 : Nat.testBit W (ug_o (ug_g 367) 2) = false) (b3 : Nat.testBit W (ug_g 1) = false) (b4 : Nat.testBit W (ug_g 368) = false) (b5 : Nat.testBit W (ug_g 374) = false) (hb : (A.1 0 1).toInt ≤ 2000) : hI0 A' := by
  obtain ⟨h1, h2, h3⟩ := h
  have e1 : A'.1 0 1 = A.1 0 1 := w.1 0 _ _ 1 rfl rfl b1
  have e3 : A'.1 367 2 = A.1 367 2 := w.1 367 _ _ 2 rfl rfl b2
  refine ⟨by rw [e1, e3]; exact h1, fun q hq => ?_, fun i hi => ?_⟩
  · rw [w.2.2.1 374 _ _ q rfl hq b5]
    exact h2 q hq
  · rw [e1] at hi
    rw [w.2.1 1 _ _ i rfl (by omega) b3, w.2.1 368 _ _ i rfl (by omega) b4]
    exact h3 i hi
theorem hIP.uf {W : Nat} {A A' : hs_A} (h : hIP A) (w : uf_W W A A') (hH : uf_H A') (c : (Nat.testBit W (ug_o (ug_g 0) 1) || (Nat.testBit W (ug_o (ug_g 367) 2) || (Nat.testBit W (ug_g 1) || (Nat.testBit W (ug_g 368) || (Nat.testBit W (ug_g 374) || (Nat.testBit W (ug_o (ug_g 0) 2) || Nat.testBit W (ug_o (ug_g 367) 17))))))) = false) (hb : (A.1 0 1).toInt ≤ 2000) : hIP A' := by
  simp only [Bool.or_eq_false_iff] at c
  obtain ⟨c1, c2, c3, c4, c5, c6, c7⟩ := c
  refine ⟨h.1.uf w c1 c2 c3 c4 c5 hb, hH, ?_⟩
  rw [w.1 0 _ _ 2 rfl rfl c6, w.1 367 _ _ 17 rfl rfl c7]
  exact h.2.2
def uw70 : Nat := 680564733841876926926749214863536422914
theorem uf_k70 {d : Nat} {A : hs_A} {P : Option Value → hs_A → Prop} (hH : uf_H A) (a1 a2 a3 a4 a5 : Int32) (w : hxC d 70 hm_m70 [.ref 1, .int a1, .int a2, .int a3, .int a4, .int a5] A P) : hxC d 70 hm_m70 [.ref 1, .int a1, .int a2, .int a3, .int a4, .int a5] A (fun r A' => P r A' ∧ uf_W uw70 A A' ∧ uf_H A') := uf_X (X := ug_x0) (j := 0) rfl rfl (ug_L.cons uf_r0 (uf_int (uf_int (uf_int (uf_int (uf_int uf_nil)))))) hH w
def uw133 : Nat := 113078212145816597093331040047546785012958969400042031171422026141077078016
theorem uf_k133 {d : Nat} {A : hs_A} {P : Option Value → hs_A → Prop} (hH : uf_H A) (a1 a2 a3 a4 a5 : Int32) (w : hxC d 133 hm_m133 [.ref 368, .int a1, .int a2, .int a3, .int a4, .int a5] A P) : hxC d 133 hm_m133 [.ref 368, .int a1, .int a2, .int a3, .int a4, .int a5] A (fun r A' => P r A' ∧ uf_W uw133 A A' ∧ uf_H A') := uf_X (X := ug_x1) (j := 1) rfl rfl (ug_L.cons uf_r1 (uf_int (uf_int (uf_int (uf_int (uf_int uf_nil)))))) hH w
def uw72 : Nat := 680564733841876926926749214863536422912
theorem uf_k72 {d : Nat} {A : hs_A} {P : Option Value → hs_A → Prop} (hH : uf_H A) (a1 : Int32) (w : hxC d 72 hm_m72 [.ref 1, .int a1] A P) : hxC d 72 hm_m72 [.ref 1, .int a1] A (fun r A' => P r A' ∧ uf_W uw72 A A' ∧ uf_H A') := uf_X (X := ug_x2) (j := 2) rfl rfl (ug_L.cons uf_r0 (uf_int uf_nil)) hH w
def uw135 : Nat := 113078212145816597093331040047546785012958969400039613319782796882727665664
theorem uf_k135 {d : Nat} {A : hs_A} {P : Option Value → hs_A → Prop} (hH : uf_H A) (a1 : Int32) (w : hxC d 135 hm_m135 [.ref 368, .int a1] A P) : hxC d 135 hm_m135 [.ref 368, .int a1] A (fun r A' => P r A' ∧ uf_W uw135 A A' ∧ uf_H A') := uf_X (X := ug_x3) (j := 3) rfl rfl (ug_L.cons uf_r1 (uf_int uf_nil)) hH w
def uw73 : Nat := 7764466285838586866971520147720747617928058299592404962142636720223160
theorem uf_k73 {d : Nat} {A : hs_A} {P : Option Value → hs_A → Prop} (hH : uf_H A) (w : hxC d 73 hm_m73 [.ref 1] A P) : hxC d 73 hm_m73 [.ref 1] A (fun r A' => P r A' ∧ uf_W uw73 A A' ∧ uf_H A') := uf_X (X := ug_x4) (j := 4) rfl rfl (ug_L.cons uf_r0 uf_nil) hH w
def uw150 : Nat := 16371947054120171983655885629022356562218204433234264333370155955618782010749616896597819392
theorem uf_k150 {d : Nat} {A : hs_A} {P : Option Value → hs_A → Prop} (hH : uf_H A) (w : hxC d 150 hm_m150 [.ref 368] A P) : hxC d 150 hm_m150 [.ref 368] A (fun r A' => P r A' ∧ uf_W uw150 A A' ∧ uf_H A') := uf_X (X := ug_x5) (j := 5) rfl rfl (ug_L.cons uf_r1 uf_nil) hH w
def uw75 : Nat := 0
theorem uf_k75 {d : Nat} {A : hs_A} {P : Option Value → hs_A → Prop} (hH : uf_H A) (w : hxC d 75 hm_m75 [.ref 1] A P) : hxC d 75 hm_m75 [.ref 1] A (fun r A' => P r A' ∧ uf_W uw75 A A' ∧ uf_H A') := uf_X (X := ug_x6) (j := 6) rfl rfl (ug_L.cons uf_r0 uf_nil) hH w
def uw151 : Nat := 0
theorem uf_k151 {d : Nat} {A : hs_A} {P : Option Value → hs_A → Prop} (hH : uf_H A) (w : hxC d 151 hm_m151 [.ref 368] A P) : hxC d 151 hm_m151 [.ref 368] A (fun r A' => P r A' ∧ uf_W uw151 A A' ∧ uf_H A') := uf_X (X := ug_x7) (j := 7) rfl rfl (ug_L.cons uf_r1 uf_nil) hH w
def uw79 : Nat := 323519360005807677536004181044235568083645733070486903550240528794624
theorem uf_k79 {d : Nat} {A : hs_A} {P : Option Value → hs_A → Prop} (hH : uf_H A) (a1 a2 : Int32) (w : hxC d 79 hm_m79 [.ref 1, .int a1, .int a2] A P) : hxC d 79 hm_m79 [.ref 1, .int a1, .int a2] A (fun r A' => P r A' ∧ uf_W uw79 A A' ∧ uf_H A') := uf_X (X := ug_x8) (j := 8) rfl rfl (ug_L.cons uf_r0 (uf_int (uf_int uf_nil))) hH w
def uw188 : Nat := 12433080910244666053884556203670521002511403769933692936904025444889660923967013444911104
theorem uf_k188 {d : Nat} {A : hs_A} {P : Option Value → hs_A → Prop} (hH : uf_H A) (a1 a2 : Int32) (w : hxC d 188 hm_m188 [.ref 368, .int a1, .int a2] A P) : hxC d 188 hm_m188 [.ref 368, .int a1, .int a2] A (fun r A' => P r A' ∧ uf_W uw188 A A' ∧ uf_H A') := uf_X (X := ug_x9) (j := 9) rfl rfl (ug_L.cons uf_r1 (uf_int (uf_int uf_nil))) hH w
def uw81 : Nat := 323519360005807677536004181044235568083645733070486903550240528794624
theorem uf_k81 {d : Nat} {A : hs_A} {P : Option Value → hs_A → Prop} (hH : uf_H A) (a1 a2 : Int32) (w : hxC d 81 hm_m81 [.ref 1, .int a1, .int a2] A P) : hxC d 81 hm_m81 [.ref 1, .int a1, .int a2] A (fun r A' => P r A' ∧ uf_W uw81 A A' ∧ uf_H A') := uf_X (X := ug_x10) (j := 10) rfl rfl (ug_L.cons uf_r0 (uf_int (uf_int uf_nil))) hH w
def uw189 : Nat := 12433080910244666053884556203670521002511403769933692936904025444889660923967013444911104
theorem uf_k189 {d : Nat} {A : hs_A} {P : Option Value → hs_A → Prop} (hH : uf_H A) (a1 a2 : Int32) (w : hxC d 189 hm_m189 [.ref 368, .int a1, .int a2] A P) : hxC d 189 hm_m189 [.ref 368, .int a1, .int a2] A (fun r A' => P r A' ∧ uf_W uw189 A A' ∧ uf_H A') := uf_X (X := ug_x11) (j := 11) rfl rfl (ug_L.cons uf_r1 (uf_int (uf_int uf_nil))) hH w
def uw83 : Nat := 869250123739323814696772079065475899771578922868749658772743967997952
theorem uf_k83 {d : Nat} {A : hs_A} {P : Option Value → hs_A → Prop} (hH : uf_H A) (a1 a2 : Int32) (w : hxC d 83 hm_m83 [.ref 1, .int a1, .int a2] A P) : hxC d 83 hm_m83 [.ref 1, .int a1, .int a2] A (fun r A' => P r A' ∧ uf_W uw83 A A' ∧ uf_H A') := uf_X (X := ug_x12) (j := 12) rfl rfl (ug_L.cons uf_r0 (uf_int (uf_int uf_nil))) hH w
def uw191 : Nat := 75593131934287569607618101718316767695269334921196853057116377007270351354785037471973376
theorem uf_k191 {d : Nat} {A : hs_A} {P : Option Value → hs_A → Prop} (hH : uf_H A) (a1 a2 : Int32) (w : hxC d 191 hm_m191 [.ref 368, .int a1, .int a2] A P) : hxC d 191 hm_m191 [.ref 368, .int a1, .int a2] A (fun r A' => P r A' ∧ uf_W uw191 A A' ∧ uf_H A') := uf_X (X := ug_x13) (j := 13) rfl rfl (ug_L.cons uf_r1 (uf_int (uf_int uf_nil))) hH w
def uw84 : Nat := 869250123714215407755225356010132742078748257204340236994887829946368
theorem uf_k84 {d : Nat} {A : hs_A} {P : Option Value → hs_A → Prop} (hH : uf_H A) (a1 : Int32) (w : hxC d 84 hm_m84 [.ref 1, .int a1] A P) : hxC d 84 hm_m84 [.ref 1, .int a1] A (fun r A' => P r A' ∧ uf_W uw84 A A' ∧ uf_H A') := uf_X (X := ug_x14) (j := 14) rfl rfl (ug_L.cons uf_r0 (uf_int uf_nil)) hH w
def uw192 : Nat := 75593131934287569607618101718316767695269334921196853057116377007270351354785037471973376
theorem uf_k192 {d : Nat} {A : hs_A} {P : Option Value → hs_A → Prop} (hH : uf_H A) (a1 : Int32) (w : hxC d 192 hm_m192 [.ref 368, .int a1] A P) : hxC d 192 hm_m192 [.ref 368, .int a1] A (fun r A' => P r A' ∧ uf_W uw192 A A' ∧ uf_H A') := uf_X (X := ug_x15) (j := 15) rfl rfl (ug_L.cons uf_r1 (uf_int uf_nil)) hH w
def uw85 : Nat := 869250123689107000813678632954789584385917591539930815217034376249344
theorem uf_k85 {d : Nat} {A : hs_A} {P : Option Value → hs_A → Prop} (hH : uf_H A) (a1 a2 : Int32) (w : hxC d 85 hm_m85 [.ref 1, .int a1, .int a2] A P) : hxC d 85 hm_m85 [.ref 1, .int a1, .int a2] A (fun r A' => P r A' ∧ uf_W uw85 A A' ∧ uf_H A') := uf_X (X := ug_x16) (j := 16) rfl rfl (ug_L.cons uf_r0 (uf_int (uf_int uf_nil))) hH w
def uw193 : Nat := 75593131934287569607618101718316767695269334921196853057116377007270351354785037471973376
theorem uf_k193 {d : Nat} {A : hs_A} {P : Option Value → hs_A → Prop} (hH : uf_H A) (a1 a2 : Int32) (w : hxC d 193 hm_m193 [.ref 368, .int a1, .int a2] A P) : hxC d 193 hm_m193 [.ref 368, .int a1, .int a2] A (fun r A' => P r A' ∧ uf_W uw193 A A' ∧ uf_H A') := uf_X (X := ug_x17) (j := 17) rfl rfl (ug_L.cons uf_r1 (uf_int (uf_int uf_nil))) hH w
def uw86 : Nat := 869250123689107000813678632954789584385917591539930815217033705160704
theorem uf_k86 {d : Nat} {A : hs_A} {P : Option Value → hs_A → Prop} (hH : uf_H A) (a1 a2 : Int32) (w : hxC d 86 hm_m86 [.ref 1, .int a1, .int a2] A P) : hxC d 86 hm_m86 [.ref 1, .int a1, .int a2] A (fun r A' => P r A' ∧ uf_W uw86 A A' ∧ uf_H A') := uf_X (X := ug_x18) (j := 18) rfl rfl (ug_L.cons uf_r0 (uf_int (uf_int uf_nil))) hH w
def uw195 : Nat := 75593131934287569607618101718316767695269334921196853057116377007270351354785037471973376
theorem uf_k195 {d : Nat} {A : hs_A} {P : Option Value → hs_A → Prop} (hH : uf_H A) (a1 a2 : Int32) (w : hxC d 195 hm_m195 [.ref 368, .int a1, .int a2] A P) : hxC d 195 hm_m195 [.ref 368, .int a1, .int a2] A (fun r A' => P r A' ∧ uf_W uw195 A A' ∧ uf_H A') := uf_X (X := ug_x19) (j := 19) rfl rfl (ug_L.cons uf_r1 (uf_int (uf_int uf_nil))) hH w
def uw87 : Nat := 1192769483833010916528189790803412519780131985764669538545487959294976
theorem uf_k87 {d : Nat} {A : hs_A} {P : Option Value → hs_A → Prop} (hH : uf_H A) (a1 : Int32) (w : hxC d 87 hm_m87 [.ref 1, .int a1] A P) : hxC d 87 hm_m87 [.ref 1, .int a1] A (fun r A' => P r A' ∧ uf_W uw87 A A' ∧ uf_H A') := uf_X (X := ug_x20) (j := 20) rfl rfl (ug_L.cons uf_r0 (uf_int uf_nil)) hH w
def uw198 : Nat := 76090455170697356249773483966463588535369791071994200778694452543308451618282810109853696
theorem uf_k198 {d : Nat} {A : hs_A} {P : Option Value → hs_A → Prop} (hH : uf_H A) (a1 : Int32) (w : hxC d 198 hm_m198 [.ref 368, .int a1] A P) : hxC d 198 hm_m198 [.ref 368, .int a1] A (fun r A' => P r A' ∧ uf_W uw198 A A' ∧ uf_H A') := uf_X (X := ug_x21) (j := 21) rfl rfl (ug_L.cons uf_r1 (uf_int uf_nil)) hH w
def uw88 : Nat := 862719939047967948432373741432720211026331263156336971753572402200576
theorem uf_k88 {d : Nat} {A : hs_A} {P : Option Value → hs_A → Prop} (hH : uf_H A) (w : hxC d 88 hm_m88 [.ref 1] A P) : hxC d 88 hm_m88 [.ref 1] A (fun r A' => P r A' ∧ uf_W uw88 A A' ∧ uf_H A') := uf_X (X := ug_x22) (j := 22) rfl rfl (ug_L.cons uf_r0 uf_nil) hH w
def uw199 : Nat := 63657374260452690195888927762793067532858387302060507832703907595982842344387428088807424
theorem uf_k199 {d : Nat} {A : hs_A} {P : Option Value → hs_A → Prop} (hH : uf_H A) (w : hxC d 199 hm_m199 [.ref 368] A P) : hxC d 199 hm_m199 [.ref 368] A (fun r A' => P r A' ∧ uf_W uw199 A A' ∧ uf_H A') := uf_X (X := ug_x23) (j := 23) rfl rfl (ug_L.cons uf_r1 uf_nil) hH w
def uw91 : Nat := 1186237653354628150965348663828863749640034354591932652782957657326592
theorem uf_k91 {d : Nat} {A : hs_A} {P : Option Value → hs_A → Prop} (hH : uf_H A) (a1 a2 : Int32) (w : hxC d 91 hm_m91 [.ref 1, .int a1, .int a2] A P) : hxC d 91 hm_m91 [.ref 1, .int a1, .int a2] A (fun r A' => P r A' ∧ uf_W uw91 A A' ∧ uf_H A') := uf_X (X := ug_x24) (j := 24) rfl rfl (ug_L.cons uf_r0 (uf_int (uf_int uf_nil))) hH w
def uw204 : Nat := 12433080910244666053884556203670521002511403769933692936904025444889660923967013444911104
theorem uf_k204 {d : Nat} {A : hs_A} {P : Option Value → hs_A → Prop} (hH : uf_H A) (a1 a2 : Int32) (w : hxC d 204 hm_m204 [.ref 368, .int a1, .int a2] A P) : hxC d 204 hm_m204 [.ref 368, .int a1, .int a2] A (fun r A' => P r A' ∧ uf_W uw204 A A' ∧ uf_H A') := uf_X (X := ug_x25) (j := 25) rfl rfl (ug_L.cons uf_r1 (uf_int (uf_int uf_nil))) hH w
def uw92 : Nat := 1186237653354628150965348663828863749640034354591932652782957657326592
theorem uf_k92 {d : Nat} {A : hs_A} {P : Option Value → hs_A → Prop} (hH : uf_H A) (a1 : Int32) (w : hxC d 92 hm_m92 [.ref 1, .int a1] A P) : hxC d 92 hm_m92 [.ref 1, .int a1] A (fun r A' => P r A' ∧ uf_W uw92 A A' ∧ uf_H A') := uf_X (X := ug_x26) (j := 26) rfl rfl (ug_L.cons uf_r0 (uf_int uf_nil)) hH w
def uw205 : Nat := 12433080910244666053884556203670521002511403769933692936904025444889660923967013444911104
theorem uf_k205 {d : Nat} {A : hs_A} {P : Option Value → hs_A → Prop} (hH : uf_H A) (a1 : Int32) (w : hxC d 205 hm_m205 [.ref 368, .int a1] A P) : hxC d 205 hm_m205 [.ref 368, .int a1] A (fun r A' => P r A' ∧ uf_W uw205 A A' ∧ uf_H A') := uf_X (X := ug_x27) (j := 27) rfl rfl (ug_L.cons uf_r1 (uf_int uf_nil)) hH w
def uw93 : Nat := 1186237653354628150965348663828863749640034354591932652782957657326592
theorem uf_k93 {d : Nat} {A : hs_A} {P : Option Value → hs_A → Prop} (hH : uf_H A) (a1 : Int32) (w : hxC d 93 hm_m93 [.ref 1, .int a1] A P) : hxC d 93 hm_m93 [.ref 1, .int a1] A (fun r A' => P r A' ∧ uf_W uw93 A A' ∧ uf_H A') := uf_X (X := ug_x28) (j := 28) rfl rfl (ug_L.cons uf_r0 (uf_int uf_nil)) hH w
def uw206 : Nat := 12433080910244666053884556203670521002511403769933692947288619161959316181028006103351296
theorem uf_k206 {d : Nat} {A : hs_A} {P : Option Value → hs_A → Prop} (hH : uf_H A) (a1 : Int32) (w : hxC d 206 hm_m206 [.ref 368, .int a1] A P) : hxC d 206 hm_m206 [.ref 368, .int a1] A (fun r A' => P r A' ∧ uf_W uw206 A A' ∧ uf_H A') := uf_X (X := ug_x29) (j := 29) rfl rfl (ug_L.cons uf_r1 (uf_int uf_nil)) hH w
def uw94 : Nat := 1186237653354628150965348663828863749640034354594293836024392479933440
theorem uf_k94 {d : Nat} {A : hs_A} {P : Option Value → hs_A → Prop} (hH : uf_H A) (a1 : Int32) (w : hxC d 94 hm_m94 [.ref 1, .int a1] A P) : hxC d 94 hm_m94 [.ref 1, .int a1] A (fun r A' => P r A' ∧ uf_W uw94 A A' ∧ uf_H A') := uf_X (X := ug_x30) (j := 30) rfl rfl (ug_L.cons uf_r0 (uf_int uf_nil)) hH w
def uw207 : Nat := 12433080910244666053884556203670521002511403769933692968057806596098626695149991420231680
theorem uf_k207 {d : Nat} {A : hs_A} {P : Option Value → hs_A → Prop} (hH : uf_H A) (a1 : Int32) (w : hxC d 207 hm_m207 [.ref 368, .int a1] A P) : hxC d 207 hm_m207 [.ref 368, .int a1] A (fun r A' => P r A' ∧ uf_W uw207 A A' ∧ uf_H A') := uf_X (X := ug_x31) (j := 31) rfl rfl (ug_L.cons uf_r1 (uf_int uf_nil)) hH w
def uw95 : Nat := 1186237653354628150965348663828863749640034354593113244403675068630016
theorem uf_k95 {d : Nat} {A : hs_A} {P : Option Value → hs_A → Prop} (hH : uf_H A) (a1 a2 a3 : Int32) (w : hxC d 95 hm_m95 [.ref 1, .int a1, .int a2, .int a3] A P) : hxC d 95 hm_m95 [.ref 1, .int a1, .int a2, .int a3] A (fun r A' => P r A' ∧ uf_W uw95 A A' ∧ uf_H A') := uf_X (X := ug_x32) (j := 32) rfl rfl (ug_L.cons uf_r0 (uf_int (uf_int (uf_int uf_nil)))) hH w
def uw208 : Nat := 12433080910244666053884556203670521002511403769933692988826994030237937209271976737112064
theorem uf_k208 {d : Nat} {A : hs_A} {P : Option Value → hs_A → Prop} (hH : uf_H A) (a1 a2 a3 : Int32) (w : hxC d 208 hm_m208 [.ref 368, .int a1, .int a2, .int a3] A P) : hxC d 208 hm_m208 [.ref 368, .int a1, .int a2, .int a3] A (fun r A' => P r A' ∧ uf_W uw208 A A' ∧ uf_H A') := uf_X (X := ug_x33) (j := 33) rfl rfl (ug_L.cons uf_r1 (uf_int (uf_int (uf_int uf_nil)))) hH w
def uw97 : Nat := 1186237653354628150965348663828863749640034354591932652782957657326592
theorem uf_k97 {d : Nat} {A : hs_A} {P : Option Value → hs_A → Prop} (hH : uf_H A) (a1 : Int32) (w : hxC d 97 hm_m97 [.ref 1, .int a1] A P) : hxC d 97 hm_m97 [.ref 1, .int a1] A (fun r A' => P r A' ∧ uf_W uw97 A A' ∧ uf_H A') := uf_X (X := ug_x34) (j := 34) rfl rfl (ug_L.cons uf_r0 (uf_int uf_nil)) hH w
def uw209 : Nat := 12433080910244666053884556203670521002511403769933692936904025444889660923967013444911104
theorem uf_k209 {d : Nat} {A : hs_A} {P : Option Value → hs_A → Prop} (hH : uf_H A) (a1 : Int32) (w : hxC d 209 hm_m209 [.ref 368, .int a1] A P) : hxC d 209 hm_m209 [.ref 368, .int a1] A (fun r A' => P r A' ∧ uf_W uw209 A A' ∧ uf_H A') := uf_X (X := ug_x35) (j := 35) rfl rfl (ug_L.cons uf_r1 (uf_int uf_nil)) hH w
def uw98 : Nat := 1186237653354628150965348663828863749640034354591932652782957657326592
theorem uf_k98 {d : Nat} {A : hs_A} {P : Option Value → hs_A → Prop} (hH : uf_H A) (a1 a2 a3 : Int32) (w : hxC d 98 hm_m98 [.ref 1, .int a1, .int a2, .int a3] A P) : hxC d 98 hm_m98 [.ref 1, .int a1, .int a2, .int a3] A (fun r A' => P r A' ∧ uf_W uw98 A A' ∧ uf_H A') := uf_X (X := ug_x36) (j := 36) rfl rfl (ug_L.cons uf_r0 (uf_int (uf_int (uf_int uf_nil)))) hH w
def uw210 : Nat := 12433080910244666053884556203670521002511403769933692936904025444889660923967013444911104
theorem uf_k210 {d : Nat} {A : hs_A} {P : Option Value → hs_A → Prop} (hH : uf_H A) (a1 a2 a3 : Int32) (w : hxC d 210 hm_m210 [.ref 368, .int a1, .int a2, .int a3] A P) : hxC d 210 hm_m210 [.ref 368, .int a1, .int a2, .int a3] A (fun r A' => P r A' ∧ uf_W uw210 A A' ∧ uf_H A') := uf_X (X := ug_x37) (j := 37) rfl rfl (ug_L.cons uf_r1 (uf_int (uf_int (uf_int uf_nil)))) hH w
def uw99 : Nat := 1186237653354628150965348663828863749640034354591932652782957657326592
theorem uf_k99 {d : Nat} {A : hs_A} {P : Option Value → hs_A → Prop} (hH : uf_H A) (a1 a2 : Int32) (w : hxC d 99 hm_m99 [.ref 1, .int a1, .int a2] A P) : hxC d 99 hm_m99 [.ref 1, .int a1, .int a2] A (fun r A' => P r A' ∧ uf_W uw99 A A' ∧ uf_H A') := uf_X (X := ug_x38) (j := 38) rfl rfl (ug_L.cons uf_r0 (uf_int (uf_int uf_nil))) hH w
def uw211 : Nat := 12433080910244666053884556203670521002511403769933692947288619161959316181028006103351296
theorem uf_k211 {d : Nat} {A : hs_A} {P : Option Value → hs_A → Prop} (hH : uf_H A) (a1 a2 : Int32) (w : hxC d 211 hm_m211 [.ref 368, .int a1, .int a2] A P) : hxC d 211 hm_m211 [.ref 368, .int a1, .int a2] A (fun r A' => P r A' ∧ uf_W uw211 A A' ∧ uf_H A') := uf_X (X := ug_x39) (j := 39) rfl rfl (ug_L.cons uf_r1 (uf_int (uf_int uf_nil))) hH w
def uw100 : Nat := 1186237653354628150965348663828863749640034354591932652782957657326592
theorem uf_k100 {d : Nat} {A : hs_A} {P : Option Value → hs_A → Prop} (hH : uf_H A) (a1 a2 : Int32) (w : hxC d 100 hm_m100 [.ref 1, .int a1, .int a2] A P) : hxC d 100 hm_m100 [.ref 1, .int a1, .int a2] A (fun r A' => P r A' ∧ uf_W uw100 A A' ∧ uf_H A') := uf_X (X := ug_x40) (j := 40) rfl rfl (ug_L.cons uf_r0 (uf_int (uf_int uf_nil))) hH w
def uw212 : Nat := 12433080910244666053884556203670521002511403769933692947288619161959316181028006103351296
theorem uf_k212 {d : Nat} {A : hs_A} {P : Option Value → hs_A → Prop} (hH : uf_H A) (a1 a2 : Int32) (w : hxC d 212 hm_m212 [.ref 368, .int a1, .int a2] A P) : hxC d 212 hm_m212 [.ref 368, .int a1, .int a2] A (fun r A' => P r A' ∧ uf_W uw212 A A' ∧ uf_H A') := uf_X (X := ug_x41) (j := 41) rfl rfl (ug_L.cons uf_r1 (uf_int (uf_int uf_nil))) hH w
def uw101 : Nat := 1186237653354628150965348663828863749640034354591932652782957657326592
theorem uf_k101 {d : Nat} {A : hs_A} {P : Option Value → hs_A → Prop} (hH : uf_H A) (a1 : Int32) (w : hxC d 101 hm_m101 [.ref 1, .int a1] A P) : hxC d 101 hm_m101 [.ref 1, .int a1] A (fun r A' => P r A' ∧ uf_W uw101 A A' ∧ uf_H A') := uf_X (X := ug_x42) (j := 42) rfl rfl (ug_L.cons uf_r0 (uf_int uf_nil)) hH w
def uw213 : Nat := 12433080910244666053884556203670521002511403769933692936904025444889660923967013444911104
theorem uf_k213 {d : Nat} {A : hs_A} {P : Option Value → hs_A → Prop} (hH : uf_H A) (a1 : Int32) (w : hxC d 213 hm_m213 [.ref 368, .int a1] A P) : hxC d 213 hm_m213 [.ref 368, .int a1] A (fun r A' => P r A' ∧ uf_W uw213 A A' ∧ uf_H A') := uf_X (X := ug_x43) (j := 43) rfl rfl (ug_L.cons uf_r1 (uf_int uf_nil)) hH w
def uw102 : Nat := 323519360005807677536004181044235568083645733077570453274544996615168
theorem uf_k102 {d : Nat} {A : hs_A} {P : Option Value → hs_A → Prop} (hH : uf_H A) (a1 a2 : Int32) (w : hxC d 102 hm_m102 [.ref 1, .int a1, .int a2] A P) : hxC d 102 hm_m102 [.ref 1, .int a1, .int a2] A (fun r A' => P r A' ∧ uf_W uw102 A A' ∧ uf_H A') := uf_X (X := ug_x44) (j := 44) rfl rfl (ug_L.cons uf_r0 (uf_int (uf_int uf_nil))) hH w
def uw216 : Nat := 12433080910244666053884556203670521002511403769933693186134274654561387093430837247475712
theorem uf_k216 {d : Nat} {A : hs_A} {P : Option Value → hs_A → Prop} (hH : uf_H A) (a1 a2 : Int32) (w : hxC d 216 hm_m216 [.ref 368, .int a1, .int a2] A P) : hxC d 216 hm_m216 [.ref 368, .int a1, .int a2] A (fun r A' => P r A' ∧ uf_W uw216 A A' ∧ uf_H A') := uf_X (X := ug_x45) (j := 45) rfl rfl (ug_L.cons uf_r1 (uf_int (uf_int uf_nil))) hH w
def uw105 : Nat := 323519360005807677536004181044235568083645733070486903550240528794624
theorem uf_k105 {d : Nat} {A : hs_A} {P : Option Value → hs_A → Prop} (hH : uf_H A) (a1 a2 : Int32) (w : hxC d 105 hm_m105 [.ref 1, .int a1, .int a2] A P) : hxC d 105 hm_m105 [.ref 1, .int a1, .int a2] A (fun r A' => P r A' ∧ uf_W uw105 A A' ∧ uf_H A') := uf_X (X := ug_x46) (j := 46) rfl rfl (ug_L.cons uf_r0 (uf_int (uf_int uf_nil))) hH w
def uw217 : Nat := 12433080910244666053884556203670521002511403769933693019980775181446902980454954712432640
theorem uf_k217 {d : Nat} {A : hs_A} {P : Option Value → hs_A → Prop} (hH : uf_H A) (a1 a2 : Int32) (w : hxC d 217 hm_m217 [.ref 368, .int a1, .int a2] A P) : hxC d 217 hm_m217 [.ref 368, .int a1, .int a2] A (fun r A' => P r A' ∧ uf_W uw217 A A' ∧ uf_H A') := uf_X (X := ug_x47) (j := 47) rfl rfl (ug_L.cons uf_r1 (uf_int (uf_int uf_nil))) hH w
def uw106 : Nat := 0
theorem uf_k106 {d : Nat} {A : hs_A} {P : Option Value → hs_A → Prop} (hH : uf_H A) (a1 : Int32) (w : hxC d 106 hm_m106 [.ref 1, .int a1] A P) : hxC d 106 hm_m106 [.ref 1, .int a1] A (fun r A' => P r A' ∧ uf_W uw106 A A' ∧ uf_H A') := uf_X (X := ug_x48) (j := 48) rfl rfl (ug_L.cons uf_r0 (uf_int uf_nil)) hH w
def uw218 : Nat := 11935757673834879411729173955523700162410947619136345219220172552752681381867113053945856
theorem uf_k218 {d : Nat} {A : hs_A} {P : Option Value → hs_A → Prop} (hH : uf_H A) (a1 : Int32) (w : hxC d 218 hm_m218 [.ref 368, .int a1] A P) : hxC d 218 hm_m218 [.ref 368, .int a1] A (fun r A' => P r A' ∧ uf_W uw218 A A' ∧ uf_H A') := uf_X (X := ug_x49) (j := 49) rfl rfl (ug_L.cons uf_r1 (uf_int uf_nil)) hH w
def uw108 : Nat := 323519758526442653765592515450834468691971158579190544925380837901312
theorem uf_k108 {d : Nat} {A : hs_A} {P : Option Value → hs_A → Prop} (hH : uf_H A) (a1 a2 : Int32) (w : hxC d 108 hm_m108 [.ref 1, .int a1, .int a2] A P) : hxC d 108 hm_m108 [.ref 1, .int a1, .int a2] A (fun r A' => P r A' ∧ uf_W uw108 A A' ∧ uf_H A') := uf_X (X := ug_x50) (j := 50) rfl rfl (ug_L.cons uf_r0 (uf_int (uf_int uf_nil))) hH w
def uw219 : Nat := 12433080910244666053884556203670521002511403769933693273105247035019749871316650761912320
theorem uf_k219 {d : Nat} {A : hs_A} {P : Option Value → hs_A → Prop} (hH : uf_H A) (a1 a2 : Int32) (w : hxC d 219 hm_m219 [.ref 368, .int a1, .int a2] A P) : hxC d 219 hm_m219 [.ref 368, .int a1, .int a2] A (fun r A' => P r A' ∧ uf_W uw219 A A' ∧ uf_H A') := uf_X (X := ug_x51) (j := 51) rfl rfl (ug_L.cons uf_r1 (uf_int (uf_int uf_nil))) hH w
def uw110 : Nat := 323519758526442653765592515450834468691971158576829361683946015294464
theorem uf_k110 {d : Nat} {A : hs_A} {P : Option Value → hs_A → Prop} (hH : uf_H A) (a1 : Int32) (w : hxC d 110 hm_m110 [.ref 1, .int a1] A P) : hxC d 110 hm_m110 [.ref 1, .int a1] A (fun r A' => P r A' ∧ uf_W uw110 A A' ∧ uf_H A') := uf_X (X := ug_x52) (j := 52) rfl rfl (ug_L.cons uf_r0 (uf_int uf_nil)) hH w
def uw220 : Nat := 12433080910244666053884556203670521002511403769933692940798248088790781645364885691826176
theorem uf_k220 {d : Nat} {A : hs_A} {P : Option Value → hs_A → Prop} (hH : uf_H A) (a1 : Int32) (w : hxC d 220 hm_m220 [.ref 368, .int a1] A P) : hxC d 220 hm_m220 [.ref 368, .int a1] A (fun r A' => P r A' ∧ uf_W uw220 A A' ∧ uf_H A') := uf_X (X := ug_x53) (j := 53) rfl rfl (ug_L.cons uf_r1 (uf_int uf_nil)) hH w
def uw111 : Nat := 0
theorem uf_k111 {d : Nat} {A : hs_A} {P : Option Value → hs_A → Prop} (hH : uf_H A) (a1 : Int32) (w : hxC d 111 hm_m111 [.ref 1, .int a1] A P) : hxC d 111 hm_m111 [.ref 1, .int a1] A (fun r A' => P r A' ∧ uf_W uw111 A A' ∧ uf_H A') := uf_X (X := ug_x54) (j := 54) rfl rfl (ug_L.cons uf_r0 (uf_int uf_nil)) hH w
def uw221 : Nat := 0
theorem uf_k221 {d : Nat} {A : hs_A} {P : Option Value → hs_A → Prop} (hH : uf_H A) (a1 : Int32) (w : hxC d 221 hm_m221 [.ref 368, .int a1] A P) : hxC d 221 hm_m221 [.ref 368, .int a1] A (fun r A' => P r A' ∧ uf_W uw221 A A' ∧ uf_H A') := uf_X (X := ug_x55) (j := 55) rfl rfl (ug_L.cons uf_r1 (uf_int uf_nil)) hH w
def uw112 : Nat := 323519758526442653765592515450834468691971158576829361683946015294464
theorem uf_k112 {d : Nat} {A : hs_A} {P : Option Value → hs_A → Prop} (hH : uf_H A) (a1 : Int32) (w : hxC d 112 hm_m112 [.ref 1, .int a1] A P) : hxC d 112 hm_m112 [.ref 1, .int a1] A (fun r A' => P r A' ∧ uf_W uw112 A A' ∧ uf_H A') := uf_X (X := ug_x56) (j := 56) rfl rfl (ug_L.cons uf_r0 (uf_int uf_nil)) hH w
def uw222 : Nat := 12433080910244666053884556203670521002511403769933692940798248088790781645364885691826176
theorem uf_k222 {d : Nat} {A : hs_A} {P : Option Value → hs_A → Prop} (hH : uf_H A) (a1 : Int32) (w : hxC d 222 hm_m222 [.ref 368, .int a1] A P) : hxC d 222 hm_m222 [.ref 368, .int a1] A (fun r A' => P r A' ∧ uf_W uw222 A A' ∧ uf_H A') := uf_X (X := ug_x57) (j := 57) rfl rfl (ug_L.cons uf_r1 (uf_int uf_nil)) hH w
def uw113 : Nat := 323519758526442653765592515450834468691971158576829361683946015294464
theorem uf_k113 {d : Nat} {A : hs_A} {P : Option Value → hs_A → Prop} (hH : uf_H A) (a1 a2 a3 : Int32) (w : hxC d 113 hm_m113 [.ref 1, .int a1, .int a2, .int a3] A P) : hxC d 113 hm_m113 [.ref 1, .int a1, .int a2, .int a3] A (fun r A' => P r A' ∧ uf_W uw113 A A' ∧ uf_H A') := uf_X (X := ug_x58) (j := 58) rfl rfl (ug_L.cons uf_r0 (uf_int (uf_int (uf_int uf_nil)))) hH w
def uw223 : Nat := 12433080910244666053884556203670521002511403769933692940798248088790781645364885691826176
theorem uf_k223 {d : Nat} {A : hs_A} {P : Option Value → hs_A → Prop} (hH : uf_H A) (a1 a2 a3 : Int32) (w : hxC d 223 hm_m223 [.ref 368, .int a1, .int a2, .int a3] A P) : hxC d 223 hm_m223 [.ref 368, .int a1, .int a2, .int a3] A (fun r A' => P r A' ∧ uf_W uw223 A A' ∧ uf_H A') := uf_X (X := ug_x59) (j := 59) rfl rfl (ug_L.cons uf_r1 (uf_int (uf_int (uf_int uf_nil)))) hH w
def uw114 : Nat := 323519758526442653765592515450834468691971158576829361683946015294464
theorem uf_k114 {d : Nat} {A : hs_A} {P : Option Value → hs_A → Prop} (hH : uf_H A) (a1 a2 : Int32) (w : hxC d 114 hm_m114 [.ref 1, .int a1, .int a2] A P) : hxC d 114 hm_m114 [.ref 1, .int a1, .int a2] A (fun r A' => P r A' ∧ uf_W uw114 A A' ∧ uf_H A') := uf_X (X := ug_x60) (j := 60) rfl rfl (ug_L.cons uf_r0 (uf_int (uf_int uf_nil))) hH w
def uw224 : Nat := 12433080910244666053884556203670521002511403769933692940798248088790781645364885691826176
theorem uf_k224 {d : Nat} {A : hs_A} {P : Option Value → hs_A → Prop} (hH : uf_H A) (a1 a2 : Int32) (w : hxC d 224 hm_m224 [.ref 368, .int a1, .int a2] A P) : hxC d 224 hm_m224 [.ref 368, .int a1, .int a2] A (fun r A' => P r A' ∧ uf_W uw224 A A' ∧ uf_H A') := uf_X (X := ug_x61) (j := 61) rfl rfl (ug_L.cons uf_r1 (uf_int (uf_int uf_nil))) hH w
def uw115 : Nat := 323519758526442653765592515450834468691971158576829361683946015294464
theorem uf_k115 {d : Nat} {A : hs_A} {P : Option Value → hs_A → Prop} (hH : uf_H A) (a1 : Int32) (w : hxC d 115 hm_m115 [.ref 1, .int a1] A P) : hxC d 115 hm_m115 [.ref 1, .int a1] A (fun r A' => P r A' ∧ uf_W uw115 A A' ∧ uf_H A') := uf_X (X := ug_x62) (j := 62) rfl rfl (ug_L.cons uf_r0 (uf_int uf_nil)) hH w
def uw226 : Nat := 12433080910244666053884556203670521002511403769933692940798248088790781645364885691826176
theorem uf_k226 {d : Nat} {A : hs_A} {P : Option Value → hs_A → Prop} (hH : uf_H A) (a1 : Int32) (w : hxC d 226 hm_m226 [.ref 368, .int a1] A P) : hxC d 226 hm_m226 [.ref 368, .int a1] A (fun r A' => P r A' ∧ uf_W uw226 A A' ∧ uf_H A') := uf_X (X := ug_x63) (j := 63) rfl rfl (ug_L.cons uf_r1 (uf_int uf_nil)) hH w
def uw116 : Nat := 0
theorem uf_k116 {d : Nat} {A : hs_A} {P : Option Value → hs_A → Prop} (hH : uf_H A) (a1 : Int32) (w : hxC d 116 hm_m116 [.ref 1, .int a1] A P) : hxC d 116 hm_m116 [.ref 1, .int a1] A (fun r A' => P r A' ∧ uf_W uw116 A A' ∧ uf_H A') := uf_X (X := ug_x64) (j := 64) rfl rfl (ug_L.cons uf_r0 (uf_int uf_nil)) hH w
def uw227 : Nat := 0
theorem uf_k227 {d : Nat} {A : hs_A} {P : Option Value → hs_A → Prop} (hH : uf_H A) (a1 : Int32) (w : hxC d 227 hm_m227 [.ref 368, .int a1] A P) : hxC d 227 hm_m227 [.ref 368, .int a1] A (fun r A' => P r A' ∧ uf_W uw227 A A' ∧ uf_H A') := uf_X (X := ug_x65) (j := 65) rfl rfl (ug_L.cons uf_r1 (uf_int uf_nil)) hH w
def uw117 : Nat := 0
theorem uf_k117 {d : Nat} {A : hs_A} {P : Option Value → hs_A → Prop} (hH : uf_H A) (a1 : Int32) (w : hxC d 117 hm_m117 [.ref 1, .int a1] A P) : hxC d 117 hm_m117 [.ref 1, .int a1] A (fun r A' => P r A' ∧ uf_W uw117 A A' ∧ uf_H A') := uf_X (X := ug_x66) (j := 66) rfl rfl (ug_L.cons uf_r0 (uf_int uf_nil)) hH w
def uw228 : Nat := 0
theorem uf_k228 {d : Nat} {A : hs_A} {P : Option Value → hs_A → Prop} (hH : uf_H A) (a1 : Int32) (w : hxC d 228 hm_m228 [.ref 368, .int a1] A P) : hxC d 228 hm_m228 [.ref 368, .int a1] A (fun r A' => P r A' ∧ uf_W uw228 A A' ∧ uf_H A') := uf_X (X := ug_x67) (j := 67) rfl rfl (ug_L.cons uf_r1 (uf_int uf_nil)) hH w
def uw118 : Nat := 323519758526442653765592515450834468691971158576829361683946015294464
theorem uf_k118 {d : Nat} {A : hs_A} {P : Option Value → hs_A → Prop} (hH : uf_H A) (a1 : Int32) (w : hxC d 118 hm_m118 [.ref 1, .int a1] A P) : hxC d 118 hm_m118 [.ref 1, .int a1] A (fun r A' => P r A' ∧ uf_W uw118 A A' ∧ uf_H A') := uf_X (X := ug_x68) (j := 68) rfl rfl (ug_L.cons uf_r0 (uf_int uf_nil)) hH w
def uw229 : Nat := 12433080910244666053884556203670521002511403769933692940798248088790781645364885691826176
theorem uf_k229 {d : Nat} {A : hs_A} {P : Option Value → hs_A → Prop} (hH : uf_H A) (a1 : Int32) (w : hxC d 229 hm_m229 [.ref 368, .int a1] A P) : hxC d 229 hm_m229 [.ref 368, .int a1] A (fun r A' => P r A' ∧ uf_W uw229 A A' ∧ uf_H A') := uf_X (X := ug_x69) (j := 69) rfl rfl (ug_L.cons uf_r1 (uf_int uf_nil)) hH w
def uw120 : Nat := 0
theorem uf_k120 {d : Nat} {A : hs_A} {P : Option Value → hs_A → Prop} (hH : uf_H A) (a1 : Int32) (w : hxC d 120 hm_m120 [.ref 1, .int a1] A P) : hxC d 120 hm_m120 [.ref 1, .int a1] A (fun r A' => P r A' ∧ uf_W uw120 A A' ∧ uf_H A') := uf_X (X := ug_x70) (j := 70) rfl rfl (ug_L.cons uf_r0 (uf_int uf_nil)) hH w
def uw230 : Nat := 0
theorem uf_k230 {d : Nat} {A : hs_A} {P : Option Value → hs_A → Prop} (hH : uf_H A) (a1 : Int32) (w : hxC d 230 hm_m230 [.ref 368, .int a1] A P) : hxC d 230 hm_m230 [.ref 368, .int a1] A (fun r A' => P r A' ∧ uf_W uw230 A A' ∧ uf_H A') := uf_X (X := ug_x71) (j := 71) rfl rfl (ug_L.cons uf_r1 (uf_int uf_nil)) hH w
def uw121 : Nat := 323519758526442653765592515450834468691971158576829361683946015294464
theorem uf_k121 {d : Nat} {A : hs_A} {P : Option Value → hs_A → Prop} (hH : uf_H A) (a1 a2 a3 : Int32) (w : hxC d 121 hm_m121 [.ref 1, .int a1, .int a2, .int a3] A P) : hxC d 121 hm_m121 [.ref 1, .int a1, .int a2, .int a3] A (fun r A' => P r A' ∧ uf_W uw121 A A' ∧ uf_H A') := uf_X (X := ug_x72) (j := 72) rfl rfl (ug_L.cons uf_r0 (uf_int (uf_int (uf_int uf_nil)))) hH w
def uw231 : Nat := 12433080910244666053884556203670521002511403769933692940798248088790781645364885691826176
theorem uf_k231 {d : Nat} {A : hs_A} {P : Option Value → hs_A → Prop} (hH : uf_H A) (a1 a2 a3 : Int32) (w : hxC d 231 hm_m231 [.ref 368, .int a1, .int a2, .int a3] A P) : hxC d 231 hm_m231 [.ref 368, .int a1, .int a2, .int a3] A (fun r A' => P r A' ∧ uf_W uw231 A A' ∧ uf_H A') := uf_X (X := ug_x73) (j := 73) rfl rfl (ug_L.cons uf_r1 (uf_int (uf_int (uf_int uf_nil)))) hH w
def uw122 : Nat := 6901746346790563787434755862277025452451108972171271998878062282276864
theorem uf_k122 {d : Nat} {A : hs_A} {P : Option Value → hs_A → Prop} (hH : uf_H A) (a1 a2 : Int32) (w : hxC d 122 hm_m122 [.ref 1, .int a1, .int a2] A P) : hxC d 122 hm_m122 [.ref 1, .int a1, .int a2] A (fun r A' => P r A' ∧ uf_W uw122 A A' ∧ uf_H A') := uf_X (X := ug_x74) (j := 74) rfl rfl (ug_L.cons uf_r0 (uf_int (uf_int uf_nil))) hH w
def uw232 : Nat := 16296287810675888690147565507275025288411747149327490007082965588512424207462404239887695872
theorem uf_k232 {d : Nat} {A : hs_A} {P : Option Value → hs_A → Prop} (hH : uf_H A) (a1 a2 : Int32) (w : hxC d 232 hm_m232 [.ref 368, .int a1, .int a2] A P) : hxC d 232 hm_m232 [.ref 368, .int a1, .int a2] A (fun r A' => P r A' ∧ uf_W uw232 A A' ∧ uf_H A') := uf_X (X := ug_x75) (j := 75) rfl rfl (ug_L.cons uf_r1 (uf_int (uf_int uf_nil))) hH w
def uw123 : Nat := 6901746346790563787434755862277025452451108972170386555162524223799296
theorem uf_k123 {d : Nat} {A : hs_A} {P : Option Value → hs_A → Prop} (hH : uf_H A) (w : hxC d 123 hm_m123 [.ref 1] A P) : hxC d 123 hm_m123 [.ref 1] A (fun r A' => P r A' ∧ uf_W uw123 A A' ∧ uf_H A') := uf_X (X := ug_x76) (j := 76) rfl rfl (ug_L.cons uf_r0 uf_nil) hH w
def uw233 : Nat := 16296287810675888690147565507275025288411747149327490005089123594835050398106693649467179008
theorem uf_k233 {d : Nat} {A : hs_A} {P : Option Value → hs_A → Prop} (hH : uf_H A) (w : hxC d 233 hm_m233 [.ref 368] A P) : hxC d 233 hm_m233 [.ref 368] A (fun r A' => P r A' ∧ uf_W uw233 A A' ∧ uf_H A') := uf_X (X := ug_x77) (j := 77) rfl rfl (ug_L.cons uf_r1 uf_nil) hH w
def uw125 : Nat := 1186237653354628150965348663828863749640034354593113244403675068630016
theorem uf_k125 {d : Nat} {A : hs_A} {P : Option Value → hs_A → Prop} (hH : uf_H A) (a1 a2 : Int32) (w : hxC d 125 hm_m125 [.ref 1, .int a1, .int a2] A P) : hxC d 125 hm_m125 [.ref 1, .int a1, .int a2] A (fun r A' => P r A' ∧ uf_W uw125 A A' ∧ uf_H A') := uf_X (X := ug_x78) (j := 78) rfl rfl (ug_L.cons uf_r0 (uf_int (uf_int uf_nil))) hH w
def uw235 : Nat := 12433080910244666053884556203670521002511403769933692957673212879028971438088998761791488
theorem uf_k235 {d : Nat} {A : hs_A} {P : Option Value → hs_A → Prop} (hH : uf_H A) (a1 a2 : Int32) (w : hxC d 235 hm_m235 [.ref 368, .int a1, .int a2] A P) : hxC d 235 hm_m235 [.ref 368, .int a1, .int a2] A (fun r A' => P r A' ∧ uf_W uw235 A A' ∧ uf_H A') := uf_X (X := ug_x79) (j := 79) rfl rfl (ug_L.cons uf_r1 (uf_int (uf_int uf_nil))) hH w
def uw126 : Nat := 1186237653354628150965348663828863749640034354595474427645109891236864
theorem uf_k126 {d : Nat} {A : hs_A} {P : Option Value → hs_A → Prop} (hH : uf_H A) (a1 : Int32) (w : hxC d 126 hm_m126 [.ref 1, .int a1] A P) : hxC d 126 hm_m126 [.ref 1, .int a1] A (fun r A' => P r A' ∧ uf_W uw126 A A' ∧ uf_H A') := uf_X (X := ug_x80) (j := 80) rfl rfl (ug_L.cons uf_r0 (uf_int uf_nil)) hH w
def uw237 : Nat := 12433080910244666053884556203670521002511403769933692999211587747307592466332969395552256
theorem uf_k237 {d : Nat} {A : hs_A} {P : Option Value → hs_A → Prop} (hH : uf_H A) (a1 : Int32) (w : hxC d 237 hm_m237 [.ref 368, .int a1] A P) : hxC d 237 hm_m237 [.ref 368, .int a1] A (fun r A' => P r A' ∧ uf_W uw237 A A' ∧ uf_H A') := uf_X (X := ug_x81) (j := 81) rfl rfl (ug_L.cons uf_r1 (uf_int uf_nil)) hH w
def uw128 : Nat := 27386129504064957108541111261515585444469727442559870382836589401277988864
theorem uf_k128 {d : Nat} {A : hs_A} {P : Option Value → hs_A → Prop} (hH : uf_H A) (a1 : Int32) (w : hxC d 128 hm_m128 [.ref 1, .int a1] A P) : hxC d 128 hm_m128 [.ref 1, .int a1] A (fun r A' => P r A' ∧ uf_W uw128 A A' ∧ uf_H A') := uf_X (X := ug_x82) (j := 82) rfl rfl (ug_L.cons uf_r0 (uf_int uf_nil)) hH w
def uw238 : Nat := 7975367974709495237422842361682067456
theorem uf_k238 {d : Nat} {A : hs_A} {P : Option Value → hs_A → Prop} (hH : uf_H A) (a1 : Int32) (w : hxC d 238 hm_m238 [.ref 368, .int a1] A P) : hxC d 238 hm_m238 [.ref 368, .int a1] A (fun r A' => P r A' ∧ uf_W uw238 A A' ∧ uf_H A') := uf_X (X := ug_x83) (j := 83) rfl rfl (ug_L.cons uf_r1 (uf_int uf_nil)) hH w
def uw129 : Nat := 862719939047967948432373741432720211026331263156336971753572402200576
theorem uf_k129 {d : Nat} {A : hs_A} {P : Option Value → hs_A → Prop} (hH : uf_H A) (a1 : Int32) (w : hxC d 129 hm_m129 [.ref 1, .int a1] A P) : hxC d 129 hm_m129 [.ref 1, .int a1] A (fun r A' => P r A' ∧ uf_W uw129 A A' ∧ uf_H A') := uf_X (X := ug_x84) (j := 84) rfl rfl (ug_L.cons uf_r0 (uf_int uf_nil)) hH w
def uw239 : Nat := 63657374260452690195888927762793067532858387302060507832703907595982842344387428088807424
theorem uf_k239 {d : Nat} {A : hs_A} {P : Option Value → hs_A → Prop} (hH : uf_H A) (a1 : Int32) (w : hxC d 239 hm_m239 [.ref 368, .int a1] A P) : hxC d 239 hm_m239 [.ref 368, .int a1] A (fun r A' => P r A' ∧ uf_W uw239 A A' ∧ uf_H A') := uf_X (X := ug_x85) (j := 85) rfl rfl (ug_L.cons uf_r1 (uf_int uf_nil)) hH w
def uw130 : Nat := 0
theorem uf_k130 {d : Nat} {A : hs_A} {P : Option Value → hs_A → Prop} (hH : uf_H A) (a1 : Int32) (w : hxC d 130 hm_m130 [.ref 1, .int a1] A P) : hxC d 130 hm_m130 [.ref 1, .int a1] A (fun r A' => P r A' ∧ uf_W uw130 A A' ∧ uf_H A') := uf_X (X := ug_x86) (j := 86) rfl rfl (ug_L.cons uf_r0 (uf_int uf_nil)) hH w
def uw241 : Nat := 11935757673834879411729173955523700162410947619136345219220172552752681381867113053945856
theorem uf_k241 {d : Nat} {A : hs_A} {P : Option Value → hs_A → Prop} (hH : uf_H A) (a1 : Int32) (w : hxC d 241 hm_m241 [.ref 368, .int a1] A P) : hxC d 241 hm_m241 [.ref 368, .int a1] A (fun r A' => P r A' ∧ uf_W uw241 A A' ∧ uf_H A') := uf_X (X := ug_x87) (j := 87) rfl rfl (ug_L.cons uf_r1 (uf_int uf_nil)) hH w
def uwQ : Nat := 16372378265846586073791563011535646689084039216029431219938633297881682177300701207434101760
theorem hY151 {d : Nat} {Bn Br : Int} {A0 A : hs_A} (hA : hJ 0 Bn Br A0 A)   {P : Option Value → hs_A → Prop} (hP : ∀ (r : Option Value) (A' : hs_A), (A = A' ∧ ∃ z : Int32, r = some (.int z)) → P r A') : hxa (d + 0) (some (.int)) hm_t151 0 [.ref 368] [] A P := by
  refine hxa_aload_n (by rfl) rfl ?_
  refine hxj_getI (by rfl) (by rfl) (by rfl) (fun z1 ez1 => ?_)
  exact hxa_ireturn (by rfl) rfl (hP _ _ ⟨rfl, _, rfl⟩)
theorem hX151 {d : Nat} {Bn Br : Int} {A0 A : hs_A} (hA : hJ 0 Bn Br A0 A)   : hxC (d + 1) 151 hm_m151 [.ref 368] A (fun r A' => A = A' ∧ ∃ z : Int32, r = some (.int z)) := hxC.of (by rfl) (hY151 hA  (fun r A' h => h))
theorem hy_I0 : hI0 hy_A := ⟨hy_t, (by decide +kernel : ∀ q, q < 20 → hy_A.2.2.1 374 q = hky q), fun i hi => absurd hi (by rw [show (hy_A.1 0 1).toInt = 0 by decide +kernel]; omega)⟩
set_option maxRecDepth 1000000 in
theorem hy_IP : hIP hy_A := ⟨hy_I0, (by decide +kernel : (hy_A.2.2.2 0 3 = 3 ∨ hy_A.2.2.2 0 3 = 12) ∧ (hy_A.2.2.2 0 4 = 3 ∨ hy_A.2.2.2 0 4 = 12) ∧ (hy_A.2.2.2 20 2 = 3 ∨ hy_A.2.2.2 20 2 = 12) ∧ (hy_A.2.2.2 323 5 = 7 ∨ hy_A.2.2.2 323 5 = 16)), by decide +kernel⟩
set_option maxRecDepth 1000000 in
theorem uwQ_ok : (Nat.testBit uwQ (ug_o (ug_g 0) 1) || (Nat.testBit uwQ (ug_o (ug_g 367) 2) || (Nat.testBit uwQ (ug_g 1) || (Nat.testBit uwQ (ug_g 368) || (Nat.testBit uwQ (ug_g 374) || (Nat.testBit uwQ (ug_o (ug_g 0) 2) || Nat.testBit uwQ (ug_o (ug_g 367) 17))))))) = false := by decide +kernel
theorem hPLk {W1 W2 : Nat} {A A1 A2 : hs_A} (h : A.1 0 2 = A.1 367 17) (w1 : uf_W W1 A A1) (w2 : uf_W W2 A1 A2) (a : Nat.testBit W1 (ug_o (ug_g 0) 2) = false) (b : Nat.testBit W1 (ug_o (ug_g 367) 17) = false) (c : Nat.testBit W2 (ug_o (ug_g 0) 2) = false) (d : Nat.testBit W2 (ug_o (ug_g 367) 17) = false) : A2.1 0 2 = A2.1 367 17 := by
  rw [w2.1 0 _ _ 2 rfl rfl c, w2.1 367 _ _ 17 rfl rfl d, w1.1 0 _ _ 2 rfl rfl a, w1.1 367 _ _ 17 rfl rfl b]
  exact h
/-! FRAMES STEP BY STEP -/
theorem uf_W.put {M i k : Nat} {x : Int32} {A0 A A' : hs_A} (u : uf_W M A0 A) (e : A'.1 = hs_up A.1 i k x) (f : A'.2 = A.2) (b : Nat.testBit M (ug_o (ug_g i) k) = true) : uf_W M A0 A' := u.trans ⟨fun a c ks j _ _ h => by
    rw [e]
    exact hup2 (fun q => by rw [q.1, q.2, b] at h; cases h), fun _ _ _ _ _ _ _ => by rw [f], fun _ _ _ _ _ _ _ => by rw [f], fun _ _ _ _ _ _ _ => by rw [f]⟩
theorem uf_W.ar {M i k : Nat} {x : Int32} {A0 A A' : hs_A} (u : uf_W M A0 A) (e : A'.1 = A.1) (f : A'.2.1 = hs_up A.2.1 i k x) (g : A'.2.2 = A.2.2) (b : Nat.testBit M (ug_g i) = true) : uf_W M A0 A' := u.trans ⟨fun _ _ _ _ _ _ _ => by rw [e], fun a t m j _ _ h => by
    rw [f]
    exact hup2 (fun q => by rw [q.1, b] at h; cases h), fun _ _ _ _ _ _ _ => by rw [g], fun _ _ _ _ _ _ _ => by rw [g]⟩
theorem uf_W.lar {M i k : Nat} {x : Int64} {A0 A A' : hs_A} (u : uf_W M A0 A) (e : A'.1 = A.1) (f : A'.2.1 = A.2.1) (g : A'.2.2.1 = hs_upL A.2.2.1 i k x) (i4 : A'.2.2.2 = A.2.2.2) (b : Nat.testBit M (ug_g i) = true) : uf_W M A0 A' := u.trans ⟨fun _ _ _ _ _ _ _ => by rw [e], fun _ _ _ _ _ _ _ => by rw [f], fun a t m j _ _ h => by
    rw [g]
    unfold hs_upL
    rw [if_neg (fun q => by rw [q, b] at h; cases h)], fun _ _ _ _ _ _ _ => by rw [i4]⟩
theorem uf_H.e {A A' : hs_A} (h : uf_H A) (e : A'.2.2.2 = A.2.2.2) : uf_H A' := by
  unfold uf_H
  rw [e]
  exact h
theorem uf_lng {x : Int64} {as : List ug_T} {vs : List Value} (h : ug_L as vs) : ug_L (ug_j :: as) (.long x :: vs) := ⟨True.intro, h⟩
theorem hW169 {g d f : Nat} {A : hs_A} {sd n : Nat} (hlv : (A.1 367 18).toInt = (sd : Int)) (hs1 : sd ≤ 1) (hn : (A.2.1 376 sd).toInt = (n : Int)) (hn10 : n ≤ 10) {P : Option Value → hs_A → Prop} (hP : ∀ (r : Option Value) (A' : hs_A), (r = none ∧ ((∀ i k, ¬ (i = 367 ∧ (k = 47 ∨ k = 48)) → A'.1 i k = A.1 i k) ∧ A'.2.2 = A.2.2 ∧ (∀ i, ¬ i = 396 → A'.2.1 i = A.2.1 i) ∧ hmRw A (A'.2.1 396) sd n ∧ (A'.2.1 396 71).toInt = -1 ∧ A'.1 367 47 = A.2.1 382 sd ∧ (A'.1 367 48).toInt = 0)) → P r A') : hpa (f, g) d none hm_t169 0 [.ref 368, .retAddr 0] [] A P := by
  have k0 := hk_0
  have k1 := hk_1
  have k10 := hk_10
  have k20 := hk_20
  have k4294967295 := hk_4294967295
  have k50 := hk_50
  have k71 := hk_71
  have k73 := hk_73
  have L23 : ∀ (f : Nat) (x23_1 : Int32) (A23 : hs_A) (m : Nat) (fe23 : A23.1 = A.1) (lg23 : A23.2.2 = A.2.2) (fa23 : ∀ i, ¬ i = 396 → A23.2.1 i = A.2.1 i) (l23 : x23_1.toInt = (m : Int)) (mn : m ≤ n) (Rw23 : hmRw A (A23.2.1 396) sd m), hpa (f, g) d none hm_t169 23 [.ref 368, .int x23_1] [] A23 P := by
    intro f
    induction f with
    | zero => intros; exact hpa.zero
    | succ f ih23 =>
      intro x23_1 A23 m fe23 lg23 fa23 l23 mn Rw23
      have h18A23 : (A23.1 367 18).toInt = (sd : Int) := by rw [fe23]; exact hlv
      refine hpa_iload_nS (by rfl) rfl ?_
      refine hpa_aload_n (by rfl) rfl ?_
      refine hpa_get (v := .ref 377) (by rfl) (by rfl) (by rfl) rfl ?_
      refine hpa_aload_n (by rfl) rfl ?_
      refine hpj_getK (by rfl) (by rfl) (by rfl) rfl ?_
      refine hpx_iald (by rfl) (by rfl) (fun h0v1 h1v1 v1 ev1 => ?_)
      rw [show ((A23.1 367 18)).toNatClampNeg = sd by have := hn_cn (j := (A23.1 367 18)) (by omega); omega, fa23 376 (by omega)] at ev1
      have tv1 : v1.toInt = (n : Int) := by rw [← ev1]; exact hn
      refine hpj_cge (by rfl) rfl rfl (fun q2 => ?_) (fun q2 => ?_)
      ·
        refine hpa_aload_n (by rfl) rfl ?_
        refine hpa_get (v := .ref 397) (by rfl) (by rfl) (by rfl) rfl ?_
        refine hpa_bipush (by rfl) rfl ?_
        refine hpa_iconst (by rfl) rfl ?_
        refine hpx_iast (by rfl) (by rfl) (fun A3 h0A3 h1A3 eA3 fA3 gA3 => ?_)
        have faA3 : ∀ i, ¬ i = 396 → A3.2.1 i = A.2.1 i := fun i h => by rw [← fa23 i h, fA3]; funext j; exact hup2 (by omega)
        have feA3 : A3.1 = A.1 := eA3.trans fe23
        have lgA3 : A3.2.2 = A.2.2 := gA3.trans lg23
        have h18A3 : (A3.1 367 18).toInt = (sd : Int) := by rw [feA3]; exact hlv
        have hm : m = n := by omega
        have RF := Rw23.m1 (by omega) fA3 (by have := hn_cn (j := (Int32.ofNat 71)) (by omega); omega)
        rw [hm] at RF
        have M1 : (A3.2.1 396 71).toInt = -1 := by rw [fA3, show ((Int32.ofNat 71)).toNatClampNeg = 71 by have := hn_cn (j := (Int32.ofNat 71)) (by omega); omega, hup1]; exact hk_4294967295
        refine hpa_aload_n (by rfl) rfl ?_
        refine hpa_aload_n (by rfl) rfl ?_
        refine hpa_get (v := .ref 383) (by rfl) (by rfl) (by rfl) rfl ?_
        refine hpa_aload_n (by rfl) rfl ?_
        refine hpj_getK (by rfl) (by rfl) (by rfl) (hkA eA3 rfl) ?_
        refine hpx_iald (by rfl) (by rfl) (fun h0v4 h1v4 v4 ev4 => ?_)
        rw [show ((A23.1 367 18)).toNatClampNeg = sd by have := hn_cn (j := (A23.1 367 18)) (by omega); omega, faA3 382 (by omega)] at ev4
        refine hpj_putI (by rfl) (by rfl) (by rfl) (by rfl) (fun A5 eA5 fA5 => ?_)
        refine hpa_aload_n (by rfl) rfl ?_
        refine hpa_iconst (by rfl) rfl ?_
        refine hpj_putI (by rfl) (by rfl) (by rfl) (by rfl) (fun A6 eA6 fA6 => ?_)
        exact hpa_return (by rfl) rfl (hP _ _ ⟨rfl, fun i k hi => by rw [eA6, hup2 (by omega), eA5, hup2 (by omega), feA3], by rw [fA6, fA5]; exact lgA3, fun i hi => by rw [fA6, fA5]; exact faA3 i hi, by rw [fA6, fA5]; exact RF, by rw [fA6, fA5]; exact M1, by rw [eA6, hup2 (by omega), eA5, hup1]; exact ev4.symm, by rw [eA6, hup1]; exact hk_0⟩)
      ·
        refine hpa_aload_n (by rfl) rfl ?_
        refine hpa_get (v := .ref 397) (by rfl) (by rfl) (by rfl) rfl ?_
        refine hpa_iload_n (by rfl) rfl ?_
        refine hpa_aload_n (by rfl) rfl ?_
        refine hpa_get (v := .ref 378) (by rfl) (by rfl) (by rfl) rfl ?_
        refine hpa_bipush (by rfl) rfl ?_
        refine hpa_aload_n (by rfl) rfl ?_
        refine hpj_getK (by rfl) (by rfl) (by rfl) rfl ?_
        refine hpj_imul (by rfl) hk_10 rfl (by omega) (by omega) (fun z7 ez7 => ?_)
        refine hpa_iload_n (by rfl) rfl ?_
        refine hpj_iadd (by rfl) rfl rfl (by omega) (by omega) (fun z8 ez8 => ?_)
        refine hpx_iald (by rfl) (by rfl) (fun h0v9 h1v9 v9 ev9 => ?_)
        rw [show (z8).toNatClampNeg = 10 * sd + m by have := hn_cn (j := z8) (by omega); omega, fa23 377 (by omega)] at ev9
        refine hpx_iast (by rfl) (by rfl) (fun A10 h0A10 h1A10 eA10 fA10 gA10 => ?_)
        have faA10 : ∀ i, ¬ i = 396 → A10.2.1 i = A.2.1 i := fun i h => by rw [← fa23 i h, fA10]; funext j; exact hup2 (by omega)
        have feA10 : A10.1 = A.1 := eA10.trans fe23
        have lgA10 : A10.2.2 = A.2.2 := gA10.trans lg23
        have h18A10 : (A10.1 367 18).toInt = (sd : Int) := by rw [feA10]; exact hlv
        refine hpa_aload_n (by rfl) rfl ?_
        refine hpa_get (v := .ref 397) (by rfl) (by rfl) (by rfl) rfl ?_
        refine hpa_bipush (by rfl) rfl ?_
        refine hpa_iload_n (by rfl) rfl ?_
        refine hpj_iadd (by rfl) hk_10 rfl (by omega) (by omega) (fun z11 ez11 => ?_)
        refine hpa_aload_n (by rfl) rfl ?_
        refine hpa_get (v := .ref 379) (by rfl) (by rfl) (by rfl) rfl ?_
        refine hpa_bipush (by rfl) rfl ?_
        refine hpa_aload_n (by rfl) rfl ?_
        refine hpj_getK (by rfl) (by rfl) (by rfl) (hkA eA10 rfl) ?_
        refine hpj_imul (by rfl) hk_10 rfl (by omega) (by omega) (fun z12 ez12 => ?_)
        refine hpa_iload_n (by rfl) rfl ?_
        refine hpj_iadd (by rfl) rfl rfl (by omega) (by omega) (fun z13 ez13 => ?_)
        refine hpx_iald (by rfl) (by rfl) (fun h0v14 h1v14 v14 ev14 => ?_)
        rw [show (z13).toNatClampNeg = 10 * sd + m by have := hn_cn (j := z13) (by omega); omega, faA10 378 (by omega)] at ev14
        refine hpx_iast (by rfl) (by rfl) (fun A15 h0A15 h1A15 eA15 fA15 gA15 => ?_)
        have faA15 : ∀ i, ¬ i = 396 → A15.2.1 i = A.2.1 i := fun i h => by rw [← faA10 i h, fA15]; funext j; exact hup2 (by omega)
        have feA15 : A15.1 = A.1 := eA15.trans feA10
        have lgA15 : A15.2.2 = A.2.2 := gA15.trans lgA10
        have h18A15 : (A15.1 367 18).toInt = (sd : Int) := by rw [feA15]; exact hlv
        refine hpa_aload_n (by rfl) rfl ?_
        refine hpa_get (v := .ref 397) (by rfl) (by rfl) (by rfl) rfl ?_
        refine hpa_bipush (by rfl) rfl ?_
        refine hpa_iload_n (by rfl) rfl ?_
        refine hpj_iadd (by rfl) hk_20 rfl (by omega) (by omega) (fun z16 ez16 => ?_)
        refine hpa_iload_n (by rfl) rfl ?_
        refine hpx_iast (by rfl) (by rfl) (fun A17 h0A17 h1A17 eA17 fA17 gA17 => ?_)
        have faA17 : ∀ i, ¬ i = 396 → A17.2.1 i = A.2.1 i := fun i h => by rw [← faA15 i h, fA17]; funext j; exact hup2 (by omega)
        have feA17 : A17.1 = A.1 := eA17.trans feA15
        have lgA17 : A17.2.2 = A.2.2 := gA17.trans lgA15
        have h18A17 : (A17.1 367 18).toInt = (sd : Int) := by rw [feA17]; exact hlv
        refine hpa_aload_n (by rfl) rfl ?_
        refine hpa_get (v := .ref 397) (by rfl) (by rfl) (by rfl) rfl ?_
        refine hpa_bipush (by rfl) rfl ?_
        refine hpa_iload_n (by rfl) rfl ?_
        refine hpj_iadd (by rfl) hk_50 rfl (by omega) (by omega) (fun z18 ez18 => ?_)
        refine hpa_iconst (by rfl) rfl ?_
        refine hpx_iast (by rfl) (by rfl) (fun A19 h0A19 h1A19 eA19 fA19 gA19 => ?_)
        have faA19 : ∀ i, ¬ i = 396 → A19.2.1 i = A.2.1 i := fun i h => by rw [← faA17 i h, fA19]; funext j; exact hup2 (by omega)
        have feA19 : A19.1 = A.1 := eA19.trans feA17
        have lgA19 : A19.2.2 = A.2.2 := gA19.trans lgA17
        have h18A19 : (A19.1 367 18).toInt = (sd : Int) := by rw [feA19]; exact hlv
        have RW := Rw23.more (by omega) fA10 fA15 fA17 fA19 (by have := hn_cn (j := x23_1) (by omega); omega) (by have := hn_cn (j := z11) (by omega); omega) (by have := hn_cn (j := z16) (by omega); omega) (by have := hn_cn (j := z18) (by omega); omega) ev9.symm ev14.symm l23 hk_1
        refine hpj_iinc (by rfl) rfl rfl hk_1 (by omega) (by omega) (fun _ => rfl) (fun z20 ez20 => ?_)
        refine hpa_goto (by rfl) ?_
        exact ih23 z20 A19 (m + 1) feA19 lgA19 faA19 (by omega) (by omega) RW
  have L2 : ∀ (f : Nat) (x2_1 : Int32) (A2 : hs_A) (fe2 : A2.1 = A.1) (lg2 : A2.2.2 = A.2.2) (fa2 : ∀ i, ¬ i = 396 → A2.2.1 i = A.2.1 i) (z2 : ∀ j : Nat, (j : Int) < x2_1.toInt → (A2.2.1 396 j).toInt = 0) (lo2 : 0 ≤ x2_1.toInt) (hi2 : x2_1.toInt ≤ 73), hpa (f, g) d none hm_t169 2 [.ref 368, .int x2_1] [] A2 P := by
    intro f
    induction f with
    | zero => intros; exact hpa.zero
    | succ f ih2 =>
      intro x2_1 A2 fe2 lg2 fa2 z2 lo2 hi2
      have h18A2 : (A2.1 367 18).toInt = (sd : Int) := by rw [fe2]; exact hlv
      refine hpa_iload_nS (by rfl) rfl ?_
      refine hpa_bipush (by rfl) rfl ?_
      refine hpj_cge (by rfl) rfl hk_73 (fun q21 => ?_) (fun q21 => ?_)
      ·
        refine hpa_iconst (by rfl) rfl ?_
        refine hpa_s1 (by rfl) (Or.inl ⟨_, rfl, rfl⟩) rfl ?_
        exact L23 _ (Int32.ofNat 0) A2 0 fe2 lg2 fa2 (by omega) (Nat.zero_le _) ⟨fun i hi => False.elim (by omega), fun j hj _ _ => z2 j (by omega)⟩
      ·
        refine hpa_aload_n (by rfl) rfl ?_
        refine hpa_get (v := .ref 397) (by rfl) (by rfl) (by rfl) rfl ?_
        refine hpa_iload_n (by rfl) rfl ?_
        refine hpa_iconst (by rfl) rfl ?_
        refine hpx_iast (by rfl) (by rfl) (fun A22 h0A22 h1A22 eA22 fA22 gA22 => ?_)
        have faA22 : ∀ i, ¬ i = 396 → A22.2.1 i = A.2.1 i := fun i h => by rw [← fa2 i h, fA22]; funext j; exact hup2 (by omega)
        have feA22 : A22.1 = A.1 := eA22.trans fe2
        have lgA22 : A22.2.2 = A.2.2 := gA22.trans lg2
        have h18A22 : (A22.1 367 18).toInt = (sd : Int) := by rw [feA22]; exact hlv
        refine hpj_iinc (by rfl) rfl rfl hk_1 (by omega) (by omega) (fun _ => rfl) (fun z23 ez23 => ?_)
        refine hpa_goto (by rfl) ?_
        exact ih2 z23 A22 feA22 lgA22 faA22 (fun j hj => by rw [fA22]; by_cases q : j = (x2_1).toNatClampNeg; (rw [q, hup1]; exact hk_0); (rw [hup2 (fun w => q w.2)]; exact z2 j (by have := hn_cn (j := x2_1) (by omega); omega))) (by omega) (by omega)
  refine hpa_iconst (by rfl) rfl ?_
  refine hpa_s1 (by rfl) (Or.inl ⟨_, rfl, rfl⟩) rfl ?_
  exact L2 _ (Int32.ofNat 0) A rfl rfl (fun _ _ => rfl) (fun j hj => False.elim (by omega)) (by omega) (by omega)
theorem hP169 {g d : Nat} {A : hs_A} {sd n : Nat} (hlv : (A.1 367 18).toInt = (sd : Int)) (hs1 : sd ≤ 1) (hn : (A.2.1 376 sd).toInt = (n : Int)) (hn10 : n ≤ 10) : hpC g d 169 hm_m169 [.ref 368] A (fun r A' => r = none ∧ ((∀ i k, ¬ (i = 367 ∧ (k = 47 ∨ k = 48)) → A'.1 i k = A.1 i k) ∧ A'.2.2 = A.2.2 ∧ (∀ i, ¬ i = 396 → A'.2.1 i = A.2.1 i) ∧ hmRw A (A'.2.1 396) sd n ∧ (A'.2.1 396 71).toInt = -1 ∧ A'.1 367 47 = A.2.1 382 sd ∧ (A'.1 367 48).toInt = 0)) := hpC.all (fun f d => hW169 hlv hs1 hn hn10 (fun r A' h => h))
theorem hW170 {g d f : Nat} {A : hs_A}  {P : Option Value → hs_A → Prop} (hP : ∀ (r : Option Value) (A' : hs_A), (r = none ∧ (A'.1 = A.1 ∧ A'.2.2 = A.2.2 ∧ (∀ i, ¬ i = 395 → A'.2.1 i = A.2.1 i) ∧ (∀ j, j < 73 → A'.2.1 395 j = A.2.1 396 j))) → P r A') : hpa (f, g) d none hm_t170 0 [.ref 368, .retAddr 0] [] A P := by
  have k0 := hk_0
  have k1 := hk_1
  have k73 := hk_73
  have L2 : ∀ (f : Nat) (x2_1 : Int32) (A2 : hs_A) (fe2 : A2.1 = A.1) (lg2 : A2.2.2 = A.2.2) (fa2 : ∀ i, ¬ i = 395 → A2.2.1 i = A.2.1 i) (z2 : ∀ j : Nat, (j : Int) < x2_1.toInt → A2.2.1 395 j = A.2.1 396 j) (lo2 : 0 ≤ x2_1.toInt) (hi2 : x2_1.toInt ≤ 73), hpa (f, g) d none hm_t170 2 [.ref 368, .int x2_1] [] A2 P := by
    intro f
    induction f with
    | zero => intros; exact hpa.zero
    | succ f ih2 =>
      intro x2_1 A2 fe2 lg2 fa2 z2 lo2 hi2
      refine hpa_iload_nS (by rfl) rfl ?_
      refine hpa_bipush (by rfl) rfl ?_
      refine hpj_cge (by rfl) rfl hk_73 (fun q1 => ?_) (fun q1 => ?_)
      ·
        exact hpa_return (by rfl) rfl (hP _ _ ⟨rfl, fe2, lg2, fa2, fun j hj => z2 j (by omega)⟩)
      ·
        refine hpa_aload_n (by rfl) rfl ?_
        refine hpa_get (v := .ref 396) (by rfl) (by rfl) (by rfl) rfl ?_
        refine hpa_iload_n (by rfl) rfl ?_
        refine hpa_aload_n (by rfl) rfl ?_
        refine hpa_get (v := .ref 397) (by rfl) (by rfl) (by rfl) rfl ?_
        refine hpa_iload_n (by rfl) rfl ?_
        refine hpx_iald (by rfl) (by rfl) (fun h0v2 h1v2 v2 ev2 => ?_)
        rw [fa2 396 (by omega)] at ev2
        refine hpx_iast (by rfl) (by rfl) (fun A3 h0A3 h1A3 eA3 fA3 gA3 => ?_)
        refine hpj_iinc (by rfl) rfl rfl hk_1 (by omega) (by omega) (fun _ => rfl) (fun z4 ez4 => ?_)
        refine hpa_goto (by rfl) ?_
        exact ih2 z4 A3 (eA3.trans fe2) (gA3.trans lg2) (fun i h => by rw [← fa2 i h, fA3]; funext j; exact hup2 (by omega)) (fun j hj => by rw [fA3]; by_cases q : j = (x2_1).toNatClampNeg; (rw [q, hup1]; exact ev2.symm); (rw [hup2 (fun w => q w.2)]; exact z2 j (by have := hn_cn (j := x2_1) (by omega); omega))) (by omega) (by omega)
  refine hpa_iconst (by rfl) rfl ?_
  refine hpa_s1 (by rfl) (Or.inl ⟨_, rfl, rfl⟩) rfl ?_
  exact L2 _ (Int32.ofNat 0) A rfl rfl (fun _ _ => rfl) (fun j hj => False.elim (by omega)) (by omega) (by omega)
theorem hP170 {g d : Nat} {A : hs_A}  : hpC g d 170 hm_m170 [.ref 368] A (fun r A' => r = none ∧ (A'.1 = A.1 ∧ A'.2.2 = A.2.2 ∧ (∀ i, ¬ i = 395 → A'.2.1 i = A.2.1 i) ∧ (∀ j, j < 73 → A'.2.1 395 j = A.2.1 396 j))) := hpC.all (fun f d => hW170  (fun r A' h => h))
def uM149r : Nat := 312579859919558519412028866560
theorem hW149r {g d f : Nat} {A : hs_A} {V : Nat → Int} {sd : Nat} (a1 : Int32) (ha : a1.toInt = (sd : Int)) (hs1 : sd ≤ 1) (hH0 : uf_H A) {P : Option Value → hs_A → Prop} (hP : ∀ (r : Option Value) (A' : hs_A), (r = none ∧ (hmPo A A' ∧ (A'.2.1 376 sd).toInt = 0 ∧ (A'.2.1 379 sd).toInt = 0 ∧ (∀ b z : Nat, hmM V A' sd [] hg_d0 b z) ∧ hOT (1 - sd) A A')) → P r A') : hpa (f, g) d none hm_t149 0 [.ref 368, .int a1, .retAddr 0] [] A P := by
  have k0 := hk_0
  have k1 := hk_1
  have k24 := hk_24
  have k4 := hk_4
  have k6 := hk_6
  have hia : a1.toNatClampNeg = sd := by have := hn_cn (j := a1) (by omega); omega
  have U0 : uf_W uM149r A A := uf_W.rfl
  have O0 : hOT (1 - sd) A A := hOT_r
  have L57 : ∀ (f : Nat) (x57_2 : Int32) (A57 : hs_A) (P57 : hmPo A A57) (z157 : (A57.2.1 376 sd).toInt = 0) (z257 : (A57.2.1 379 sd).toInt = 0) (gr57 : (A57.2.1 381 sd).toInt = 6) (se57 : (A57.2.1 382 sd).toInt = 0) (sn57 : ∀ h : Nat, (h : Int) < 24 → (A57.2.1 380 (24 * sd + h)).toInt = 0) (lf57 : ∀ k : Nat, (k : Int) < x57_2.toInt → (A57.2.1 383 (4 * sd + k)).toInt = 0) (ll57 : ∀ k : Nat, (k : Int) < x57_2.toInt → (A57.2.1 384 (4 * sd + k)).toInt = 0) (lo : 0 ≤ x57_2.toInt) (hi : x57_2.toInt ≤ 4) (O57 : hOT (1 - sd) A A57) (U57 : uf_W uM149r A A57) (H57 : uf_H A57), hpa (f, g) d none hm_t149 57 [.ref 368, .int a1, .int x57_2] [] A57 P := by
    intro f
    induction f with
    | zero => intros; exact hpa.zero
    | succ f ih57 =>
      intro x57_2 A57 P57 z157 z257 gr57 se57 sn57 lf57 ll57 lo hi O57 U57 H57
      refine hpa_iload_nS (by rfl) rfl ?_
      refine hpa_iconst (by rfl) rfl ?_
      refine hpj_cge (by rfl) rfl hk_4 (fun q1 => ?_) (fun q1 => ?_)
      ·
        exact hpa_return (by rfl) rfl (hP _ _ ⟨rfl, P57, z157, z257, fun b z => ⟨fun k hk => ⟨0, 0, lf57 k (by omega), ll57 k (by omega), Or.inl ⟨rfl, rfl⟩⟩, ⟨fun h hh => sn57 h (by omega), gr57, se57⟩, trivial⟩, O57⟩)
      ·
        refine hpa_aload_n (by rfl) rfl ?_
        refine hpa_get (v := .ref 384) (by rfl) (by rfl) (by rfl) rfl ?_
        refine hpa_iconst (by rfl) rfl ?_
        refine hpa_iload_n (by rfl) rfl ?_
        refine hpj_imul (by rfl) hk_4 rfl (by omega) (by omega) (fun z2 ez2 => ?_)
        refine hpa_iload_n (by rfl) rfl ?_
        refine hpj_iadd (by rfl) rfl rfl (by omega) (by omega) (fun z3 ez3 => ?_)
        refine hpa_iconst (by rfl) rfl ?_
        refine hpx_iast (by rfl) (by rfl) (fun A4 h0A4 h1A4 eA4 fA4 gA4 => ?_)
        have UA4 := (U57).ar eA4 fA4 gA4 (by decide +kernel)
        have HA4 := (H57).e (congrArg (fun q => q.2) gA4)
        have OA4 : hOT (1 - sd) A A4 := (O57).a fA4 (fun hl => by unfold hlq at hl; omega)
        have PA4 := (P57).a eA4 fA4 gA4 (by omega)
        have z1A4 : (A4.2.1 376 sd).toInt = 0 := by rw [fA4, hup2 (by omega)]; exact z157
        have z2A4 : (A4.2.1 379 sd).toInt = 0 := by rw [fA4, hup2 (by omega)]; exact z257
        have grA4 : (A4.2.1 381 sd).toInt = 6 := by rw [fA4, hup2 (by omega)]; exact gr57
        have seA4 : (A4.2.1 382 sd).toInt = 0 := by rw [fA4, hup2 (by omega)]; exact se57
        have snA4 : ∀ h : Nat, (h : Int) < 24 → (A4.2.1 380 (24 * sd + h)).toInt = 0 := fun h hh => by rw [fA4, hup2 (by omega)]; exact sn57 h hh
        have llA4 : ∀ k : Nat, (k : Int) < x57_2.toInt → (A4.2.1 384 (4 * sd + k)).toInt = 0 := fun h hh => by rw [fA4, hup2 (by omega)]; exact ll57 h hh
        have hxA4 : (z3).toNatClampNeg = 4 * sd + x57_2.toNatClampNeg := by have := hn_cn (j := z3) (by omega); have := hn_cn (j := x57_2) (by omega); omega
        have lfA4 : ∀ k : Nat, (k : Int) < x57_2.toInt + 1 → (A4.2.1 383 (4 * sd + k)).toInt = 0 := fun h hh => by rw [fA4, hxA4]; by_cases q : h = x57_2.toNatClampNeg; (rw [q, hup1]; exact hk_0); (rw [hup2 (fun w => q (by omega))]; exact lf57 h (by have := hn_cn (j := x57_2) (by omega); omega))
        refine hpa_aload_n (by rfl) rfl ?_
        refine hpa_get (v := .ref 385) (by rfl) (by rfl) (by rfl) rfl ?_
        refine hpa_iconst (by rfl) rfl ?_
        refine hpa_iload_n (by rfl) rfl ?_
        refine hpj_imul (by rfl) hk_4 rfl (by omega) (by omega) (fun z5 ez5 => ?_)
        refine hpa_iload_n (by rfl) rfl ?_
        refine hpj_iadd (by rfl) rfl rfl (by omega) (by omega) (fun z6 ez6 => ?_)
        refine hpa_iconst (by rfl) rfl ?_
        refine hpx_iast (by rfl) (by rfl) (fun A7 h0A7 h1A7 eA7 fA7 gA7 => ?_)
        have UA7 := (UA4).ar eA7 fA7 gA7 (by decide +kernel)
        have HA7 := (HA4).e (congrArg (fun q => q.2) gA7)
        have OA7 : hOT (1 - sd) A A7 := (OA4).a fA7 (fun hl => by unfold hlq at hl; omega)
        have PA7 := (PA4).a eA7 fA7 gA7 (by omega)
        have z1A7 : (A7.2.1 376 sd).toInt = 0 := by rw [fA7, hup2 (by omega)]; exact z1A4
        have z2A7 : (A7.2.1 379 sd).toInt = 0 := by rw [fA7, hup2 (by omega)]; exact z2A4
        have grA7 : (A7.2.1 381 sd).toInt = 6 := by rw [fA7, hup2 (by omega)]; exact grA4
        have seA7 : (A7.2.1 382 sd).toInt = 0 := by rw [fA7, hup2 (by omega)]; exact seA4
        have snA7 : ∀ h : Nat, (h : Int) < 24 → (A7.2.1 380 (24 * sd + h)).toInt = 0 := fun h hh => by rw [fA7, hup2 (by omega)]; exact snA4 h hh
        have lfA7 : ∀ k : Nat, (k : Int) < x57_2.toInt + 1 → (A7.2.1 383 (4 * sd + k)).toInt = 0 := fun h hh => by rw [fA7, hup2 (by omega)]; exact lfA4 h hh
        have hxA7 : (z6).toNatClampNeg = 4 * sd + x57_2.toNatClampNeg := by have := hn_cn (j := z6) (by omega); have := hn_cn (j := x57_2) (by omega); omega
        have llA7 : ∀ k : Nat, (k : Int) < x57_2.toInt + 1 → (A7.2.1 384 (4 * sd + k)).toInt = 0 := fun h hh => by rw [fA7, hxA7]; by_cases q : h = x57_2.toNatClampNeg; (rw [q, hup1]; exact hk_0); (rw [hup2 (fun w => q (by omega))]; exact llA4 h (by have := hn_cn (j := x57_2) (by omega); omega))
        refine hpj_iinc (by rfl) rfl rfl hk_1 (by omega) (by omega) (fun _ => rfl) (fun z8 ez8 => ?_)
        refine hpa_goto (by rfl) ?_
        exact ih57 z8 A7 PA7 z1A7 z2A7 grA7 seA7 (fun h hh => snA7 h (by omega)) (fun h hh => lfA7 h (by omega)) (fun h hh => llA7 h (by omega)) (by omega) (by omega) OA7 UA7 HA7
  have L31 : ∀ (f : Nat) (x31_2 : Int32) (A31 : hs_A) (P31 : hmPo A A31) (z131 : (A31.2.1 376 sd).toInt = 0) (z231 : (A31.2.1 379 sd).toInt = 0) (gr31 : (A31.2.1 381 sd).toInt = 6) (se31 : (A31.2.1 382 sd).toInt = 0) (sn31 : ∀ h : Nat, (h : Int) < x31_2.toInt → (A31.2.1 380 (24 * sd + h)).toInt = 0) (lo : 0 ≤ x31_2.toInt) (hi : x31_2.toInt ≤ 24) (O31 : hOT (1 - sd) A A31) (U31 : uf_W uM149r A A31) (H31 : uf_H A31), hpa (f, g) d none hm_t149 31 [.ref 368, .int a1, .int x31_2] [] A31 P := by
    intro f
    induction f with
    | zero => intros; exact hpa.zero
    | succ f ih31 =>
      intro x31_2 A31 P31 z131 z231 gr31 se31 sn31 lo hi O31 U31 H31
      refine hpa_iload_nS (by rfl) rfl ?_
      refine hpa_bipush (by rfl) rfl ?_
      refine hpj_cge (by rfl) rfl hk_24 (fun q9 => ?_) (fun q9 => ?_)
      ·
        refine hpa_iconst (by rfl) rfl ?_
        refine hpa_s1 (by rfl) (Or.inl ⟨_, rfl, rfl⟩) rfl ?_
        exact L57 _ (Int32.ofNat 0) A31 P31 z131 z231 gr31 se31 (fun h hh => sn31 h (by omega)) (fun h hh => False.elim (by omega)) (fun h hh => False.elim (by omega)) (by omega) (by omega) O31 U31 H31
      ·
        refine hpa_aload_n (by rfl) rfl ?_
        refine hpa_get (v := .ref 381) (by rfl) (by rfl) (by rfl) rfl ?_
        refine hpa_bipush (by rfl) rfl ?_
        refine hpa_iload_n (by rfl) rfl ?_
        refine hpj_imul (by rfl) hk_24 rfl (by omega) (by omega) (fun z10 ez10 => ?_)
        refine hpa_iload_n (by rfl) rfl ?_
        refine hpj_iadd (by rfl) rfl rfl (by omega) (by omega) (fun z11 ez11 => ?_)
        refine hpa_iconst (by rfl) rfl ?_
        refine hpx_iast (by rfl) (by rfl) (fun A12 h0A12 h1A12 eA12 fA12 gA12 => ?_)
        have UA12 := (U31).ar eA12 fA12 gA12 (by decide +kernel)
        have HA12 := (H31).e (congrArg (fun q => q.2) gA12)
        have OA12 : hOT (1 - sd) A A12 := (O31).a fA12 (fun hl => by have := hn_cn (j := z11) (by omega); unfold hlq at hl; omega)
        have PA12 := (P31).a eA12 fA12 gA12 (by omega)
        have z1A12 : (A12.2.1 376 sd).toInt = 0 := by rw [fA12, hup2 (by omega)]; exact z131
        have z2A12 : (A12.2.1 379 sd).toInt = 0 := by rw [fA12, hup2 (by omega)]; exact z231
        have grA12 : (A12.2.1 381 sd).toInt = 6 := by rw [fA12, hup2 (by omega)]; exact gr31
        have seA12 : (A12.2.1 382 sd).toInt = 0 := by rw [fA12, hup2 (by omega)]; exact se31
        have hxA12 : (z11).toNatClampNeg = 24 * sd + x31_2.toNatClampNeg := by have := hn_cn (j := z11) (by omega); have := hn_cn (j := x31_2) (by omega); omega
        have snA12 : ∀ h : Nat, (h : Int) < x31_2.toInt + 1 → (A12.2.1 380 (24 * sd + h)).toInt = 0 := fun h hh => by rw [fA12, hxA12]; by_cases q : h = x31_2.toNatClampNeg; (rw [q, hup1]; exact hk_0); (rw [hup2 (fun w => q (by omega))]; exact sn31 h (by have := hn_cn (j := x31_2) (by omega); omega))
        refine hpj_iinc (by rfl) rfl rfl hk_1 (by omega) (by omega) (fun _ => rfl) (fun z13 ez13 => ?_)
        refine hpa_goto (by rfl) ?_
        exact ih31 z13 A12 PA12 z1A12 z2A12 grA12 seA12 (fun h hh => snA12 h (by omega)) (by omega) (by omega) OA12 UA12 HA12
  refine hpa_aload_n (by rfl) rfl ?_
  refine hpa_get (v := .ref 377) (by rfl) (by rfl) (by rfl) rfl ?_
  refine hpa_iload_n (by rfl) rfl ?_
  refine hpa_iconst (by rfl) rfl ?_
  refine hpx_iast (by rfl) (by rfl) (fun A14 h0A14 h1A14 eA14 fA14 gA14 => ?_)
  have UA14 := (U0).ar eA14 fA14 gA14 (by decide +kernel)
  have HA14 := (hH0).e (congrArg (fun q => q.2) gA14)
  have OA14 : hOT (1 - sd) A A14 := (O0).a fA14 (fun hl => by have := hn_cn (j := a1) (by omega); unfold hlq at hl; omega)
  have PA14 := (hmPo.rfl (A := A)).a eA14 fA14 gA14 (by omega)
  have z1A14 : (A14.2.1 376 sd).toInt = 0 := by rw [fA14, hia, hup1]; exact hk_0
  refine hpa_aload_n (by rfl) rfl ?_
  refine hpa_get (v := .ref 380) (by rfl) (by rfl) (by rfl) rfl ?_
  refine hpa_iload_n (by rfl) rfl ?_
  refine hpa_iconst (by rfl) rfl ?_
  refine hpx_iast (by rfl) (by rfl) (fun A15 h0A15 h1A15 eA15 fA15 gA15 => ?_)
  have UA15 := (UA14).ar eA15 fA15 gA15 (by decide +kernel)
  have HA15 := (HA14).e (congrArg (fun q => q.2) gA15)
  have OA15 : hOT (1 - sd) A A15 := (OA14).a fA15 (fun hl => by have := hn_cn (j := a1) (by omega); unfold hlq at hl; omega)
  have PA15 := (PA14).a eA15 fA15 gA15 (by omega)
  have z1A15 : (A15.2.1 376 sd).toInt = 0 := by rw [fA15, hup2 (by omega)]; exact z1A14
  have z2A15 : (A15.2.1 379 sd).toInt = 0 := by rw [fA15, hia, hup1]; exact hk_0
  refine hpa_aload_n (by rfl) rfl ?_
  refine hpa_get (v := .ref 382) (by rfl) (by rfl) (by rfl) rfl ?_
  refine hpa_iload_n (by rfl) rfl ?_
  refine hpa_bipush (by rfl) rfl ?_
  refine hpx_iast (by rfl) (by rfl) (fun A16 h0A16 h1A16 eA16 fA16 gA16 => ?_)
  have UA16 := (UA15).ar eA16 fA16 gA16 (by decide +kernel)
  have HA16 := (HA15).e (congrArg (fun q => q.2) gA16)
  have OA16 : hOT (1 - sd) A A16 := (OA15).a fA16 (fun hl => by have := hn_cn (j := a1) (by omega); unfold hlq at hl; omega)
  have PA16 := (PA15).a eA16 fA16 gA16 (by omega)
  have z1A16 : (A16.2.1 376 sd).toInt = 0 := by rw [fA16, hup2 (by omega)]; exact z1A15
  have z2A16 : (A16.2.1 379 sd).toInt = 0 := by rw [fA16, hup2 (by omega)]; exact z2A15
  have grA16 : (A16.2.1 381 sd).toInt = 6 := by rw [fA16, hia, hup1]; exact hk_6
  refine hpa_aload_n (by rfl) rfl ?_
  refine hpa_get (v := .ref 383) (by rfl) (by rfl) (by rfl) rfl ?_
  refine hpa_iload_n (by rfl) rfl ?_
  refine hpa_iconst (by rfl) rfl ?_
  refine hpx_iast (by rfl) (by rfl) (fun A17 h0A17 h1A17 eA17 fA17 gA17 => ?_)
  have UA17 := (UA16).ar eA17 fA17 gA17 (by decide +kernel)
  have HA17 := (HA16).e (congrArg (fun q => q.2) gA17)
  have OA17 : hOT (1 - sd) A A17 := (OA16).a fA17 (fun hl => by have := hn_cn (j := a1) (by omega); unfold hlq at hl; omega)
  have PA17 := (PA16).a eA17 fA17 gA17 (by omega)
  have z1A17 : (A17.2.1 376 sd).toInt = 0 := by rw [fA17, hup2 (by omega)]; exact z1A16
  have z2A17 : (A17.2.1 379 sd).toInt = 0 := by rw [fA17, hup2 (by omega)]; exact z2A16
  have grA17 : (A17.2.1 381 sd).toInt = 6 := by rw [fA17, hup2 (by omega)]; exact grA16
  have seA17 : (A17.2.1 382 sd).toInt = 0 := by rw [fA17, hia, hup1]; exact hk_0
  refine hpa_iconst (by rfl) rfl ?_
  refine hpa_s1 (by rfl) (Or.inl ⟨_, rfl, rfl⟩) rfl ?_
  exact L31 _ (Int32.ofNat 0) A17 PA17 z1A17 z2A17 grA17 seA17 (fun h hh => False.elim (by omega)) (by omega) (by omega) OA17 UA17 HA17
theorem hP149r {g d : Nat} {A : hs_A} {V : Nat → Int} {sd : Nat} (a1 : Int32) (ha : a1.toInt = (sd : Int)) (hs1 : sd ≤ 1) (hH0 : uf_H A) : hpC g d 149 hm_m149 [.ref 368, .int a1] A (fun r A' => r = none ∧ (hmPo A A' ∧ (A'.2.1 376 sd).toInt = 0 ∧ (A'.2.1 379 sd).toInt = 0 ∧ (∀ b z : Nat, hmM V A' sd [] hg_d0 b z) ∧ hOT (1 - sd) A A')) := hpC.all (fun f d => hW149r a1 ha hs1 hH0 (fun r A' h => h))
def uM156r : Nat := 33174433566491089988853087204989085599961850606706026239579745138443142513557504
theorem hW156r {g d f : Nat} {A : hs_A} {K V S : Nat → Int} {E : Nat → Nat → Bool} {t : Nat} {a b c : Nat} {ns : List Nat} {nm sn sd : Nat} {o : Option (Nat × Nat)} {bb zz : Nat} (hS : hmS K S) (hB : hmB K V S E A t (1, a, b, c, ns, nm, sn, o)) (hR : hmR S A t ns sn o sd 0) (hM : hmM V A sd ns (hg_q K V E t).1 bb zz) (hb : (A.1 367 31).toInt = (bb : Int)) (hz : (A.1 367 37).toInt = (zz : Int)) (hH0 : uf_H A) {P : Option Value → hs_A → Prop} (hP : ∀ (r : Option Value) (A' : hs_A), (r = none ∧ ((hmOK2 K V S E A' t sd ∧ hOT (1 - sd) A A') ∨ (hmF K V S E A' ∧ hOT (1 - sd) A A'))) → P r A') : hpa (f, g) d none hm_t156 0 [.ref 368, .retAddr 0, .retAddr 0, .retAddr 0] [] A P := by
  have k0 := hk_0
  have k1 := hk_1
  have k10 := hk_10
  have k255 := hk_255
  have k3 := hk_3
  have k4 := hk_4
  have k99 := hk_99
  obtain ⟨h400, hpre, hix, hkk, hss, hvv⟩ := hB.at
  have hnx := hB.2.1
  have hqq := hB.2.2.1
  have hf0 := hB.2.2.2
  have hl10y : ns.length ≤ 10 := (hq_q_inv hqq).1.2.2.1
  have rs0 := hR.1
  have rs01 := hR.2.1
  have rh0 := hR.2.2.2.1
  have hcs0 := hn_cn (j := A.1 367 19) (by omega)
  have hns10 : ns.length < 10 := (hq_q_inv hqq).1.2.2.2.1 ⟨(by decide : 1 ≤ 1), (by decide : 1 ≤ 4)⟩
  have U0 : uf_W uM156r A A := uf_W.rfl
  have O0 : hOT (1 - sd) A A := hOT_r
  have L30 : ∀ (f : Nat) (x30_1 : Int32) (x30_2 : Int32) (x30_3 : Int32) (A30 : hs_A) (l1 : x30_1.toInt = 10 * (sd : Int) + (ns.length : Int)) (l2 : x30_2.toInt = (t : Int)) (lo : 0 ≤ x30_3.toInt) (D30 : (hmB K V S E A30 (t + 1) (2, 0, 0, 0, ns, t, sn, (if ns.any (fun u => E u t) then hq_late 3 t o else o)) ∧ hmR S A30 (t + 1) ns sn (if (ns.drop (ns.length - (x30_3.toInt).toNat)).any (fun u => E u t) then hq_late 3 t o else o) sd 0 ∧ x30_3.toInt ≤ (ns.length : Int) ∧ K t = 20 ∧ hmQ A A30 ∧ hg_q K V E (t + 1) = hg_q K V E t) ∨ hmF K V S E A30) (O30 : hOT (1 - sd) A A30) (U30 : uf_W uM156r A A30) (H30 : uf_H A30), hpa (f, g) d none hm_t156 30 [.ref 368, .int x30_1, .int x30_2, .int x30_3] [] A30 P := by
    intro f
    induction f with
    | zero => intros; exact hpa.zero
    | succ f ih30 =>
      intro x30_1 x30_2 x30_3 A30 l1 l2 lo D30 O30 U30 H30
      rcases D30 with ⟨B1, R1, le1, kt, Q1, GN1⟩ | F1
      ·
        have f01 := B1.2.2.2
        have nx1 := B1.2.1
        have rn1 := R1.2.2.2.2.2.1
        have rd1 := R1.2.2.1
        refine hpa_iload_nS (by rfl) rfl ?_
        refine hpa_aload_n (by rfl) rfl ?_
        refine hpj_getK (by rfl) (by rfl) (by rfl) rfl ?_
        refine hpj_cge (by rfl) rfl rfl (fun q1 => ?_) (fun q1 => ?_)
        ·
          rw [show ns.length - x30_3.toInt.toNat = 0 by omega, List.drop_zero] at R1
          have M1 := hM.Q Q1
          have hb1 : (A30.1 367 31).toInt = (bb : Int) := by rw [Q1.1 31 (by omega)]; exact hb
          have hz1 : (A30.1 367 37).toInt = (zz : Int) := by rw [Q1.1 37 (by omega)]; exact hz
          refine hpa_aload_n (by rfl) rfl ?_
          refine hpa_get (v := .ref 378) (by rfl) (by rfl) (by rfl) rfl ?_
          refine hpa_iload_n (by rfl) rfl ?_
          refine hpa_aload_n (by rfl) rfl ?_
          refine hpa_iconst (by rfl) rfl ?_
          refine hpa_sipush (by rfl) rfl ?_
          refine hpa_call0 (by rfl) (by rfl) (by rfl) (by rfl) (by rfl) (by rfl) (uf_C (X := ug_x177) (j := 177) rfl rfl (ug_L.cons (uf_rk_ok (by decide +kernel)) (uf_int (uf_int uf_nil))) H30 (hP155 (Int32.ofNat 0) (Int32.ofNat 255) hS hk_0 hk_255 B1 R1 rfl)) ?_
          rintro _ A2 ⟨⟨z3, rfl, (⟨B_A2, R_A2, Q_A2, G_A2, VV_A2⟩ | F_A2)⟩, wA2, HA2⟩
          ·
            have UA2 := (U30).trans (wA2.le (by decide +kernel : ug_wle ug_x177.2.2.2.1 uM156r = true))
            have OA2 := (O30).trans (hOT.W (by omega) wA2 (by decide +kernel))
            have f0_A2 := B_A2.2.2.2
            have nx_A2 := B_A2.2.1
            have rd_A2 := R_A2.2.2.1
            have MA2 := M1.Q Q_A2
            refine hpx_iast (by rfl) (by rfl) (fun A4 h0A4 h1A4 eA4 fA4 gA4 => ?_)
            have UA4 := (UA2).ar eA4 fA4 gA4 (by decide +kernel)
            have HA4 := (HA2).e (congrArg (fun q => q.2) gA4)
            have OA4 : hOT (1 - sd) A A4 := (OA2).a fA4 (fun hl => by have := hn_cn (j := x30_1) (by omega); unfold hlq at hl; omega)
            have BA4 := B_A2.ar eA4 fA4 gA4 (by omega)
            have RA4 := R_A2.ar eA4 fA4 gA4 (by omega)
            have f0A4 := BA4.2.2.2
            have nxA4 := BA4.2.1
            have rdA4 := RA4.2.2.1
            have hjA4 : (x30_1).toNatClampNeg = 10 * sd + ns.length := by have := hn_cn (j := x30_1) (by omega); omega
            rw [hjA4] at fA4
            have MA4 := MA2.ga fA4 (by omega)
            refine hpa_aload_n (by rfl) rfl ?_
            refine hpa_get (v := .ref 379) (by rfl) (by rfl) (by rfl) rfl ?_
            refine hpa_iload_n (by rfl) rfl ?_
            refine hpa_aload_n (by rfl) rfl ?_
            refine hpa_iconst (by rfl) rfl ?_
            refine hpa_bipush (by rfl) rfl ?_
            refine hpa_call0 (by rfl) (by rfl) (by rfl) (by rfl) (by rfl) (by rfl) (uf_C (X := ug_x177) (j := 177) rfl rfl (ug_L.cons (uf_rk_ok (by decide +kernel)) (uf_int (uf_int uf_nil))) HA4 (hP155 (Int32.ofNat 0) (Int32.ofNat 99) hS hk_0 hk_99 BA4 RA4 rfl)) ?_
            rintro _ A5 ⟨⟨z6, rfl, (⟨B_A5, R_A5, Q_A5, G_A5, VV_A5⟩ | F_A5)⟩, wA5, HA5⟩
            ·
              have UA5 := (UA4).trans (wA5.le (by decide +kernel : ug_wle ug_x177.2.2.2.1 uM156r = true))
              have OA5 := (OA4).trans (hOT.W (by omega) wA5 (by decide +kernel))
              have f0_A5 := B_A5.2.2.2
              have nx_A5 := B_A5.2.1
              have rd_A5 := R_A5.2.2.1
              have MA5 := MA4.Q Q_A5
              refine hpx_iast (by rfl) (by rfl) (fun A7 h0A7 h1A7 eA7 fA7 gA7 => ?_)
              have UA7 := (UA5).ar eA7 fA7 gA7 (by decide +kernel)
              have HA7 := (HA5).e (congrArg (fun q => q.2) gA7)
              have OA7 : hOT (1 - sd) A A7 := (OA5).a fA7 (fun hl => by have := hn_cn (j := x30_1) (by omega); unfold hlq at hl; omega)
              have BA7 := B_A5.ar eA7 fA7 gA7 (by omega)
              have RA7 := R_A5.ar eA7 fA7 gA7 (by omega)
              have f0A7 := BA7.2.2.2
              have nxA7 := BA7.2.1
              have rdA7 := RA7.2.2.1
              have hjA7 : (x30_1).toNatClampNeg = 10 * sd + ns.length := by have := hn_cn (j := x30_1) (by omega); omega
              rw [hjA7] at fA7
              have MA7 := MA5.ga fA7 (by omega)
              refine hpa_aload_n (by rfl) rfl ?_
              refine hpa_iconst (by rfl) rfl ?_
              refine hpa_call0 (by rfl) (by rfl) (by rfl) (by rfl) (by rfl) (by rfl) (uf_C (X := ug_x210) (j := 210) rfl rfl (ug_L.cons (uf_rk_ok (by decide +kernel)) (uf_int uf_nil)) HA7 (hP148 (Int32.ofNat 4) BA7 RA7 (BA7.i4 hk_4) rfl)) ?_
              rintro _ A8 ⟨⟨rfl, (⟨B_A8, R_A8, Q_A8, G_A8⟩ | F_A8)⟩, wA8, HA8⟩
              ·
                have UA8 := (UA7).trans (wA8.le (by decide +kernel : ug_wle ug_x210.2.2.2.1 uM156r = true))
                have OA8 := (OA7).trans (hOT.W (by omega) wA8 (by decide +kernel))
                have f0_A8 := B_A8.2.2.2
                have nx_A8 := B_A8.2.1
                have rd_A8 := R_A8.2.2.1
                have MA8 := MA7.Q Q_A8
                refine hpa_aload_n (by rfl) rfl ?_
                refine hpj_getK (by rfl) (by rfl) (by rfl) rfl ?_
                refine hpj_zle (by rfl) rfl (fun q9 => ?_) (fun q9 => False.elim (by omega))
                refine hpa_aload_n (by rfl) rfl ?_
                refine hpa_get (v := .ref 376) (by rfl) (by rfl) (by rfl) rfl ?_
                refine hpa_aload_n (by rfl) rfl ?_
                refine hpj_getK (by rfl) (by rfl) (by rfl) rfl ?_
                refine hpa_aload_n (by rfl) rfl ?_
                refine hpa_get (v := .ref 374) (by rfl) (by rfl) (by rfl) rfl ?_
                refine hpa_iload_n (by rfl) rfl ?_
                refine hpx_lald (by rfl) (by rfl) (fun h0v10 h1v10 v10 ev10 => ?_)
                have hi2 : x30_2.toNatClampNeg = t := by have := hn_cn (j := x30_2) (by omega); omega
                rw [hi2] at ev10
                have rn := R_A8.2.2.2.2.2.1
                have rh := R_A8.2.2.2.1
                have rs := R_A8.1
                have rs1 := R_A8.2.1
                have hcn := hn_cn (j := A8.1 367 20) (by omega)
                have hcs := hn_cn (j := A8.1 367 19) (by omega)
                have hl10 := (hq_q_inv B_A8.2.2.1).1.2.2.1
                have hl11 : (t :: ns).length = ns.length + 1 := rfl
                have hW1 : (A8.2.1 377 (10 * sd + ns.length)).toInt = V (t + 1) := by rw [Q_A8.2, fA7, hup2 (by omega), Q_A5.2, fA4, hup1]; exact VV_A2.1
                have hW2 : (A8.2.1 378 (10 * sd + ns.length)).toInt = V (t + 1 + 1) := by rw [Q_A8.2, fA7, hup1]; exact VV_A5.1
                have MH := MA8.more (u := t) hW1 hW2
                have c31 : (A8.1 367 31).toInt = (bb : Int) := by rw [Q_A8.1 31 (by omega), eA7, Q_A5.1 31 (by omega), eA4, Q_A2.1 31 (by omega)]; exact hb1
                have c37 : (A8.1 367 37).toInt = (zz : Int) := by rw [Q_A8.1 37 (by omega), eA7, Q_A5.1 37 (by omega), eA4, Q_A2.1 37 (by omega)]; exact hz1
                refine hpx_last (by rfl) (by rfl) (fun A11 h0A11 h1A11 eA11 fA11 gA11 iA11 => ?_)
                have UA11 := (UA8).lar eA11 fA11 gA11 iA11 (by decide +kernel)
                have HA11 := (HA8).e iA11
                have OA11 : hOT (1 - sd) A A11 := (OA8).eq fA11
                refine hpa_aload_n (by rfl) rfl ?_
                refine hpa_dupR (by rfl) ?_
                refine hpj_getK (by rfl) (by rfl) (by rfl) (hkA eA11 rfl) ?_
                refine hpa_iconst (by rfl) rfl ?_
                refine hpj_iadd (by rfl) rfl hk_1 (by omega) (by omega) (fun z12 ez12 => ?_)
                refine hpj_putI (by rfl) (by rfl) (by rfl) (by rfl) (fun A13 eA13 fA13 => ?_)
                have UA13 := (UA11).put eA13 fA13 (by decide +kernel)
                have HA13 := (HA11).e (congrArg (fun q => q.2.2) fA13)
                have OA13 : hOT (1 - sd) A A13 := (OA11).eq (by rw [fA13])
                refine hpa_aload_n (by rfl) rfl ?_
                refine hpa_get (v := .ref 377) (by rfl) (by rfl) (by rfl) rfl ?_
                refine hpa_aload_n (by rfl) rfl ?_
                refine hpj_getK (by rfl) (by rfl) (by rfl) (hkF eA13 (by omega) (hkA eA11 rfl)) ?_
                have s19A8_s14 := congrArg Int32.toInt (UA8.1 367 _ _ 19 rfl rfl (by decide +kernel))
                refine hpa_dup2IR (by rfl) ?_
                refine hpx_iald (by rfl) (by rfl) (fun h0v15 h1v15 v15 ev15 => ?_)
                rw [fA13, fA11, show (A8.1 367 19).toNatClampNeg = sd by omega] at ev15
                have tv15 : v15.toInt = (ns.length : Int) := by rw [← ev15]; exact rh
                refine hpa_iconst (by rfl) rfl ?_
                refine hpj_iadd (by rfl) rfl hk_1 (by omega) (by omega) (fun z16 ez16 => ?_)
                refine hpx_iast (by rfl) (by rfl) (fun A17 h0A17 h1A17 eA17 fA17 gA17 => ?_)
                have UA17 := (UA13).ar eA17 fA17 gA17 (by decide +kernel)
                have HA17 := (HA13).e (congrArg (fun q => q.2) gA17)
                have OA17 : hOT (1 - sd) A A17 := (OA13).a fA17 (fun hl => by have := hn_cn (j := (A8.1 367 19)) (by omega); unfold hlq at hl; omega)
                rw [show (A8.1 367 19).toNatClampNeg = sd by omega] at fA17
                have BA17 := B_A8.house eA11 fA11 gA11 eA13 fA13 eA17 fA17 gA17
                have RA17 := R_A8.house (u := t) eA11 fA11 gA11 (by omega) ev10 eA13 fA13 (by omega) eA17 fA17 gA17 (by omega)
                have MX := ((MH.up (A' := A11) fA11).up (A' := A13) (by rw [fA13])).ga fA17 (by omega)
                exact hpa_return (by rfl) rfl (hP _ _ ⟨rfl, Or.inl ⟨⟨_, _, _, _, _, _, _, _, _, _, by omega, BA17, RA17, by rw [G_A8, G_A5, G_A2]; show hmM V _ sd _ (hg_q K V E (t + 1)).1 _ _; rw [GN1]; exact MX, by rw [eA17, eA13, hup2 (by omega), eA11]; exact c31, by rw [eA17, eA13, hup2 (by omega), eA11]; exact c37⟩, OA17⟩⟩)
              ·
                have UA8 := (UA7).trans (wA8.le (by decide +kernel : ug_wle ug_x210.2.2.2.1 uM156r = true))
                have OA8 := (OA7).trans (hOT.W (by omega) wA8 (by decide +kernel))
                have fp_A8 := F_A8.pos
                refine hpa_aload_n (by rfl) rfl ?_
                refine hpj_getK (by rfl) (by rfl) (by rfl) rfl ?_
                refine hpj_zle (by rfl) rfl (fun q18 => False.elim (by omega)) (fun q18 => ?_)
                exact hpa_return (by rfl) rfl (hP _ _ ⟨rfl, Or.inr ⟨F_A8, OA8⟩⟩)
            ·
              have UA5 := (UA4).trans (wA5.le (by decide +kernel : ug_wle ug_x177.2.2.2.1 uM156r = true))
              have OA5 := (OA4).trans (hOT.W (by omega) wA5 (by decide +kernel))
              have fp_A5 := F_A5.pos
              refine hpx_iast (by rfl) (by rfl) (fun A19 h0A19 h1A19 eA19 fA19 gA19 => ?_)
              have UA19 := (UA5).ar eA19 fA19 gA19 (by decide +kernel)
              have HA19 := (HA5).e (congrArg (fun q => q.2) gA19)
              have OA19 : hOT (1 - sd) A A19 := (OA5).a fA19 (fun hl => by have := hn_cn (j := x30_1) (by omega); unfold hlq at hl; omega)
              have FA19 := F_A5.ar eA19 gA19
              have fpA19 := FA19.pos
              refine hpa_aload_n (by rfl) rfl ?_
              refine hpa_iconst (by rfl) rfl ?_
              refine hpa_call0 (by rfl) (by rfl) (by rfl) (by rfl) (by rfl) (by rfl) (uf_C (X := ug_x210) (j := 210) rfl rfl (ug_L.cons (uf_rk_ok (by decide +kernel)) (uf_int uf_nil)) HA19 (hP148d (Int32.ofNat 4) FA19)) ?_
              rintro _ A20 ⟨⟨rfl, F_A20⟩, wA20, HA20⟩
              have UA20 := (UA19).trans (wA20.le (by decide +kernel : ug_wle ug_x210.2.2.2.1 uM156r = true))
              have OA20 := (OA19).trans (hOT.W (by omega) wA20 (by decide +kernel))
              have fp_A20 := F_A20.pos
              refine hpa_aload_n (by rfl) rfl ?_
              refine hpj_getK (by rfl) (by rfl) (by rfl) rfl ?_
              refine hpj_zle (by rfl) rfl (fun q21 => False.elim (by omega)) (fun q21 => ?_)
              exact hpa_return (by rfl) rfl (hP _ _ ⟨rfl, Or.inr ⟨F_A20, OA20⟩⟩)
          ·
            have UA2 := (U30).trans (wA2.le (by decide +kernel : ug_wle ug_x177.2.2.2.1 uM156r = true))
            have OA2 := (O30).trans (hOT.W (by omega) wA2 (by decide +kernel))
            have fp_A2 := F_A2.pos
            refine hpx_iast (by rfl) (by rfl) (fun A22 h0A22 h1A22 eA22 fA22 gA22 => ?_)
            have UA22 := (UA2).ar eA22 fA22 gA22 (by decide +kernel)
            have HA22 := (HA2).e (congrArg (fun q => q.2) gA22)
            have OA22 : hOT (1 - sd) A A22 := (OA2).a fA22 (fun hl => by have := hn_cn (j := x30_1) (by omega); unfold hlq at hl; omega)
            have FA22 := F_A2.ar eA22 gA22
            have fpA22 := FA22.pos
            refine hpa_aload_n (by rfl) rfl ?_
            refine hpa_get (v := .ref 379) (by rfl) (by rfl) (by rfl) rfl ?_
            refine hpa_iload_n (by rfl) rfl ?_
            refine hpa_aload_n (by rfl) rfl ?_
            refine hpa_iconst (by rfl) rfl ?_
            refine hpa_bipush (by rfl) rfl ?_
            refine hpa_call0 (by rfl) (by rfl) (by rfl) (by rfl) (by rfl) (by rfl) (uf_C (X := ug_x177) (j := 177) rfl rfl (ug_L.cons (uf_rk_ok (by decide +kernel)) (uf_int (uf_int uf_nil))) HA22 (hP155d (Int32.ofNat 0) (Int32.ofNat 99) FA22)) ?_
            rintro _ A23 ⟨⟨z24, rfl, F_A23⟩, wA23, HA23⟩
            have UA23 := (UA22).trans (wA23.le (by decide +kernel : ug_wle ug_x177.2.2.2.1 uM156r = true))
            have OA23 := (OA22).trans (hOT.W (by omega) wA23 (by decide +kernel))
            have fp_A23 := F_A23.pos
            refine hpx_iast (by rfl) (by rfl) (fun A25 h0A25 h1A25 eA25 fA25 gA25 => ?_)
            have UA25 := (UA23).ar eA25 fA25 gA25 (by decide +kernel)
            have HA25 := (HA23).e (congrArg (fun q => q.2) gA25)
            have OA25 : hOT (1 - sd) A A25 := (OA23).a fA25 (fun hl => by have := hn_cn (j := x30_1) (by omega); unfold hlq at hl; omega)
            have FA25 := F_A23.ar eA25 gA25
            have fpA25 := FA25.pos
            refine hpa_aload_n (by rfl) rfl ?_
            refine hpa_iconst (by rfl) rfl ?_
            refine hpa_call0 (by rfl) (by rfl) (by rfl) (by rfl) (by rfl) (by rfl) (uf_C (X := ug_x210) (j := 210) rfl rfl (ug_L.cons (uf_rk_ok (by decide +kernel)) (uf_int uf_nil)) HA25 (hP148d (Int32.ofNat 4) FA25)) ?_
            rintro _ A26 ⟨⟨rfl, F_A26⟩, wA26, HA26⟩
            have UA26 := (UA25).trans (wA26.le (by decide +kernel : ug_wle ug_x210.2.2.2.1 uM156r = true))
            have OA26 := (OA25).trans (hOT.W (by omega) wA26 (by decide +kernel))
            have fp_A26 := F_A26.pos
            refine hpa_aload_n (by rfl) rfl ?_
            refine hpj_getK (by rfl) (by rfl) (by rfl) rfl ?_
            refine hpj_zle (by rfl) rfl (fun q27 => False.elim (by omega)) (fun q27 => ?_)
            exact hpa_return (by rfl) rfl (hP _ _ ⟨rfl, Or.inr ⟨F_A26, OA26⟩⟩)
        ·
          refine hpa_aload_n (by rfl) rfl ?_
          refine hpj_getK (by rfl) (by rfl) (by rfl) rfl ?_
          refine hpj_zne (by rfl) rfl (fun q28 => False.elim (by omega)) (fun q28 => ?_)
          refine hpa_aload_n (by rfl) rfl ?_
          refine hpa_get (v := .ref 376) (by rfl) (by rfl) (by rfl) rfl ?_
          refine hpa_iload_n (by rfl) rfl ?_
          refine hpx_lald (by rfl) (by rfl) (fun h0v29 h1v29 v29 ev29 => ?_)
          refine hpa_aload_n (by rfl) rfl ?_
          refine hpa_get (v := .ref 374) (by rfl) (by rfl) (by rfl) rfl ?_
          refine hpa_iload_n (by rfl) rfl ?_
          refine hpx_lald (by rfl) (by rfl) (fun h0v30 h1v30 v30 ev30 => ?_)
          have hi2 : x30_2.toNatClampNeg = t := by have := hn_cn (j := x30_2) (by omega); omega
          rw [hi2] at ev30
          obtain ⟨u, hu, hdr, hnu⟩ := R1.2.2.2.2.2.2.1.at (i := x30_3.toInt.toNat) (by omega)
          have hvu : v29 = A30.2.2.1 373 u := ev29.symm.trans hnu
          have hut := (hq_q_inv hqq).1.1 u hu
          have hEE := B1.1.2.1 u t (by omega) h400 (fun i hi => hpre i (by omega)) hpre hut.2 kt
          refine hpa_lcmp (by rfl) ?_
          refine hpj_zne (by rfl) rfl (fun q31 => ?_) (fun q31 => ?_)
          ·
            have hne : ¬ E u t = true := fun w => q31 (hlg0.mpr (by rw [hvu, ← ev30]; exact hEE.mpr w))
            refine hpj_iinc (by rfl) rfl rfl hk_1 (by omega) (by omega) (fun _ => rfl) (fun z32 ez32 => ?_)
            refine hpa_goto (by rfl) ?_
            exact ih30 x30_1 x30_2 z32 A30 l1 (by omega) (by omega) (Or.inl ⟨B1, by rw [show z32.toInt.toNat = x30_3.toInt.toNat + 1 by omega, hanyF hdr hne]; exact R1, by omega, kt, Q1, GN1⟩) O30 U30 H30
          ·
            have heq : E u t = true := hEE.mp (by rw [← hvu, ev30]; exact hlg0.mp q31)
            refine hpa_aload_n (by rfl) rfl ?_
            refine hpa_iconst (by rfl) rfl ?_
            refine hpa_iload_n (by rfl) rfl ?_
            refine hpa_call0 (by rfl) (by rfl) (by rfl) (by rfl) (by rfl) (by rfl) (uf_C (X := ug_x211) (j := 211) rfl rfl (ug_L.cons (uf_rk_ok (by decide +kernel)) (uf_int (uf_int uf_nil))) H30 (hP146 (Int32.ofNat 3) x30_2 hS B1 R1 l2 (Nat.le_succ t) (fun c hc => hmLt hR hc) (by split; exact Or.inr rfl; exact Or.inl rfl) (by decide) hk_3)) ?_
            rintro _ A33 ⟨⟨rfl, B_A33, R_A33, L_A33, Q_A33⟩, wA33, HA33⟩
            have UA33 := (U30).trans (wA33.le (by decide +kernel : ug_wle ug_x211.2.2.2.1 uM156r = true))
            have OA33 := (O30).trans (hOT.W (by omega) wA33 (by decide +kernel))
            have f0_A33 := B_A33.2.2.2
            have nx_A33 := B_A33.2.1
            have rd_A33 := R_A33.2.2.1
            refine hpj_iinc (by rfl) rfl rfl hk_1 (by omega) (by omega) (fun _ => rfl) (fun z34 ez34 => ?_)
            refine hpa_goto (by rfl) ?_
            exact ih30 x30_1 x30_2 z34 A33 l1 (by omega) (by omega) (Or.inl ⟨B_A33, by rw [show z34.toInt.toNat = x30_3.toInt.toNat + 1 by omega, hanyX hdr heq]; exact R_A33, by omega, kt, (Q1.trans Q_A33), GN1⟩) OA33 UA33 HA33
      ·
        have fp1 := F1.pos
        refine hpa_iload_nS (by rfl) rfl ?_
        refine hpa_aload_n (by rfl) rfl ?_
        refine hpj_getK (by rfl) (by rfl) (by rfl) rfl ?_
        refine hpj_cge (by rfl) rfl rfl (fun q35 => ?_) (fun q35 => ?_)
        ·
          refine hpa_aload_n (by rfl) rfl ?_
          refine hpa_get (v := .ref 378) (by rfl) (by rfl) (by rfl) rfl ?_
          refine hpa_iload_n (by rfl) rfl ?_
          refine hpa_aload_n (by rfl) rfl ?_
          refine hpa_iconst (by rfl) rfl ?_
          refine hpa_sipush (by rfl) rfl ?_
          refine hpa_call0 (by rfl) (by rfl) (by rfl) (by rfl) (by rfl) (by rfl) (uf_C (X := ug_x177) (j := 177) rfl rfl (ug_L.cons (uf_rk_ok (by decide +kernel)) (uf_int (uf_int uf_nil))) H30 (hP155d (Int32.ofNat 0) (Int32.ofNat 255) F1)) ?_
          rintro _ A36 ⟨⟨z37, rfl, F_A36⟩, wA36, HA36⟩
          have UA36 := (U30).trans (wA36.le (by decide +kernel : ug_wle ug_x177.2.2.2.1 uM156r = true))
          have OA36 := (O30).trans (hOT.W (by omega) wA36 (by decide +kernel))
          have fp_A36 := F_A36.pos
          refine hpx_iast (by rfl) (by rfl) (fun A38 h0A38 h1A38 eA38 fA38 gA38 => ?_)
          have UA38 := (UA36).ar eA38 fA38 gA38 (by decide +kernel)
          have HA38 := (HA36).e (congrArg (fun q => q.2) gA38)
          have OA38 : hOT (1 - sd) A A38 := (OA36).a fA38 (fun hl => by have := hn_cn (j := x30_1) (by omega); unfold hlq at hl; omega)
          have FA38 := F_A36.ar eA38 gA38
          have fpA38 := FA38.pos
          refine hpa_aload_n (by rfl) rfl ?_
          refine hpa_get (v := .ref 379) (by rfl) (by rfl) (by rfl) rfl ?_
          refine hpa_iload_n (by rfl) rfl ?_
          refine hpa_aload_n (by rfl) rfl ?_
          refine hpa_iconst (by rfl) rfl ?_
          refine hpa_bipush (by rfl) rfl ?_
          refine hpa_call0 (by rfl) (by rfl) (by rfl) (by rfl) (by rfl) (by rfl) (uf_C (X := ug_x177) (j := 177) rfl rfl (ug_L.cons (uf_rk_ok (by decide +kernel)) (uf_int (uf_int uf_nil))) HA38 (hP155d (Int32.ofNat 0) (Int32.ofNat 99) FA38)) ?_
          rintro _ A39 ⟨⟨z40, rfl, F_A39⟩, wA39, HA39⟩
          have UA39 := (UA38).trans (wA39.le (by decide +kernel : ug_wle ug_x177.2.2.2.1 uM156r = true))
          have OA39 := (OA38).trans (hOT.W (by omega) wA39 (by decide +kernel))
          have fp_A39 := F_A39.pos
          refine hpx_iast (by rfl) (by rfl) (fun A41 h0A41 h1A41 eA41 fA41 gA41 => ?_)
          have UA41 := (UA39).ar eA41 fA41 gA41 (by decide +kernel)
          have HA41 := (HA39).e (congrArg (fun q => q.2) gA41)
          have OA41 : hOT (1 - sd) A A41 := (OA39).a fA41 (fun hl => by have := hn_cn (j := x30_1) (by omega); unfold hlq at hl; omega)
          have FA41 := F_A39.ar eA41 gA41
          have fpA41 := FA41.pos
          refine hpa_aload_n (by rfl) rfl ?_
          refine hpa_iconst (by rfl) rfl ?_
          refine hpa_call0 (by rfl) (by rfl) (by rfl) (by rfl) (by rfl) (by rfl) (uf_C (X := ug_x210) (j := 210) rfl rfl (ug_L.cons (uf_rk_ok (by decide +kernel)) (uf_int uf_nil)) HA41 (hP148d (Int32.ofNat 4) FA41)) ?_
          rintro _ A42 ⟨⟨rfl, F_A42⟩, wA42, HA42⟩
          have UA42 := (UA41).trans (wA42.le (by decide +kernel : ug_wle ug_x210.2.2.2.1 uM156r = true))
          have OA42 := (OA41).trans (hOT.W (by omega) wA42 (by decide +kernel))
          have fp_A42 := F_A42.pos
          refine hpa_aload_n (by rfl) rfl ?_
          refine hpj_getK (by rfl) (by rfl) (by rfl) rfl ?_
          refine hpj_zle (by rfl) rfl (fun q43 => False.elim (by omega)) (fun q43 => ?_)
          exact hpa_return (by rfl) rfl (hP _ _ ⟨rfl, Or.inr ⟨F_A42, OA42⟩⟩)
        ·
          refine hpa_aload_n (by rfl) rfl ?_
          refine hpj_getK (by rfl) (by rfl) (by rfl) rfl ?_
          refine hpj_zne (by rfl) rfl (fun q44 => ?_) (fun q44 => False.elim (by omega))
          refine hpa_aload_n (by rfl) rfl ?_
          refine hpa_get (v := .ref 378) (by rfl) (by rfl) (by rfl) rfl ?_
          refine hpa_iload_n (by rfl) rfl ?_
          refine hpa_aload_n (by rfl) rfl ?_
          refine hpa_iconst (by rfl) rfl ?_
          refine hpa_sipush (by rfl) rfl ?_
          refine hpa_call0 (by rfl) (by rfl) (by rfl) (by rfl) (by rfl) (by rfl) (uf_C (X := ug_x177) (j := 177) rfl rfl (ug_L.cons (uf_rk_ok (by decide +kernel)) (uf_int (uf_int uf_nil))) H30 (hP155d (Int32.ofNat 0) (Int32.ofNat 255) F1)) ?_
          rintro _ A45 ⟨⟨z46, rfl, F_A45⟩, wA45, HA45⟩
          have UA45 := (U30).trans (wA45.le (by decide +kernel : ug_wle ug_x177.2.2.2.1 uM156r = true))
          have OA45 := (O30).trans (hOT.W (by omega) wA45 (by decide +kernel))
          have fp_A45 := F_A45.pos
          refine hpx_iast (by rfl) (by rfl) (fun A47 h0A47 h1A47 eA47 fA47 gA47 => ?_)
          have UA47 := (UA45).ar eA47 fA47 gA47 (by decide +kernel)
          have HA47 := (HA45).e (congrArg (fun q => q.2) gA47)
          have OA47 : hOT (1 - sd) A A47 := (OA45).a fA47 (fun hl => by have := hn_cn (j := x30_1) (by omega); unfold hlq at hl; omega)
          have FA47 := F_A45.ar eA47 gA47
          have fpA47 := FA47.pos
          refine hpa_aload_n (by rfl) rfl ?_
          refine hpa_get (v := .ref 379) (by rfl) (by rfl) (by rfl) rfl ?_
          refine hpa_iload_n (by rfl) rfl ?_
          refine hpa_aload_n (by rfl) rfl ?_
          refine hpa_iconst (by rfl) rfl ?_
          refine hpa_bipush (by rfl) rfl ?_
          refine hpa_call0 (by rfl) (by rfl) (by rfl) (by rfl) (by rfl) (by rfl) (uf_C (X := ug_x177) (j := 177) rfl rfl (ug_L.cons (uf_rk_ok (by decide +kernel)) (uf_int (uf_int uf_nil))) HA47 (hP155d (Int32.ofNat 0) (Int32.ofNat 99) FA47)) ?_
          rintro _ A48 ⟨⟨z49, rfl, F_A48⟩, wA48, HA48⟩
          have UA48 := (UA47).trans (wA48.le (by decide +kernel : ug_wle ug_x177.2.2.2.1 uM156r = true))
          have OA48 := (OA47).trans (hOT.W (by omega) wA48 (by decide +kernel))
          have fp_A48 := F_A48.pos
          refine hpx_iast (by rfl) (by rfl) (fun A50 h0A50 h1A50 eA50 fA50 gA50 => ?_)
          have UA50 := (UA48).ar eA50 fA50 gA50 (by decide +kernel)
          have HA50 := (HA48).e (congrArg (fun q => q.2) gA50)
          have OA50 : hOT (1 - sd) A A50 := (OA48).a fA50 (fun hl => by have := hn_cn (j := x30_1) (by omega); unfold hlq at hl; omega)
          have FA50 := F_A48.ar eA50 gA50
          have fpA50 := FA50.pos
          refine hpa_aload_n (by rfl) rfl ?_
          refine hpa_iconst (by rfl) rfl ?_
          refine hpa_call0 (by rfl) (by rfl) (by rfl) (by rfl) (by rfl) (by rfl) (uf_C (X := ug_x210) (j := 210) rfl rfl (ug_L.cons (uf_rk_ok (by decide +kernel)) (uf_int uf_nil)) HA50 (hP148d (Int32.ofNat 4) FA50)) ?_
          rintro _ A51 ⟨⟨rfl, F_A51⟩, wA51, HA51⟩
          have UA51 := (UA50).trans (wA51.le (by decide +kernel : ug_wle ug_x210.2.2.2.1 uM156r = true))
          have OA51 := (OA50).trans (hOT.W (by omega) wA51 (by decide +kernel))
          have fp_A51 := F_A51.pos
          refine hpa_aload_n (by rfl) rfl ?_
          refine hpj_getK (by rfl) (by rfl) (by rfl) rfl ?_
          refine hpj_zle (by rfl) rfl (fun q52 => False.elim (by omega)) (fun q52 => ?_)
          exact hpa_return (by rfl) rfl (hP _ _ ⟨rfl, Or.inr ⟨F_A51, OA51⟩⟩)
  refine hpa_bipush (by rfl) rfl ?_
  refine hpa_aload_n (by rfl) rfl ?_
  refine hpj_getK (by rfl) (by rfl) (by rfl) rfl ?_
  refine hpj_imul (by rfl) hk_10 rfl (by omega) (by omega) (fun z53 ez53 => ?_)
  refine hpa_aload_n (by rfl) rfl ?_
  refine hpa_get (v := .ref 377) (by rfl) (by rfl) (by rfl) rfl ?_
  refine hpa_aload_n (by rfl) rfl ?_
  refine hpj_getK (by rfl) (by rfl) (by rfl) rfl ?_
  refine hpx_iald (by rfl) (by rfl) (fun h0v54 h1v54 v54 ev54 => ?_)
  rw [show (A.1 367 19).toNatClampNeg = sd by omega] at ev54
  have tv54 := congrArg Int32.toInt ev54
  refine hpj_iadd (by rfl) rfl rfl (by omega) (by omega) (fun z55 ez55 => ?_)
  refine hpa_s1 (by rfl) (Or.inl ⟨_, rfl, rfl⟩) rfl ?_
  refine hpa_aload_n (by rfl) rfl ?_
  refine hpj_getK (by rfl) (by rfl) (by rfl) rfl ?_
  refine hpa_s1 (by rfl) (Or.inl ⟨_, rfl, rfl⟩) rfl ?_
  refine hpa_aload_n (by rfl) rfl ?_
  refine hpa_iconst (by rfl) rfl ?_
  refine hpa_call0 (by rfl) (by rfl) (by rfl) (by rfl) (by rfl) (by rfl) (uf_C (X := ug_x210) (j := 210) rfl rfl (ug_L.cons (uf_rk_ok (by decide +kernel)) (uf_int uf_nil)) hH0 (hP148 (Int32.ofNat 1) hB hR (hB.i1 hk_1) rfl)) ?_
  rintro _ A56 ⟨⟨rfl, (⟨B_A56, R_A56, Q_A56, G_A56⟩ | F_A56)⟩, wA56, HA56⟩
  ·
    have UA56 := (U0).trans (wA56.le (by decide +kernel : ug_wle ug_x210.2.2.2.1 uM156r = true))
    have OA56 := (O0).trans (hOT.W (by omega) wA56 (by decide +kernel))
    have f0_A56 := B_A56.2.2.2
    have nx_A56 := B_A56.2.1
    have rd_A56 := R_A56.2.2.1
    have hK20 := (hq_must_next hqq B_A56.2.2.1 rfl)
    refine hpa_iconst (by rfl) rfl ?_
    refine hpa_s1 (by rfl) (Or.inl ⟨_, rfl, rfl⟩) rfl ?_
    have e30 : ns.drop (ns.length - (Int32.ofNat 0).toInt.toNat) = [] := by
      rw [hk_0]
      exact List.drop_length
    exact L30 _ z55 (A.1 367 11) (Int32.ofNat 0) A56 (by omega) (by omega) (by omega) (Or.inl ⟨B_A56, by rw [e30]; exact R_A56, by omega, hK20, Q_A56, G_A56⟩) OA56 UA56 HA56
  ·
    have UA56 := (U0).trans (wA56.le (by decide +kernel : ug_wle ug_x210.2.2.2.1 uM156r = true))
    have OA56 := (O0).trans (hOT.W (by omega) wA56 (by decide +kernel))
    have fp_A56 := F_A56.pos
    refine hpa_iconst (by rfl) rfl ?_
    refine hpa_s1 (by rfl) (Or.inl ⟨_, rfl, rfl⟩) rfl ?_
    exact L30 _ z55 (A.1 367 11) (Int32.ofNat 0) A56 (by omega) (by omega) (by omega) (Or.inr F_A56) OA56 UA56 HA56
theorem hP156r {g d : Nat} {A : hs_A} {K V S : Nat → Int} {E : Nat → Nat → Bool} {t : Nat} {a b c : Nat} {ns : List Nat} {nm sn sd : Nat} {o : Option (Nat × Nat)} {bb zz : Nat} (hS : hmS K S) (hB : hmB K V S E A t (1, a, b, c, ns, nm, sn, o)) (hR : hmR S A t ns sn o sd 0) (hM : hmM V A sd ns (hg_q K V E t).1 bb zz) (hb : (A.1 367 31).toInt = (bb : Int)) (hz : (A.1 367 37).toInt = (zz : Int)) (hH0 : uf_H A) : hpC g d 156 hm_m156 [.ref 368] A (fun r A' => r = none ∧ ((hmOK2 K V S E A' t sd ∧ hOT (1 - sd) A A') ∨ (hmF K V S E A' ∧ hOT (1 - sd) A A'))) := hpC.all (fun f d => hW156r hS hB hR hM hb hz hH0 (fun r A' h => h))
theorem hW155z {g d f : Nat} {A : hs_A} {K V S : Nat → Int} {E : Nat → Nat → Bool} {t : Nat} {s s' : hq_S} {ns : List Nat} {sn sd od : Nat} {o : Option (Nat × Nat)} {lo hi : Int} (a1 a2 : Int32) (hS : hmS K S) (ha1 : a1.toInt = lo) (ha2 : a2.toInt = hi) (hB : hmB K V S E A t s) (hR : hmR S A t ns sn o sd od) (hd : hq_dl K V E t s = hq_must K 21 t s') {P : Option Value → hs_A → Prop} (hP : ∀ (r : Option Value) (A' : hs_A), (∃ z : Int32, r = some (.int z) ∧ ((hmB K V S E A' (t + 1) s' ∧ hmR S A' (t + 1) ns sn (hq_rng V lo hi t o) sd od ∧ hmQ A A' ∧ hg_q K V E (t + 1) = hg_dl K V t s (hg_q K V E t) ∧ z.toInt = V t ∧ K t = 21) ∨ (hmF K V S E A' ∧ (z.toInt = lo ∨ z.toInt = V t ∧ K t = 21)))) → P r A') : hpa (f, g) d (some (.int)) hm_t155 0 [.ref 368, .int a1, .int a2, .retAddr 0] [] A P := by
  have k1 := hk_1
  have k2 := hk_2
  have k5 := hk_5
  obtain ⟨h400, hpre, hix, hkk, hss, hvv⟩ := hB.at
  have hnx := hB.2.1
  have hqq := hB.2.2.1
  have hf0 := hB.2.2.2
  refine hpa_aload_n (by rfl) rfl ?_
  refine hpj_getK (by rfl) (by rfl) (by rfl) rfl ?_
  refine hpj_zgt (by rfl) rfl (fun q1 => False.elim (by omega)) (fun q1 => ?_)
  refine hpa_aload_n (by rfl) rfl ?_
  refine hpa_iconst (by rfl) rfl ?_
  refine hpa_call0 (by rfl) (by rfl) (by rfl) (by rfl) (by rfl) (by rfl) (hP144 (Int32.ofNat 2) hB) ?_
  rintro _ _ ⟨rfl, z3, rfl, (⟨fz_A2, e_A2⟩ | ⟨fz_A2, ne_A2⟩)⟩
  ·
    refine hpj_zne (by rfl) rfl (fun q4 => ?_) (fun q4 => False.elim (by omega))
    refine hpa_aload_n (by rfl) rfl ?_
    refine hpa_get (v := .ref 373) (by rfl) (by rfl) (by rfl) rfl ?_
    refine hpa_aload_n (by rfl) rfl ?_
    refine hpj_getK (by rfl) (by rfl) (by rfl) rfl ?_
    refine hpx_iald (by rfl) (by rfl) (fun h0v5 h1v5 v5 ev5 => ?_)
    rw [hix] at ev5
    have hKt : K t = 21 := (hB.i2 hk_2).mp e_A2
    have tv5 : v5.toInt = V t := by rw [← ev5]; exact hvv hKt
    refine hpa_s1 (by rfl) (Or.inl ⟨_, rfl, rfl⟩) rfl ?_
    refine hpa_iload_n (by rfl) rfl ?_
    refine hpa_iload_n (by rfl) rfl ?_
    refine hpj_clt (by rfl) rfl rfl (fun q6 => ?_) (fun q6 => ?_)
    ·
      have hrg : hq_rng V lo hi t o = hq_late 5 t o := by unfold hq_rng; rw [if_neg (fun q => by omega)]
      refine hpa_aload_n (by rfl) rfl ?_
      refine hpa_iconst (by rfl) rfl ?_
      refine hpa_aload_n (by rfl) rfl ?_
      refine hpj_getK (by rfl) (by rfl) (by rfl) rfl ?_
      refine hpa_call0 (by rfl) (by rfl) (by rfl) (by rfl) (by rfl) (by rfl) (hP146 (Int32.ofNat 5) (A.1 367 11) hS hB (hR.mono (Nat.le_succ t)) hnx (Nat.le_refl t) (fun c hc => hmLt hR hc) (Or.inl rfl) (by decide) hk_5) ?_
      rintro _ A7 ⟨rfl, B_A7, R_A7, L_A7, Q_A7⟩
      have f0_A7 := B_A7.2.2.2
      have nx_A7 := B_A7.2.1
      have rd_A7 := R_A7.2.2.1
      refine hpa_aload_n (by rfl) rfl ?_
      refine hpa_call0 (by rfl) (by rfl) (by rfl) (by rfl) (by rfl) (by rfl) (hP147b B_A7 R_A7 (by omega) (hd.trans (hq_must_ok hKt))) ?_
      rintro _ A8 ⟨rfl, (⟨B_A8, R_A8, Q_A8, G_A8⟩ | F_A8)⟩
      ·
        have f0_A8 := B_A8.2.2.2
        have nx_A8 := B_A8.2.1
        have rd_A8 := R_A8.2.2.1
        refine hpa_iload_n (by rfl) rfl ?_
        exact hpa_ireturn (by rfl) rfl (hP _ _ ⟨_, rfl, Or.inl ⟨B_A8, by rw [hrg]; exact R_A8, (Q_A7.trans Q_A8), G_A8, by omega, hKt⟩⟩)
      ·
        have fp_A8 := F_A8.pos
        refine hpa_iload_n (by rfl) rfl ?_
        exact hpa_ireturn (by rfl) rfl (hP _ _ ⟨_, rfl, Or.inr ⟨F_A8, Or.inr ⟨by omega, hKt⟩⟩⟩)
    ·
      refine hpa_iload_n (by rfl) rfl ?_
      refine hpa_iload_n (by rfl) rfl ?_
      refine hpj_cle (by rfl) rfl rfl (fun q9 => ?_) (fun q9 => ?_)
      ·
        have hrg : hq_rng V lo hi t o = o := by unfold hq_rng; rw [if_pos ⟨by omega, by omega⟩]
        refine hpa_aload_n (by rfl) rfl ?_
        refine hpa_call0 (by rfl) (by rfl) (by rfl) (by rfl) (by rfl) (by rfl) (hP147b hB hR (by omega) (hd.trans (hq_must_ok hKt))) ?_
        rintro _ A10 ⟨rfl, (⟨B_A10, R_A10, Q_A10, G_A10⟩ | F_A10)⟩
        ·
          have f0_A10 := B_A10.2.2.2
          have nx_A10 := B_A10.2.1
          have rd_A10 := R_A10.2.2.1
          refine hpa_iload_n (by rfl) rfl ?_
          exact hpa_ireturn (by rfl) rfl (hP _ _ ⟨_, rfl, Or.inl ⟨B_A10, by rw [hrg]; exact R_A10, Q_A10, G_A10, by omega, hKt⟩⟩)
        ·
          have fp_A10 := F_A10.pos
          refine hpa_iload_n (by rfl) rfl ?_
          exact hpa_ireturn (by rfl) rfl (hP _ _ ⟨_, rfl, Or.inr ⟨F_A10, Or.inr ⟨by omega, hKt⟩⟩⟩)
      ·
        have hrg : hq_rng V lo hi t o = hq_late 5 t o := by unfold hq_rng; rw [if_neg (fun q => by omega)]
        refine hpa_aload_n (by rfl) rfl ?_
        refine hpa_iconst (by rfl) rfl ?_
        refine hpa_aload_n (by rfl) rfl ?_
        refine hpj_getK (by rfl) (by rfl) (by rfl) rfl ?_
        refine hpa_call0 (by rfl) (by rfl) (by rfl) (by rfl) (by rfl) (by rfl) (hP146 (Int32.ofNat 5) (A.1 367 11) hS hB (hR.mono (Nat.le_succ t)) hnx (Nat.le_refl t) (fun c hc => hmLt hR hc) (Or.inl rfl) (by decide) hk_5) ?_
        rintro _ A11 ⟨rfl, B_A11, R_A11, L_A11, Q_A11⟩
        have f0_A11 := B_A11.2.2.2
        have nx_A11 := B_A11.2.1
        have rd_A11 := R_A11.2.2.1
        refine hpa_aload_n (by rfl) rfl ?_
        refine hpa_call0 (by rfl) (by rfl) (by rfl) (by rfl) (by rfl) (by rfl) (hP147b B_A11 R_A11 (by omega) (hd.trans (hq_must_ok hKt))) ?_
        rintro _ A12 ⟨rfl, (⟨B_A12, R_A12, Q_A12, G_A12⟩ | F_A12)⟩
        ·
          have f0_A12 := B_A12.2.2.2
          have nx_A12 := B_A12.2.1
          have rd_A12 := R_A12.2.2.1
          refine hpa_iload_n (by rfl) rfl ?_
          exact hpa_ireturn (by rfl) rfl (hP _ _ ⟨_, rfl, Or.inl ⟨B_A12, by rw [hrg]; exact R_A12, (Q_A11.trans Q_A12), G_A12, by omega, hKt⟩⟩)
        ·
          have fp_A12 := F_A12.pos
          refine hpa_iload_n (by rfl) rfl ?_
          exact hpa_ireturn (by rfl) rfl (hP _ _ ⟨_, rfl, Or.inr ⟨F_A12, Or.inr ⟨by omega, hKt⟩⟩⟩)
  ·
    refine hpj_zne (by rfl) rfl (fun q13 => False.elim (by omega)) (fun q13 => ?_)
    refine hpa_aload_n (by rfl) rfl ?_
    refine hpa_iconst (by rfl) rfl ?_
    refine hpa_call0 (by rfl) (by rfl) (by rfl) (by rfl) (by rfl) (by rfl) (hP145 (Int32.ofNat 1) hB ⟨s, hqq, hd.trans (hq_must_no (fun q => ne_A2 ((hB.i2 hk_2).mpr q)))⟩ (by decide) hk_1) ?_
    rintro _ A14 ⟨rfl, F_A14⟩
    have fp_A14 := F_A14.pos
    refine hpa_iload_n (by rfl) rfl ?_
    exact hpa_ireturn (by rfl) rfl (hP _ _ ⟨_, rfl, Or.inr ⟨F_A14, Or.inl ha1⟩⟩)
theorem hP155z {g d : Nat} {A : hs_A} {K V S : Nat → Int} {E : Nat → Nat → Bool} {t : Nat} {s s' : hq_S} {ns : List Nat} {sn sd od : Nat} {o : Option (Nat × Nat)} {lo hi : Int} (a1 a2 : Int32) (hS : hmS K S) (ha1 : a1.toInt = lo) (ha2 : a2.toInt = hi) (hB : hmB K V S E A t s) (hR : hmR S A t ns sn o sd od) (hd : hq_dl K V E t s = hq_must K 21 t s') : hpC g d 155 hm_m155 [.ref 368, .int a1, .int a2] A (fun r A' => ∃ z : Int32, r = some (.int z) ∧ ((hmB K V S E A' (t + 1) s' ∧ hmR S A' (t + 1) ns sn (hq_rng V lo hi t o) sd od ∧ hmQ A A' ∧ hg_q K V E (t + 1) = hg_dl K V t s (hg_q K V E t) ∧ z.toInt = V t ∧ K t = 21) ∨ (hmF K V S E A' ∧ (z.toInt = lo ∨ z.toInt = V t ∧ K t = 21)))) := hpC.all (fun f d => hW155z a1 a2 hS ha1 ha2 hB hR hd (fun r A' h => h))
def uM154r : Nat := 66111484028782498173134122293246067789447915556613714535392231342579349081634803548160
theorem hW154r {g d f : Nat} {A : hs_A} {K V S : Nat → Int} {E : Nat → Nat → Bool} {t : Nat} {a b c : Nat} {ns : List Nat} {nm sn sd : Nat} {o : Option (Nat × Nat)} {bb zz : Nat} (hS : hmS K S) (hV : hg_V K V) (hB : hmB K V S E A t (0, a, b, c, ns, nm, sn, o)) (hR : hmR S A t ns sn o sd 0) (hM : hmM V A sd ns (hg_q K V E t).1 bb zz) (hb : (A.1 367 31).toInt = (bb : Int)) (hz : (A.1 367 37).toInt = (zz : Int)) (hne : ¬ K t = 22) (hH0 : uf_H A) {P : Option Value → hs_A → Prop} (hP : ∀ (r : Option Value) (A' : hs_A), (r = none ∧ ((hmOK2 K V S E A' t sd ∧ hOT (1 - sd) A A') ∨ (hmF K V S E A' ∧ hOT (1 - sd) A A'))) → P r A') : hpa (f, g) d none hm_t154 0 [.ref 368, .retAddr 0, .retAddr 0] [] A P := by
  have k0 := hk_0
  have k1 := hk_1
  have k10 := hk_10
  have k22 := hk_22
  have k23 := hk_23
  have k24 := hk_24
  have k25 := hk_25
  have k255 := hk_255
  have k4 := hk_4
  have k8 := hk_8
  have k99 := hk_99
  have k9999 := hk_9999
  obtain ⟨h400, hpre, hix, hkk, hss, hvv⟩ := hB.at
  have hnx := hB.2.1
  have hqq := hB.2.2.1
  have hf0 := hB.2.2.2
  have rh := hR.2.2.2.1
  have rsn := hR.2.2.2.2.1
  have rs := hR.1
  have rs1 := hR.2.1
  have hcs := hn_cn (j := A.1 367 19) (by omega)
  have hsd : (A.1 367 19).toNatClampNeg = sd := by omega
  have hk39 : 0 ≤ (A.2.1 370 t).toInt ∧ (A.2.1 370 t).toInt ≤ 39 := by unfold hmK at hkk; omega
  have hl10 : ns.length ≤ 10 := (hq_q_inv hqq).1.2.2.1
  have hsn8 : sn ≤ 8 := (hq_q_I2 hqq).1
  have rs0x := hR.1
  have U0 : uf_W uM154r A A := uf_W.rfl
  have O0 : hOT (1 - sd) A A := hOT_r
  refine hpa_aload_n (by rfl) rfl ?_
  refine hpa_get (v := .ref 371) (by rfl) (by rfl) (by rfl) rfl ?_
  refine hpa_aload_n (by rfl) rfl ?_
  refine hpj_getK (by rfl) (by rfl) (by rfl) rfl ?_
  refine hpx_iald (by rfl) (by rfl) (fun h0v1 h1v1 v1 ev1 => ?_)
  rw [hix] at ev1
  have tv1 := congrArg Int32.toInt ev1
  by_cases q2 : v1.toInt = 20
  ·
    refine hpa_tabIn (by rfl) (by omega) (by omega) (by rw [q2]; rfl) (tgt := 56) (by rfl) ?_
    have hK : K t = 0 := by unfold hmK at hkk; omega
    refine hpa_aload_n (by rfl) rfl ?_
    refine hpa_aload_n (by rfl) rfl ?_
    refine hpa_get (v := .ref 377) (by rfl) (by rfl) (by rfl) rfl ?_
    refine hpa_aload_n (by rfl) rfl ?_
    refine hpj_getK (by rfl) (by rfl) (by rfl) rfl ?_
    refine hpx_iald (by rfl) (by rfl) (fun h0v3 h1v3 v3 ev3 => ?_)
    rw [hsd] at ev3
    have tv3 := congrArg Int32.toInt ev3
    refine hpa_bipush (by rfl) rfl ?_
    refine hpa_call0 (by rfl) (by rfl) (by rfl) (by rfl) (by rfl) (by rfl) (uf_C (X := ug_x172) (j := 172) rfl rfl (ug_L.cons (uf_rk_ok (by decide +kernel)) (uf_int (uf_int uf_nil))) hH0 (hP152 v3 (Int32.ofNat 10) hB hR (show v3.toInt = ((ns.length : Nat) : Int) by omega) (show (Int32.ofNat 10).toInt = ((10 : Nat) : Int) from hk_10) (by omega) (hqd0_house hK))) ?_
    rintro _ A4 ⟨⟨rfl, (⟨B_A4, R_A4, Q_A4, G_A4, nm_A4⟩ | F_A4)⟩, wA4, HA4⟩
    ·
      have UA4 := (U0).trans (wA4.le (by decide +kernel : ug_wle ug_x172.2.2.2.1 uM154r = true))
      have OA4 := (O0).trans (hOT.W (by omega) wA4 (by decide +kernel))
      have f0_A4 := B_A4.2.2.2
      have nx_A4 := B_A4.2.1
      have rd_A4 := R_A4.2.2.1
      refine hpa_aload_n (by rfl) rfl ?_
      refine hpj_getK (by rfl) (by rfl) (by rfl) rfl ?_
      refine hpj_zne (by rfl) rfl (fun q5 => False.elim (by omega)) (fun q5 => ?_)
      refine hpa_aload_n (by rfl) rfl ?_
      refine hpa_call0 (by rfl) (by rfl) (by rfl) (by rfl) (by rfl) (by rfl) (uf_C (X := ug_x173) (j := 173) rfl rfl (ug_L.cons (uf_rk_ok (by decide +kernel)) uf_nil) HA4 (hP156r hS B_A4 R_A4 (by rw [G_A4, hg_d0n (by omega)]; exact hM.Q Q_A4) (by rw [Q_A4.1 31 (by omega)]; exact hb) (by rw [Q_A4.1 37 (by omega)]; exact hz) HA4)) ?_
      rintro _ A6 ⟨⟨rfl, (⟨OKK_A6, OT_A6⟩ | ⟨F_A6, OT_A6⟩)⟩, wA6, HA6⟩
      ·
        have UA6 := (UA4).trans (wA6.le (by decide +kernel : ug_wle ug_x173.2.2.2.1 uM154r = true))
        have OA6 := (OA4).trans OT_A6
        obtain ⟨t9, a9, b9, c9, ns9, nm9, sn9, o9, bb9, zz9, lt9, B9, R9, M9, b9x, z9x⟩ := OKK_A6
        refine hpa_goto (by rfl) ?_
        exact hpa_return (by rfl) rfl (hP _ _ ⟨rfl, Or.inl ⟨⟨_, _, _, _, _, _, _, _, _, _, by omega, B9, R9, M9, b9x, z9x⟩, OA6⟩⟩)
      ·
        have UA6 := (UA4).trans (wA6.le (by decide +kernel : ug_wle ug_x173.2.2.2.1 uM154r = true))
        have OA6 := (OA4).trans OT_A6
        have fp_A6 := F_A6.pos
        refine hpa_goto (by rfl) ?_
        exact hpa_return (by rfl) rfl (hP _ _ ⟨rfl, Or.inr ⟨F_A6, OA6⟩⟩)
    ·
      have UA4 := (U0).trans (wA4.le (by decide +kernel : ug_wle ug_x172.2.2.2.1 uM154r = true))
      have OA4 := (O0).trans (hOT.W (by omega) wA4 (by decide +kernel))
      have fp_A4 := F_A4.pos
      refine hpa_aload_n (by rfl) rfl ?_
      refine hpj_getK (by rfl) (by rfl) (by rfl) rfl ?_
      refine hpj_zne (by rfl) rfl (fun q7 => ?_) (fun q7 => False.elim (by omega))
      exact hpa_return (by rfl) rfl (hP _ _ ⟨rfl, Or.inr ⟨F_A4, OA4⟩⟩)
  ·
    by_cases q8 : v1.toInt = 21
    ·
      refine hpa_tabIn (by rfl) (by omega) (by omega) (by rw [q8]; rfl) (tgt := 85) (by rfl) ?_
      have hK : K t = 1 := by unfold hmK at hkk; omega
      refine hpa_aload_n (by rfl) rfl ?_
      refine hpa_aload_n (by rfl) rfl ?_
      refine hpa_get (v := .ref 380) (by rfl) (by rfl) (by rfl) rfl ?_
      refine hpa_aload_n (by rfl) rfl ?_
      refine hpj_getK (by rfl) (by rfl) (by rfl) rfl ?_
      refine hpx_iald (by rfl) (by rfl) (fun h0v9 h1v9 v9 ev9 => ?_)
      rw [hsd] at ev9
      have tv9 := congrArg Int32.toInt ev9
      refine hpa_bipush (by rfl) rfl ?_
      refine hpa_call0 (by rfl) (by rfl) (by rfl) (by rfl) (by rfl) (by rfl) (uf_C (X := ug_x172) (j := 172) rfl rfl (ug_L.cons (uf_rk_ok (by decide +kernel)) (uf_int (uf_int uf_nil))) hH0 (hP152 v9 (Int32.ofNat 8) hB hR (show v9.toInt = ((sn : Nat) : Int) by omega) (show (Int32.ofNat 8).toInt = ((8 : Nat) : Int) from hk_8) (by omega) (hqd0_sends hK))) ?_
      rintro _ A10 ⟨⟨rfl, (⟨B_A10, R_A10, Q_A10, G_A10, nm_A10⟩ | F_A10)⟩, wA10, HA10⟩
      ·
        have UA10 := (U0).trans (wA10.le (by decide +kernel : ug_wle ug_x172.2.2.2.1 uM154r = true))
        have OA10 := (O0).trans (hOT.W (by omega) wA10 (by decide +kernel))
        have f0_A10 := B_A10.2.2.2
        have nx_A10 := B_A10.2.1
        have rd_A10 := R_A10.2.2.1
        refine hpa_aload_n (by rfl) rfl ?_
        refine hpj_getK (by rfl) (by rfl) (by rfl) rfl ?_
        refine hpj_zle (by rfl) rfl (fun q11 => ?_) (fun q11 => False.elim (by omega))
        refine hpa_aload_n (by rfl) rfl ?_
        refine hpa_iconst (by rfl) rfl ?_
        refine hpa_bipush (by rfl) rfl ?_
        refine hpa_call0 (by rfl) (by rfl) (by rfl) (by rfl) (by rfl) (by rfl) (uf_C (X := ug_x177) (j := 177) rfl rfl (ug_L.cons (uf_rk_ok (by decide +kernel)) (uf_int (uf_int uf_nil))) HA10 (hP155z (Int32.ofNat 0) (Int32.ofNat 23) hS hk_0 hk_23 B_A10 R_A10 rfl)) ?_
        rintro _ A12 ⟨⟨z13, rfl, (⟨B_A12, R_A12, Q_A12, G_A12, VV_A12⟩ | ⟨F_A12, ZB_A12⟩)⟩, wA12, HA12⟩
        ·
          have UA12 := (UA10).trans (wA12.le (by decide +kernel : ug_wle ug_x177.2.2.2.1 uM154r = true))
          have OA12 := (OA10).trans (hOT.W (by omega) wA12 (by decide +kernel))
          have f0_A12 := B_A12.2.2.2
          have nx_A12 := B_A12.2.1
          have rd_A12 := R_A12.2.2.1
          have hz112 : 0 ≤ z13.toInt := by have := hV _ VV_A12.2; have := VV_A12.1; omega
          refine hpa_s1 (by rfl) (Or.inl ⟨_, rfl, rfl⟩) rfl ?_
          refine hpa_aload_n (by rfl) rfl ?_
          refine hpa_iconst (by rfl) rfl ?_
          refine hpa_sipush (by rfl) rfl ?_
          refine hpa_call0 (by rfl) (by rfl) (by rfl) (by rfl) (by rfl) (by rfl) (uf_C (X := ug_x177) (j := 177) rfl rfl (ug_L.cons (uf_rk_ok (by decide +kernel)) (uf_int (uf_int uf_nil))) HA12 (hP155 (Int32.ofNat 0) (Int32.ofNat 255) hS hk_0 hk_255 B_A12 R_A12 rfl)) ?_
          rintro _ A14 ⟨⟨z15, rfl, (⟨B_A14, R_A14, Q_A14, G_A14, VV_A14⟩ | F_A14)⟩, wA14, HA14⟩
          ·
            have UA14 := (UA12).trans (wA14.le (by decide +kernel : ug_wle ug_x177.2.2.2.1 uM154r = true))
            have OA14 := (OA12).trans (hOT.W (by omega) wA14 (by decide +kernel))
            have f0_A14 := B_A14.2.2.2
            have nx_A14 := B_A14.2.1
            have rd_A14 := R_A14.2.2.1
            refine hpa_s1 (by rfl) (Or.inl ⟨_, rfl, rfl⟩) rfl ?_
            refine hpa_aload_n (by rfl) rfl ?_
            refine hpa_iconst (by rfl) rfl ?_
            refine hpa_call0 (by rfl) (by rfl) (by rfl) (by rfl) (by rfl) (by rfl) (uf_C (X := ug_x210) (j := 210) rfl rfl (ug_L.cons (uf_rk_ok (by decide +kernel)) (uf_int uf_nil)) HA14 (hP148 (Int32.ofNat 4) B_A14 R_A14 (B_A14.i4 hk_4) rfl)) ?_
            rintro _ A16 ⟨⟨rfl, (⟨B_A16, R_A16, Q_A16, G_A16⟩ | F_A16)⟩, wA16, HA16⟩
            ·
              have UA16 := (UA14).trans (wA16.le (by decide +kernel : ug_wle ug_x210.2.2.2.1 uM154r = true))
              have OA16 := (OA14).trans (hOT.W (by omega) wA16 (by decide +kernel))
              have f0_A16 := B_A16.2.2.2
              have nx_A16 := B_A16.2.1
              have rd_A16 := R_A16.2.2.1
              refine hpa_iload_n (by rfl) rfl ?_
              refine hpa_bipush (by rfl) rfl ?_
              refine hpj_cgt (by rfl) rfl hk_23 (fun q17 => ?_) (fun q17 => ?_)
              ·
                refine hpa_aload_n (by rfl) rfl ?_
                refine hpa_get (v := .ref 380) (by rfl) (by rfl) (by rfl) rfl ?_
                refine hpa_aload_n (by rfl) rfl ?_
                refine hpj_getK (by rfl) (by rfl) (by rfl) rfl ?_
                have s19A16_s18 := congrArg Int32.toInt (UA16.1 367 _ _ 19 rfl rfl (by decide +kernel))
                refine hpa_dup2IR (by rfl) ?_
                refine hpx_iald (by rfl) (by rfl) (fun h0v19 h1v19 v19 ev19 => ?_)
                have rs := R_A16.1
                have rsn := R_A16.2.2.2.2.1
                have rs1 := R_A16.2.1
                have rk := congrArg Int32.toInt (show A16.1 367 19 = (A16.1 367 19) from rfl)
                have hcs := hn_cn (j := (A16.1 367 19)) (by omega)
                have hix9 : (A16.1 367 19).toNatClampNeg = sd := by omega
                rw [hix9] at ev19
                have tv19 : v19.toInt = (sn : Int) := by rw [← ev19]; exact rsn
                refine hpa_iconst (by rfl) rfl ?_
                refine hpj_iadd (by rfl) rfl hk_1 (by omega) (by omega) (fun z20 ez20 => ?_)
                refine hpx_iast (by rfl) (by rfl) (fun A21 h0A21 h1A21 eA21 fA21 gA21 => ?_)
                have UA21 := (UA16).ar eA21 fA21 gA21 (by decide +kernel)
                have HA21 := (HA16).e (congrArg (fun q => q.2) gA21)
                have OA21 : hOT (1 - sd) A A21 := (OA16).a fA21 (fun hl => by have := hn_cn (j := (A16.1 367 19)) (by omega); unfold hlq at hl; omega)
                rw [hix9] at fA21
                have BA21 := B_A16.ar eA21 fA21 gA21 (by omega)
                have RA21 := R_A16.send eA21 fA21 gA21 (by omega)
                have MS := (hM.Q (((Q_A10.trans Q_A12).trans Q_A14).trans Q_A16)).sd0 (p := V (t + 1)) (c := V (t + 1 + 1)) (by have := VV_A12.1; omega)
                have MT := MS.ga fA21 (by omega)
                refine hpa_goto (by rfl) ?_
                exact hpa_return (by rfl) rfl (hP _ _ ⟨rfl, Or.inl ⟨⟨_, _, _, _, _, _, _, _, _, _, by omega, BA21, RA21, by rw [G_A16, G_A14, G_A12, G_A10, hg_d0n (by omega)]; exact MT, by rw [eA21, (((Q_A10.trans Q_A12).trans Q_A14).trans Q_A16).1 31 (by omega)]; exact hb, by rw [eA21, (((Q_A10.trans Q_A12).trans Q_A14).trans Q_A16).1 37 (by omega)]; exact hz⟩, OA21⟩⟩)
              ·
                have hv1 := hV (t + 1) VV_A12.2
                have hvv1 := VV_A12.1
                have rs0 := R_A16.1
                have rs01 := R_A16.2.1
                refine hpa_aload_n (by rfl) rfl ?_
                refine hpa_get (v := .ref 381) (by rfl) (by rfl) (by rfl) rfl ?_
                refine hpa_bipush (by rfl) rfl ?_
                refine hpa_aload_n (by rfl) rfl ?_
                refine hpj_getK (by rfl) (by rfl) (by rfl) rfl ?_
                have s19A16_s22 := congrArg Int32.toInt (UA16.1 367 _ _ 19 rfl rfl (by decide +kernel))
                refine hpj_imul (by rfl) hk_24 rfl (by omega) (by omega) (fun z23 ez23 => ?_)
                refine hpa_iload_n (by rfl) rfl ?_
                refine hpj_iadd (by rfl) rfl rfl (by omega) (by omega) (fun z24 ez24 => ?_)
                refine hpa_iload_n (by rfl) rfl ?_
                refine hpx_iast (by rfl) (by rfl) (fun A25 h0A25 h1A25 eA25 fA25 gA25 => ?_)
                have UA25 := (UA16).ar eA25 fA25 gA25 (by decide +kernel)
                have HA25 := (HA16).e (congrArg (fun q => q.2) gA25)
                have OA25 : hOT (1 - sd) A A25 := (OA16).a fA25 (fun hl => by have := hn_cn (j := z24) (by omega); unfold hlq at hl; omega)
                have BA25 := B_A16.ar eA25 fA25 gA25 (by omega)
                have RA25 := R_A16.ar eA25 fA25 gA25 (by omega)
                have f0A25 := BA25.2.2.2
                have nxA25 := BA25.2.1
                have rdA25 := RA25.2.2.1
                have MS := (hM.Q (((Q_A10.trans Q_A12).trans Q_A14).trans Q_A16)).sd2 (p := V (t + 1)) (c := V (t + 1 + 1)) (by omega) hv1.1 fA25 (by have := hn_cn (j := z24) (by omega); omega) VV_A14.1
                refine hpa_aload_n (by rfl) rfl ?_
                refine hpa_get (v := .ref 380) (by rfl) (by rfl) (by rfl) rfl ?_
                refine hpa_aload_n (by rfl) rfl ?_
                refine hpj_getK (by rfl) (by rfl) (by rfl) (hkA eA25 rfl) ?_
                have s19A16_s26 := congrArg Int32.toInt (UA16.1 367 _ _ 19 rfl rfl (by decide +kernel))
                refine hpa_dup2IR (by rfl) ?_
                refine hpx_iald (by rfl) (by rfl) (fun h0v27 h1v27 v27 ev27 => ?_)
                have rs := RA25.1
                have rsn := RA25.2.2.2.2.1
                have rs1 := RA25.2.1
                have rk := congrArg Int32.toInt (show A25.1 367 19 = (A16.1 367 19) from (hkA eA25 rfl))
                have hcs := hn_cn (j := (A16.1 367 19)) (by omega)
                have hix9 : (A16.1 367 19).toNatClampNeg = sd := by omega
                rw [hix9] at ev27
                have tv27 : v27.toInt = (sn : Int) := by rw [← ev27]; exact rsn
                refine hpa_iconst (by rfl) rfl ?_
                refine hpj_iadd (by rfl) rfl hk_1 (by omega) (by omega) (fun z28 ez28 => ?_)
                refine hpx_iast (by rfl) (by rfl) (fun A29 h0A29 h1A29 eA29 fA29 gA29 => ?_)
                have UA29 := (UA25).ar eA29 fA29 gA29 (by decide +kernel)
                have HA29 := (HA25).e (congrArg (fun q => q.2) gA29)
                have OA29 : hOT (1 - sd) A A29 := (OA25).a fA29 (fun hl => by have := hn_cn (j := (A16.1 367 19)) (by omega); unfold hlq at hl; omega)
                rw [hix9] at fA29
                have BA29 := BA25.ar eA29 fA29 gA29 (by omega)
                have RA29 := RA25.send eA29 fA29 gA29 (by omega)
                have MT := MS.ga fA29 (by omega)
                refine hpa_goto (by rfl) ?_
                exact hpa_return (by rfl) rfl (hP _ _ ⟨rfl, Or.inl ⟨⟨_, _, _, _, _, _, _, _, _, _, by omega, BA29, RA29, by rw [G_A16, G_A14, G_A12, G_A10, hg_d0n (by omega)]; exact MT, by rw [eA29, eA25, (((Q_A10.trans Q_A12).trans Q_A14).trans Q_A16).1 31 (by omega)]; exact hb, by rw [eA29, eA25, (((Q_A10.trans Q_A12).trans Q_A14).trans Q_A16).1 37 (by omega)]; exact hz⟩, OA29⟩⟩)
            ·
              have UA16 := (UA14).trans (wA16.le (by decide +kernel : ug_wle ug_x210.2.2.2.1 uM154r = true))
              have OA16 := (OA14).trans (hOT.W (by omega) wA16 (by decide +kernel))
              have fp_A16 := F_A16.pos
              refine hpa_iload_n (by rfl) rfl ?_
              refine hpa_bipush (by rfl) rfl ?_
              refine hpj_cgt (by rfl) rfl hk_23 (fun q30 => ?_) (fun q30 => ?_)
              ·
                refine hpa_aload_n (by rfl) rfl ?_
                refine hpa_get (v := .ref 380) (by rfl) (by rfl) (by rfl) rfl ?_
                refine hpa_aload_n (by rfl) rfl ?_
                refine hpj_getK (by rfl) (by rfl) (by rfl) rfl ?_
                have s19A16_s31 := congrArg Int32.toInt (UA16.1 367 _ _ 19 rfl rfl (by decide +kernel))
                refine hpa_dup2IR (by rfl) ?_
                refine hpx_iald (by rfl) (by rfl) (fun h0v32 h1v32 v32 ev32 => ?_)
                refine hpa_iconst (by rfl) rfl ?_
                refine hpj_iaddU (by rfl) (fun z33 => ?_)
                refine hpx_iast (by rfl) (by rfl) (fun A34 h0A34 h1A34 eA34 fA34 gA34 => ?_)
                have UA34 := (UA16).ar eA34 fA34 gA34 (by decide +kernel)
                have HA34 := (HA16).e (congrArg (fun q => q.2) gA34)
                have OA34 : hOT (1 - sd) A A34 := (OA16).a fA34 (fun hl => by have := hn_cn (j := (A16.1 367 19)) (by omega); unfold hlq at hl; omega)
                have FA34 := F_A16.ar eA34 gA34
                have fpA34 := FA34.pos
                refine hpa_goto (by rfl) ?_
                exact hpa_return (by rfl) rfl (hP _ _ ⟨rfl, Or.inr ⟨FA34, OA34⟩⟩)
              ·
                refine hpa_aload_n (by rfl) rfl ?_
                refine hpa_get (v := .ref 381) (by rfl) (by rfl) (by rfl) rfl ?_
                refine hpa_bipush (by rfl) rfl ?_
                refine hpa_aload_n (by rfl) rfl ?_
                refine hpj_getK (by rfl) (by rfl) (by rfl) rfl ?_
                have s19A16_s35 := congrArg Int32.toInt (UA16.1 367 _ _ 19 rfl rfl (by decide +kernel))
                refine hpj_imul (by rfl) hk_24 rfl (by omega) (by omega) (fun z36 ez36 => ?_)
                refine hpa_iload_n (by rfl) rfl ?_
                refine hpj_iadd (by rfl) rfl rfl (by omega) (by omega) (fun z37 ez37 => ?_)
                refine hpa_iload_n (by rfl) rfl ?_
                refine hpx_iast (by rfl) (by rfl) (fun A38 h0A38 h1A38 eA38 fA38 gA38 => ?_)
                have UA38 := (UA16).ar eA38 fA38 gA38 (by decide +kernel)
                have HA38 := (HA16).e (congrArg (fun q => q.2) gA38)
                have OA38 : hOT (1 - sd) A A38 := (OA16).a fA38 (fun hl => by have := hn_cn (j := z37) (by omega); unfold hlq at hl; omega)
                have FA38 := F_A16.ar eA38 gA38
                have fpA38 := FA38.pos
                refine hpa_aload_n (by rfl) rfl ?_
                refine hpa_get (v := .ref 380) (by rfl) (by rfl) (by rfl) rfl ?_
                refine hpa_aload_n (by rfl) rfl ?_
                refine hpj_getK (by rfl) (by rfl) (by rfl) (hkA eA38 rfl) ?_
                have s19A16_s39 := congrArg Int32.toInt (UA16.1 367 _ _ 19 rfl rfl (by decide +kernel))
                refine hpa_dup2IR (by rfl) ?_
                refine hpx_iald (by rfl) (by rfl) (fun h0v40 h1v40 v40 ev40 => ?_)
                refine hpa_iconst (by rfl) rfl ?_
                refine hpj_iaddU (by rfl) (fun z41 => ?_)
                refine hpx_iast (by rfl) (by rfl) (fun A42 h0A42 h1A42 eA42 fA42 gA42 => ?_)
                have UA42 := (UA38).ar eA42 fA42 gA42 (by decide +kernel)
                have HA42 := (HA38).e (congrArg (fun q => q.2) gA42)
                have OA42 : hOT (1 - sd) A A42 := (OA38).a fA42 (fun hl => by have := hn_cn (j := (A16.1 367 19)) (by omega); unfold hlq at hl; omega)
                have FA42 := FA38.ar eA42 gA42
                have fpA42 := FA42.pos
                refine hpa_goto (by rfl) ?_
                exact hpa_return (by rfl) rfl (hP _ _ ⟨rfl, Or.inr ⟨FA42, OA42⟩⟩)
          ·
            have UA14 := (UA12).trans (wA14.le (by decide +kernel : ug_wle ug_x177.2.2.2.1 uM154r = true))
            have OA14 := (OA12).trans (hOT.W (by omega) wA14 (by decide +kernel))
            have fp_A14 := F_A14.pos
            refine hpa_s1 (by rfl) (Or.inl ⟨_, rfl, rfl⟩) rfl ?_
            refine hpa_aload_n (by rfl) rfl ?_
            refine hpa_iconst (by rfl) rfl ?_
            refine hpa_call0 (by rfl) (by rfl) (by rfl) (by rfl) (by rfl) (by rfl) (uf_C (X := ug_x210) (j := 210) rfl rfl (ug_L.cons (uf_rk_ok (by decide +kernel)) (uf_int uf_nil)) HA14 (hP148d (Int32.ofNat 4) F_A14)) ?_
            rintro _ A43 ⟨⟨rfl, F_A43⟩, wA43, HA43⟩
            have UA43 := (UA14).trans (wA43.le (by decide +kernel : ug_wle ug_x210.2.2.2.1 uM154r = true))
            have OA43 := (OA14).trans (hOT.W (by omega) wA43 (by decide +kernel))
            have fp_A43 := F_A43.pos
            refine hpa_iload_n (by rfl) rfl ?_
            refine hpa_bipush (by rfl) rfl ?_
            refine hpj_cgt (by rfl) rfl hk_23 (fun q44 => ?_) (fun q44 => ?_)
            ·
              refine hpa_aload_n (by rfl) rfl ?_
              refine hpa_get (v := .ref 380) (by rfl) (by rfl) (by rfl) rfl ?_
              refine hpa_aload_n (by rfl) rfl ?_
              refine hpj_getK (by rfl) (by rfl) (by rfl) rfl ?_
              have s19A43_s45 := congrArg Int32.toInt (UA43.1 367 _ _ 19 rfl rfl (by decide +kernel))
              refine hpa_dup2IR (by rfl) ?_
              refine hpx_iald (by rfl) (by rfl) (fun h0v46 h1v46 v46 ev46 => ?_)
              refine hpa_iconst (by rfl) rfl ?_
              refine hpj_iaddU (by rfl) (fun z47 => ?_)
              refine hpx_iast (by rfl) (by rfl) (fun A48 h0A48 h1A48 eA48 fA48 gA48 => ?_)
              have UA48 := (UA43).ar eA48 fA48 gA48 (by decide +kernel)
              have HA48 := (HA43).e (congrArg (fun q => q.2) gA48)
              have OA48 : hOT (1 - sd) A A48 := (OA43).a fA48 (fun hl => by have := hn_cn (j := (A43.1 367 19)) (by omega); unfold hlq at hl; omega)
              have FA48 := F_A43.ar eA48 gA48
              have fpA48 := FA48.pos
              refine hpa_goto (by rfl) ?_
              exact hpa_return (by rfl) rfl (hP _ _ ⟨rfl, Or.inr ⟨FA48, OA48⟩⟩)
            ·
              refine hpa_aload_n (by rfl) rfl ?_
              refine hpa_get (v := .ref 381) (by rfl) (by rfl) (by rfl) rfl ?_
              refine hpa_bipush (by rfl) rfl ?_
              refine hpa_aload_n (by rfl) rfl ?_
              refine hpj_getK (by rfl) (by rfl) (by rfl) rfl ?_
              have s19A43_s49 := congrArg Int32.toInt (UA43.1 367 _ _ 19 rfl rfl (by decide +kernel))
              refine hpj_imul (by rfl) hk_24 rfl (by omega) (by omega) (fun z50 ez50 => ?_)
              refine hpa_iload_n (by rfl) rfl ?_
              refine hpj_iadd (by rfl) rfl rfl (by omega) (by omega) (fun z51 ez51 => ?_)
              refine hpa_iload_n (by rfl) rfl ?_
              refine hpx_iast (by rfl) (by rfl) (fun A52 h0A52 h1A52 eA52 fA52 gA52 => ?_)
              have UA52 := (UA43).ar eA52 fA52 gA52 (by decide +kernel)
              have HA52 := (HA43).e (congrArg (fun q => q.2) gA52)
              have OA52 : hOT (1 - sd) A A52 := (OA43).a fA52 (fun hl => by have := hn_cn (j := z51) (by omega); unfold hlq at hl; omega)
              have FA52 := F_A43.ar eA52 gA52
              have fpA52 := FA52.pos
              refine hpa_aload_n (by rfl) rfl ?_
              refine hpa_get (v := .ref 380) (by rfl) (by rfl) (by rfl) rfl ?_
              refine hpa_aload_n (by rfl) rfl ?_
              refine hpj_getK (by rfl) (by rfl) (by rfl) (hkA eA52 rfl) ?_
              have s19A43_s53 := congrArg Int32.toInt (UA43.1 367 _ _ 19 rfl rfl (by decide +kernel))
              refine hpa_dup2IR (by rfl) ?_
              refine hpx_iald (by rfl) (by rfl) (fun h0v54 h1v54 v54 ev54 => ?_)
              refine hpa_iconst (by rfl) rfl ?_
              refine hpj_iaddU (by rfl) (fun z55 => ?_)
              refine hpx_iast (by rfl) (by rfl) (fun A56 h0A56 h1A56 eA56 fA56 gA56 => ?_)
              have UA56 := (UA52).ar eA56 fA56 gA56 (by decide +kernel)
              have HA56 := (HA52).e (congrArg (fun q => q.2) gA56)
              have OA56 : hOT (1 - sd) A A56 := (OA52).a fA56 (fun hl => by have := hn_cn (j := (A43.1 367 19)) (by omega); unfold hlq at hl; omega)
              have FA56 := FA52.ar eA56 gA56
              have fpA56 := FA56.pos
              refine hpa_goto (by rfl) ?_
              exact hpa_return (by rfl) rfl (hP _ _ ⟨rfl, Or.inr ⟨FA56, OA56⟩⟩)
        ·
          have UA12 := (UA10).trans (wA12.le (by decide +kernel : ug_wle ug_x177.2.2.2.1 uM154r = true))
          have OA12 := (OA10).trans (hOT.W (by omega) wA12 (by decide +kernel))
          have fp_A12 := F_A12.pos
          have hz112 : 0 ≤ z13.toInt := by rcases ZB_A12 with u | ⟨u1, u2⟩; omega; have := hV _ u2; omega
          refine hpa_s1 (by rfl) (Or.inl ⟨_, rfl, rfl⟩) rfl ?_
          refine hpa_aload_n (by rfl) rfl ?_
          refine hpa_iconst (by rfl) rfl ?_
          refine hpa_sipush (by rfl) rfl ?_
          refine hpa_call0 (by rfl) (by rfl) (by rfl) (by rfl) (by rfl) (by rfl) (uf_C (X := ug_x177) (j := 177) rfl rfl (ug_L.cons (uf_rk_ok (by decide +kernel)) (uf_int (uf_int uf_nil))) HA12 (hP155d (Int32.ofNat 0) (Int32.ofNat 255) F_A12)) ?_
          rintro _ A57 ⟨⟨z58, rfl, F_A57⟩, wA57, HA57⟩
          have UA57 := (UA12).trans (wA57.le (by decide +kernel : ug_wle ug_x177.2.2.2.1 uM154r = true))
          have OA57 := (OA12).trans (hOT.W (by omega) wA57 (by decide +kernel))
          have fp_A57 := F_A57.pos
          refine hpa_s1 (by rfl) (Or.inl ⟨_, rfl, rfl⟩) rfl ?_
          refine hpa_aload_n (by rfl) rfl ?_
          refine hpa_iconst (by rfl) rfl ?_
          refine hpa_call0 (by rfl) (by rfl) (by rfl) (by rfl) (by rfl) (by rfl) (uf_C (X := ug_x210) (j := 210) rfl rfl (ug_L.cons (uf_rk_ok (by decide +kernel)) (uf_int uf_nil)) HA57 (hP148d (Int32.ofNat 4) F_A57)) ?_
          rintro _ A59 ⟨⟨rfl, F_A59⟩, wA59, HA59⟩
          have UA59 := (UA57).trans (wA59.le (by decide +kernel : ug_wle ug_x210.2.2.2.1 uM154r = true))
          have OA59 := (OA57).trans (hOT.W (by omega) wA59 (by decide +kernel))
          have fp_A59 := F_A59.pos
          refine hpa_iload_n (by rfl) rfl ?_
          refine hpa_bipush (by rfl) rfl ?_
          refine hpj_cgt (by rfl) rfl hk_23 (fun q60 => ?_) (fun q60 => ?_)
          ·
            refine hpa_aload_n (by rfl) rfl ?_
            refine hpa_get (v := .ref 380) (by rfl) (by rfl) (by rfl) rfl ?_
            refine hpa_aload_n (by rfl) rfl ?_
            refine hpj_getK (by rfl) (by rfl) (by rfl) rfl ?_
            have s19A59_s61 := congrArg Int32.toInt (UA59.1 367 _ _ 19 rfl rfl (by decide +kernel))
            refine hpa_dup2IR (by rfl) ?_
            refine hpx_iald (by rfl) (by rfl) (fun h0v62 h1v62 v62 ev62 => ?_)
            refine hpa_iconst (by rfl) rfl ?_
            refine hpj_iaddU (by rfl) (fun z63 => ?_)
            refine hpx_iast (by rfl) (by rfl) (fun A64 h0A64 h1A64 eA64 fA64 gA64 => ?_)
            have UA64 := (UA59).ar eA64 fA64 gA64 (by decide +kernel)
            have HA64 := (HA59).e (congrArg (fun q => q.2) gA64)
            have OA64 : hOT (1 - sd) A A64 := (OA59).a fA64 (fun hl => by have := hn_cn (j := (A59.1 367 19)) (by omega); unfold hlq at hl; omega)
            have FA64 := F_A59.ar eA64 gA64
            have fpA64 := FA64.pos
            refine hpa_goto (by rfl) ?_
            exact hpa_return (by rfl) rfl (hP _ _ ⟨rfl, Or.inr ⟨FA64, OA64⟩⟩)
          ·
            refine hpa_aload_n (by rfl) rfl ?_
            refine hpa_get (v := .ref 381) (by rfl) (by rfl) (by rfl) rfl ?_
            refine hpa_bipush (by rfl) rfl ?_
            refine hpa_aload_n (by rfl) rfl ?_
            refine hpj_getK (by rfl) (by rfl) (by rfl) rfl ?_
            have s19A59_s65 := congrArg Int32.toInt (UA59.1 367 _ _ 19 rfl rfl (by decide +kernel))
            refine hpj_imul (by rfl) hk_24 rfl (by omega) (by omega) (fun z66 ez66 => ?_)
            refine hpa_iload_n (by rfl) rfl ?_
            refine hpj_iadd (by rfl) rfl rfl (by omega) (by omega) (fun z67 ez67 => ?_)
            refine hpa_iload_n (by rfl) rfl ?_
            refine hpx_iast (by rfl) (by rfl) (fun A68 h0A68 h1A68 eA68 fA68 gA68 => ?_)
            have UA68 := (UA59).ar eA68 fA68 gA68 (by decide +kernel)
            have HA68 := (HA59).e (congrArg (fun q => q.2) gA68)
            have OA68 : hOT (1 - sd) A A68 := (OA59).a fA68 (fun hl => by have := hn_cn (j := z67) (by omega); unfold hlq at hl; omega)
            have FA68 := F_A59.ar eA68 gA68
            have fpA68 := FA68.pos
            refine hpa_aload_n (by rfl) rfl ?_
            refine hpa_get (v := .ref 380) (by rfl) (by rfl) (by rfl) rfl ?_
            refine hpa_aload_n (by rfl) rfl ?_
            refine hpj_getK (by rfl) (by rfl) (by rfl) (hkA eA68 rfl) ?_
            have s19A59_s69 := congrArg Int32.toInt (UA59.1 367 _ _ 19 rfl rfl (by decide +kernel))
            refine hpa_dup2IR (by rfl) ?_
            refine hpx_iald (by rfl) (by rfl) (fun h0v70 h1v70 v70 ev70 => ?_)
            refine hpa_iconst (by rfl) rfl ?_
            refine hpj_iaddU (by rfl) (fun z71 => ?_)
            refine hpx_iast (by rfl) (by rfl) (fun A72 h0A72 h1A72 eA72 fA72 gA72 => ?_)
            have UA72 := (UA68).ar eA72 fA72 gA72 (by decide +kernel)
            have HA72 := (HA68).e (congrArg (fun q => q.2) gA72)
            have OA72 : hOT (1 - sd) A A72 := (OA68).a fA72 (fun hl => by have := hn_cn (j := (A59.1 367 19)) (by omega); unfold hlq at hl; omega)
            have FA72 := FA68.ar eA72 gA72
            have fpA72 := FA72.pos
            refine hpa_goto (by rfl) ?_
            exact hpa_return (by rfl) rfl (hP _ _ ⟨rfl, Or.inr ⟨FA72, OA72⟩⟩)
      ·
        have UA10 := (U0).trans (wA10.le (by decide +kernel : ug_wle ug_x172.2.2.2.1 uM154r = true))
        have OA10 := (O0).trans (hOT.W (by omega) wA10 (by decide +kernel))
        have fp_A10 := F_A10.pos
        refine hpa_aload_n (by rfl) rfl ?_
        refine hpj_getK (by rfl) (by rfl) (by rfl) rfl ?_
        refine hpj_zle (by rfl) rfl (fun q73 => False.elim (by omega)) (fun q73 => ?_)
        exact hpa_return (by rfl) rfl (hP _ _ ⟨rfl, Or.inr ⟨F_A10, OA10⟩⟩)
    ·
      by_cases q74 : v1.toInt = 22
      ·
        refine hpa_tabIn (by rfl) (by omega) (by omega) (by rw [q74]; rfl) (tgt := 206) (by rfl) ?_
        have hK : 2 ≤ K t ∧ K t ≤ 5 := by unfold hmK at hkk; omega
        refine hpa_aload_n (by rfl) rfl ?_
        refine hpa_get (v := .ref 371) (by rfl) (by rfl) (by rfl) rfl ?_
        refine hpa_aload_n (by rfl) rfl ?_
        refine hpj_getK (by rfl) (by rfl) (by rfl) rfl ?_
        refine hpx_iald (by rfl) (by rfl) (fun h0v75 h1v75 v75 ev75 => ?_)
        rw [hix] at ev75
        have tv75 := congrArg Int32.toInt ev75
        refine hpa_bipush (by rfl) rfl ?_
        refine hpj_isub (by rfl) rfl hk_22 (by omega) (by omega) (fun z76 ez76 => ?_)
        refine hpa_s1 (by rfl) (Or.inl ⟨_, rfl, rfl⟩) rfl ?_
        refine hpa_iload_n (by rfl) rfl ?_
        refine hpj_zlt (by rfl) rfl (fun q77 => False.elim (by omega)) (fun q77 => ?_)
        refine hpa_aload_n (by rfl) rfl ?_
        refine hpa_get (v := .ref 371) (by rfl) (by rfl) (by rfl) rfl ?_
        refine hpa_aload_n (by rfl) rfl ?_
        refine hpj_getK (by rfl) (by rfl) (by rfl) rfl ?_
        refine hpx_iald (by rfl) (by rfl) (fun h0v78 h1v78 v78 ev78 => ?_)
        rw [hix] at ev78
        have tv78 := congrArg Int32.toInt ev78
        refine hpa_bipush (by rfl) rfl ?_
        refine hpj_cle (by rfl) rfl hk_25 (fun q79 => ?_) (fun q79 => False.elim (by omega))
        refine hpa_aload_n (by rfl) rfl ?_
        refine hpj_getK (by rfl) (by rfl) (by rfl) rfl ?_
        refine hpj_zle (by rfl) rfl (fun q80 => ?_) (fun q80 => False.elim (by omega))
        refine hpa_aload_n (by rfl) rfl ?_
        refine hpa_call0 (by rfl) (by rfl) (by rfl) (by rfl) (by rfl) (by rfl) (uf_C (X := ug_x175) (j := 175) rfl rfl (ug_L.cons (uf_rk_ok (by decide +kernel)) uf_nil) hH0 (hP147 hB hR (hqd0_law hK))) ?_
        rintro _ A81 ⟨⟨rfl, (⟨B_A81, R_A81, Q_A81, G_A81⟩ | F_A81)⟩, wA81, HA81⟩
        ·
          have UA81 := (U0).trans (wA81.le (by decide +kernel : ug_wle ug_x175.2.2.2.1 uM154r = true))
          have OA81 := (O0).trans (hOT.W (by omega) wA81 (by decide +kernel))
          have f0_A81 := B_A81.2.2.2
          have nx_A81 := B_A81.2.1
          have rd_A81 := R_A81.2.2.1
          refine hpa_aload_n (by rfl) rfl ?_
          refine hpa_iload_n (by rfl) rfl ?_
          refine hpa_call0 (by rfl) (by rfl) (by rfl) (by rfl) (by rfl) (by rfl) (uf_C (X := ug_x176) (j := 176) rfl rfl (ug_L.cons (uf_rk_ok (by decide +kernel)) (uf_int uf_nil)) HA81 (hP157 (k := (K t - 2).toNat) (d0 := (hg_q K V E t).1) z76 B_A81 R_A81 (hM.Q Q_A81) (by rw [Q_A81.1 31 (by omega)]; exact hb) (by rw [Q_A81.1 37 (by omega)]; exact hz) (G_A81.trans (hg_d0l hK)) (by omega) (by unfold hmK at hkk; omega))) ?_
          rintro _ A82 ⟨⟨rfl, (OKK_A82 | F_A82)⟩, wA82, HA82⟩
          ·
            have UA82 := (UA81).trans (wA82.le (by decide +kernel : ug_wle ug_x176.2.2.2.1 uM154r = true))
            have OA82 := (OA81).trans (hOT.W (by omega) wA82 (by decide +kernel))
            obtain ⟨t9, a9, b9, c9, ns9, nm9, sn9, o9, bb9, zz9, lt9, B9, R9, M9, b9x, z9x⟩ := OKK_A82
            exact hpa_return (by rfl) rfl (hP _ _ ⟨rfl, Or.inl ⟨⟨_, _, _, _, _, _, _, _, _, _, by omega, B9, R9, M9, b9x, z9x⟩, OA82⟩⟩)
          ·
            have UA82 := (UA81).trans (wA82.le (by decide +kernel : ug_wle ug_x176.2.2.2.1 uM154r = true))
            have OA82 := (OA81).trans (hOT.W (by omega) wA82 (by decide +kernel))
            have fp_A82 := F_A82.pos
            exact hpa_return (by rfl) rfl (hP _ _ ⟨rfl, Or.inr ⟨F_A82, OA82⟩⟩)
        ·
          have UA81 := (U0).trans (wA81.le (by decide +kernel : ug_wle ug_x175.2.2.2.1 uM154r = true))
          have OA81 := (O0).trans (hOT.W (by omega) wA81 (by decide +kernel))
          have fp_A81 := F_A81.pos
          refine hpa_aload_n (by rfl) rfl ?_
          refine hpa_iload_n (by rfl) rfl ?_
          refine hpa_call0 (by rfl) (by rfl) (by rfl) (by rfl) (by rfl) (by rfl) (uf_C (X := ug_x176) (j := 176) rfl rfl (ug_L.cons (uf_rk_ok (by decide +kernel)) (uf_int uf_nil)) HA81 (hP157d z76 F_A81)) ?_
          rintro _ A83 ⟨⟨rfl, F_A83⟩, wA83, HA83⟩
          have UA83 := (UA81).trans (wA83.le (by decide +kernel : ug_wle ug_x176.2.2.2.1 uM154r = true))
          have OA83 := (OA81).trans (hOT.W (by omega) wA83 (by decide +kernel))
          have fp_A83 := F_A83.pos
          exact hpa_return (by rfl) rfl (hP _ _ ⟨rfl, Or.inr ⟨F_A83, OA83⟩⟩)
      ·
        by_cases q84 : v1.toInt = 23
        ·
          refine hpa_tabIn (by rfl) (by omega) (by omega) (by rw [q84]; rfl) (tgt := 206) (by rfl) ?_
          have hK : 2 ≤ K t ∧ K t ≤ 5 := by unfold hmK at hkk; omega
          refine hpa_aload_n (by rfl) rfl ?_
          refine hpa_get (v := .ref 371) (by rfl) (by rfl) (by rfl) rfl ?_
          refine hpa_aload_n (by rfl) rfl ?_
          refine hpj_getK (by rfl) (by rfl) (by rfl) rfl ?_
          refine hpx_iald (by rfl) (by rfl) (fun h0v85 h1v85 v85 ev85 => ?_)
          rw [hix] at ev85
          have tv85 := congrArg Int32.toInt ev85
          refine hpa_bipush (by rfl) rfl ?_
          refine hpj_isub (by rfl) rfl hk_22 (by omega) (by omega) (fun z86 ez86 => ?_)
          refine hpa_s1 (by rfl) (Or.inl ⟨_, rfl, rfl⟩) rfl ?_
          refine hpa_iload_n (by rfl) rfl ?_
          refine hpj_zlt (by rfl) rfl (fun q87 => False.elim (by omega)) (fun q87 => ?_)
          refine hpa_aload_n (by rfl) rfl ?_
          refine hpa_get (v := .ref 371) (by rfl) (by rfl) (by rfl) rfl ?_
          refine hpa_aload_n (by rfl) rfl ?_
          refine hpj_getK (by rfl) (by rfl) (by rfl) rfl ?_
          refine hpx_iald (by rfl) (by rfl) (fun h0v88 h1v88 v88 ev88 => ?_)
          rw [hix] at ev88
          have tv88 := congrArg Int32.toInt ev88
          refine hpa_bipush (by rfl) rfl ?_
          refine hpj_cle (by rfl) rfl hk_25 (fun q89 => ?_) (fun q89 => False.elim (by omega))
          refine hpa_aload_n (by rfl) rfl ?_
          refine hpj_getK (by rfl) (by rfl) (by rfl) rfl ?_
          refine hpj_zle (by rfl) rfl (fun q90 => ?_) (fun q90 => False.elim (by omega))
          refine hpa_aload_n (by rfl) rfl ?_
          refine hpa_call0 (by rfl) (by rfl) (by rfl) (by rfl) (by rfl) (by rfl) (uf_C (X := ug_x175) (j := 175) rfl rfl (ug_L.cons (uf_rk_ok (by decide +kernel)) uf_nil) hH0 (hP147 hB hR (hqd0_law hK))) ?_
          rintro _ A91 ⟨⟨rfl, (⟨B_A91, R_A91, Q_A91, G_A91⟩ | F_A91)⟩, wA91, HA91⟩
          ·
            have UA91 := (U0).trans (wA91.le (by decide +kernel : ug_wle ug_x175.2.2.2.1 uM154r = true))
            have OA91 := (O0).trans (hOT.W (by omega) wA91 (by decide +kernel))
            have f0_A91 := B_A91.2.2.2
            have nx_A91 := B_A91.2.1
            have rd_A91 := R_A91.2.2.1
            refine hpa_aload_n (by rfl) rfl ?_
            refine hpa_iload_n (by rfl) rfl ?_
            refine hpa_call0 (by rfl) (by rfl) (by rfl) (by rfl) (by rfl) (by rfl) (uf_C (X := ug_x176) (j := 176) rfl rfl (ug_L.cons (uf_rk_ok (by decide +kernel)) (uf_int uf_nil)) HA91 (hP157 (k := (K t - 2).toNat) (d0 := (hg_q K V E t).1) z86 B_A91 R_A91 (hM.Q Q_A91) (by rw [Q_A91.1 31 (by omega)]; exact hb) (by rw [Q_A91.1 37 (by omega)]; exact hz) (G_A91.trans (hg_d0l hK)) (by omega) (by unfold hmK at hkk; omega))) ?_
            rintro _ A92 ⟨⟨rfl, (OKK_A92 | F_A92)⟩, wA92, HA92⟩
            ·
              have UA92 := (UA91).trans (wA92.le (by decide +kernel : ug_wle ug_x176.2.2.2.1 uM154r = true))
              have OA92 := (OA91).trans (hOT.W (by omega) wA92 (by decide +kernel))
              obtain ⟨t9, a9, b9, c9, ns9, nm9, sn9, o9, bb9, zz9, lt9, B9, R9, M9, b9x, z9x⟩ := OKK_A92
              exact hpa_return (by rfl) rfl (hP _ _ ⟨rfl, Or.inl ⟨⟨_, _, _, _, _, _, _, _, _, _, by omega, B9, R9, M9, b9x, z9x⟩, OA92⟩⟩)
            ·
              have UA92 := (UA91).trans (wA92.le (by decide +kernel : ug_wle ug_x176.2.2.2.1 uM154r = true))
              have OA92 := (OA91).trans (hOT.W (by omega) wA92 (by decide +kernel))
              have fp_A92 := F_A92.pos
              exact hpa_return (by rfl) rfl (hP _ _ ⟨rfl, Or.inr ⟨F_A92, OA92⟩⟩)
          ·
            have UA91 := (U0).trans (wA91.le (by decide +kernel : ug_wle ug_x175.2.2.2.1 uM154r = true))
            have OA91 := (O0).trans (hOT.W (by omega) wA91 (by decide +kernel))
            have fp_A91 := F_A91.pos
            refine hpa_aload_n (by rfl) rfl ?_
            refine hpa_iload_n (by rfl) rfl ?_
            refine hpa_call0 (by rfl) (by rfl) (by rfl) (by rfl) (by rfl) (by rfl) (uf_C (X := ug_x176) (j := 176) rfl rfl (ug_L.cons (uf_rk_ok (by decide +kernel)) (uf_int uf_nil)) HA91 (hP157d z86 F_A91)) ?_
            rintro _ A93 ⟨⟨rfl, F_A93⟩, wA93, HA93⟩
            have UA93 := (UA91).trans (wA93.le (by decide +kernel : ug_wle ug_x176.2.2.2.1 uM154r = true))
            have OA93 := (OA91).trans (hOT.W (by omega) wA93 (by decide +kernel))
            have fp_A93 := F_A93.pos
            exact hpa_return (by rfl) rfl (hP _ _ ⟨rfl, Or.inr ⟨F_A93, OA93⟩⟩)
        ·
          by_cases q94 : v1.toInt = 24
          ·
            refine hpa_tabIn (by rfl) (by omega) (by omega) (by rw [q94]; rfl) (tgt := 206) (by rfl) ?_
            have hK : 2 ≤ K t ∧ K t ≤ 5 := by unfold hmK at hkk; omega
            refine hpa_aload_n (by rfl) rfl ?_
            refine hpa_get (v := .ref 371) (by rfl) (by rfl) (by rfl) rfl ?_
            refine hpa_aload_n (by rfl) rfl ?_
            refine hpj_getK (by rfl) (by rfl) (by rfl) rfl ?_
            refine hpx_iald (by rfl) (by rfl) (fun h0v95 h1v95 v95 ev95 => ?_)
            rw [hix] at ev95
            have tv95 := congrArg Int32.toInt ev95
            refine hpa_bipush (by rfl) rfl ?_
            refine hpj_isub (by rfl) rfl hk_22 (by omega) (by omega) (fun z96 ez96 => ?_)
            refine hpa_s1 (by rfl) (Or.inl ⟨_, rfl, rfl⟩) rfl ?_
            refine hpa_iload_n (by rfl) rfl ?_
            refine hpj_zlt (by rfl) rfl (fun q97 => False.elim (by omega)) (fun q97 => ?_)
            refine hpa_aload_n (by rfl) rfl ?_
            refine hpa_get (v := .ref 371) (by rfl) (by rfl) (by rfl) rfl ?_
            refine hpa_aload_n (by rfl) rfl ?_
            refine hpj_getK (by rfl) (by rfl) (by rfl) rfl ?_
            refine hpx_iald (by rfl) (by rfl) (fun h0v98 h1v98 v98 ev98 => ?_)
            rw [hix] at ev98
            have tv98 := congrArg Int32.toInt ev98
            refine hpa_bipush (by rfl) rfl ?_
            refine hpj_cle (by rfl) rfl hk_25 (fun q99 => ?_) (fun q99 => False.elim (by omega))
            refine hpa_aload_n (by rfl) rfl ?_
            refine hpj_getK (by rfl) (by rfl) (by rfl) rfl ?_
            refine hpj_zle (by rfl) rfl (fun q100 => ?_) (fun q100 => False.elim (by omega))
            refine hpa_aload_n (by rfl) rfl ?_
            refine hpa_call0 (by rfl) (by rfl) (by rfl) (by rfl) (by rfl) (by rfl) (uf_C (X := ug_x175) (j := 175) rfl rfl (ug_L.cons (uf_rk_ok (by decide +kernel)) uf_nil) hH0 (hP147 hB hR (hqd0_law hK))) ?_
            rintro _ A101 ⟨⟨rfl, (⟨B_A101, R_A101, Q_A101, G_A101⟩ | F_A101)⟩, wA101, HA101⟩
            ·
              have UA101 := (U0).trans (wA101.le (by decide +kernel : ug_wle ug_x175.2.2.2.1 uM154r = true))
              have OA101 := (O0).trans (hOT.W (by omega) wA101 (by decide +kernel))
              have f0_A101 := B_A101.2.2.2
              have nx_A101 := B_A101.2.1
              have rd_A101 := R_A101.2.2.1
              refine hpa_aload_n (by rfl) rfl ?_
              refine hpa_iload_n (by rfl) rfl ?_
              refine hpa_call0 (by rfl) (by rfl) (by rfl) (by rfl) (by rfl) (by rfl) (uf_C (X := ug_x176) (j := 176) rfl rfl (ug_L.cons (uf_rk_ok (by decide +kernel)) (uf_int uf_nil)) HA101 (hP157 (k := (K t - 2).toNat) (d0 := (hg_q K V E t).1) z96 B_A101 R_A101 (hM.Q Q_A101) (by rw [Q_A101.1 31 (by omega)]; exact hb) (by rw [Q_A101.1 37 (by omega)]; exact hz) (G_A101.trans (hg_d0l hK)) (by omega) (by unfold hmK at hkk; omega))) ?_
              rintro _ A102 ⟨⟨rfl, (OKK_A102 | F_A102)⟩, wA102, HA102⟩
              ·
                have UA102 := (UA101).trans (wA102.le (by decide +kernel : ug_wle ug_x176.2.2.2.1 uM154r = true))
                have OA102 := (OA101).trans (hOT.W (by omega) wA102 (by decide +kernel))
                obtain ⟨t9, a9, b9, c9, ns9, nm9, sn9, o9, bb9, zz9, lt9, B9, R9, M9, b9x, z9x⟩ := OKK_A102
                exact hpa_return (by rfl) rfl (hP _ _ ⟨rfl, Or.inl ⟨⟨_, _, _, _, _, _, _, _, _, _, by omega, B9, R9, M9, b9x, z9x⟩, OA102⟩⟩)
              ·
                have UA102 := (UA101).trans (wA102.le (by decide +kernel : ug_wle ug_x176.2.2.2.1 uM154r = true))
                have OA102 := (OA101).trans (hOT.W (by omega) wA102 (by decide +kernel))
                have fp_A102 := F_A102.pos
                exact hpa_return (by rfl) rfl (hP _ _ ⟨rfl, Or.inr ⟨F_A102, OA102⟩⟩)
            ·
              have UA101 := (U0).trans (wA101.le (by decide +kernel : ug_wle ug_x175.2.2.2.1 uM154r = true))
              have OA101 := (O0).trans (hOT.W (by omega) wA101 (by decide +kernel))
              have fp_A101 := F_A101.pos
              refine hpa_aload_n (by rfl) rfl ?_
              refine hpa_iload_n (by rfl) rfl ?_
              refine hpa_call0 (by rfl) (by rfl) (by rfl) (by rfl) (by rfl) (by rfl) (uf_C (X := ug_x176) (j := 176) rfl rfl (ug_L.cons (uf_rk_ok (by decide +kernel)) (uf_int uf_nil)) HA101 (hP157d z96 F_A101)) ?_
              rintro _ A103 ⟨⟨rfl, F_A103⟩, wA103, HA103⟩
              have UA103 := (UA101).trans (wA103.le (by decide +kernel : ug_wle ug_x176.2.2.2.1 uM154r = true))
              have OA103 := (OA101).trans (hOT.W (by omega) wA103 (by decide +kernel))
              have fp_A103 := F_A103.pos
              exact hpa_return (by rfl) rfl (hP _ _ ⟨rfl, Or.inr ⟨F_A103, OA103⟩⟩)
          ·
            by_cases q104 : v1.toInt = 25
            ·
              refine hpa_tabIn (by rfl) (by omega) (by omega) (by rw [q104]; rfl) (tgt := 206) (by rfl) ?_
              have hK : 2 ≤ K t ∧ K t ≤ 5 := by unfold hmK at hkk; omega
              refine hpa_aload_n (by rfl) rfl ?_
              refine hpa_get (v := .ref 371) (by rfl) (by rfl) (by rfl) rfl ?_
              refine hpa_aload_n (by rfl) rfl ?_
              refine hpj_getK (by rfl) (by rfl) (by rfl) rfl ?_
              refine hpx_iald (by rfl) (by rfl) (fun h0v105 h1v105 v105 ev105 => ?_)
              rw [hix] at ev105
              have tv105 := congrArg Int32.toInt ev105
              refine hpa_bipush (by rfl) rfl ?_
              refine hpj_isub (by rfl) rfl hk_22 (by omega) (by omega) (fun z106 ez106 => ?_)
              refine hpa_s1 (by rfl) (Or.inl ⟨_, rfl, rfl⟩) rfl ?_
              refine hpa_iload_n (by rfl) rfl ?_
              refine hpj_zlt (by rfl) rfl (fun q107 => False.elim (by omega)) (fun q107 => ?_)
              refine hpa_aload_n (by rfl) rfl ?_
              refine hpa_get (v := .ref 371) (by rfl) (by rfl) (by rfl) rfl ?_
              refine hpa_aload_n (by rfl) rfl ?_
              refine hpj_getK (by rfl) (by rfl) (by rfl) rfl ?_
              refine hpx_iald (by rfl) (by rfl) (fun h0v108 h1v108 v108 ev108 => ?_)
              rw [hix] at ev108
              have tv108 := congrArg Int32.toInt ev108
              refine hpa_bipush (by rfl) rfl ?_
              refine hpj_cle (by rfl) rfl hk_25 (fun q109 => ?_) (fun q109 => False.elim (by omega))
              refine hpa_aload_n (by rfl) rfl ?_
              refine hpj_getK (by rfl) (by rfl) (by rfl) rfl ?_
              refine hpj_zle (by rfl) rfl (fun q110 => ?_) (fun q110 => False.elim (by omega))
              refine hpa_aload_n (by rfl) rfl ?_
              refine hpa_call0 (by rfl) (by rfl) (by rfl) (by rfl) (by rfl) (by rfl) (uf_C (X := ug_x175) (j := 175) rfl rfl (ug_L.cons (uf_rk_ok (by decide +kernel)) uf_nil) hH0 (hP147 hB hR (hqd0_law hK))) ?_
              rintro _ A111 ⟨⟨rfl, (⟨B_A111, R_A111, Q_A111, G_A111⟩ | F_A111)⟩, wA111, HA111⟩
              ·
                have UA111 := (U0).trans (wA111.le (by decide +kernel : ug_wle ug_x175.2.2.2.1 uM154r = true))
                have OA111 := (O0).trans (hOT.W (by omega) wA111 (by decide +kernel))
                have f0_A111 := B_A111.2.2.2
                have nx_A111 := B_A111.2.1
                have rd_A111 := R_A111.2.2.1
                refine hpa_aload_n (by rfl) rfl ?_
                refine hpa_iload_n (by rfl) rfl ?_
                refine hpa_call0 (by rfl) (by rfl) (by rfl) (by rfl) (by rfl) (by rfl) (uf_C (X := ug_x176) (j := 176) rfl rfl (ug_L.cons (uf_rk_ok (by decide +kernel)) (uf_int uf_nil)) HA111 (hP157 (k := (K t - 2).toNat) (d0 := (hg_q K V E t).1) z106 B_A111 R_A111 (hM.Q Q_A111) (by rw [Q_A111.1 31 (by omega)]; exact hb) (by rw [Q_A111.1 37 (by omega)]; exact hz) (G_A111.trans (hg_d0l hK)) (by omega) (by unfold hmK at hkk; omega))) ?_
                rintro _ A112 ⟨⟨rfl, (OKK_A112 | F_A112)⟩, wA112, HA112⟩
                ·
                  have UA112 := (UA111).trans (wA112.le (by decide +kernel : ug_wle ug_x176.2.2.2.1 uM154r = true))
                  have OA112 := (OA111).trans (hOT.W (by omega) wA112 (by decide +kernel))
                  obtain ⟨t9, a9, b9, c9, ns9, nm9, sn9, o9, bb9, zz9, lt9, B9, R9, M9, b9x, z9x⟩ := OKK_A112
                  exact hpa_return (by rfl) rfl (hP _ _ ⟨rfl, Or.inl ⟨⟨_, _, _, _, _, _, _, _, _, _, by omega, B9, R9, M9, b9x, z9x⟩, OA112⟩⟩)
                ·
                  have UA112 := (UA111).trans (wA112.le (by decide +kernel : ug_wle ug_x176.2.2.2.1 uM154r = true))
                  have OA112 := (OA111).trans (hOT.W (by omega) wA112 (by decide +kernel))
                  have fp_A112 := F_A112.pos
                  exact hpa_return (by rfl) rfl (hP _ _ ⟨rfl, Or.inr ⟨F_A112, OA112⟩⟩)
              ·
                have UA111 := (U0).trans (wA111.le (by decide +kernel : ug_wle ug_x175.2.2.2.1 uM154r = true))
                have OA111 := (O0).trans (hOT.W (by omega) wA111 (by decide +kernel))
                have fp_A111 := F_A111.pos
                refine hpa_aload_n (by rfl) rfl ?_
                refine hpa_iload_n (by rfl) rfl ?_
                refine hpa_call0 (by rfl) (by rfl) (by rfl) (by rfl) (by rfl) (by rfl) (uf_C (X := ug_x176) (j := 176) rfl rfl (ug_L.cons (uf_rk_ok (by decide +kernel)) (uf_int uf_nil)) HA111 (hP157d z106 F_A111)) ?_
                rintro _ A113 ⟨⟨rfl, F_A113⟩, wA113, HA113⟩
                have UA113 := (UA111).trans (wA113.le (by decide +kernel : ug_wle ug_x176.2.2.2.1 uM154r = true))
                have OA113 := (OA111).trans (hOT.W (by omega) wA113 (by decide +kernel))
                have fp_A113 := F_A113.pos
                exact hpa_return (by rfl) rfl (hP _ _ ⟨rfl, Or.inr ⟨F_A113, OA113⟩⟩)
            ·
              by_cases q114 : v1.toInt = 26
              ·
                refine hpa_tabIn (by rfl) (by omega) (by omega) (by rw [q114]; rfl) (tgt := 167) (by rfl) ?_
                have hK : K t = 6 := by unfold hmK at hkk; omega
                refine hpa_aload_n (by rfl) rfl ?_
                refine hpa_get (v := .ref 382) (by rfl) (by rfl) (by rfl) rfl ?_
                refine hpa_aload_n (by rfl) rfl ?_
                refine hpj_getK (by rfl) (by rfl) (by rfl) rfl ?_
                refine hpa_aload_n (by rfl) rfl ?_
                refine hpa_iconst (by rfl) rfl ?_
                refine hpa_bipush (by rfl) rfl ?_
                refine hpa_call0 (by rfl) (by rfl) (by rfl) (by rfl) (by rfl) (by rfl) (uf_C (X := ug_x171) (j := 171) rfl rfl (ug_L.cons (uf_rk_ok (by decide +kernel)) (uf_int (uf_int uf_nil))) hH0 (hP153 (Int32.ofNat 1) (Int32.ofNat 99) hS hk_1 hk_99 hB hR (hqd0_grief hK) rfl rfl)) ?_
                rintro _ A115 ⟨⟨z116, rfl, (⟨B_A115, R_A115, Q_A115, GT_A115, VV_A115⟩ | F_A115)⟩, wA115, HA115⟩
                ·
                  have UA115 := (U0).trans (wA115.le (by decide +kernel : ug_wle ug_x171.2.2.2.1 uM154r = true))
                  have OA115 := (O0).trans (hOT.W (by omega) wA115 (by decide +kernel))
                  have f0_A115 := B_A115.2.2.2
                  have nx_A115 := B_A115.2.1
                  have rd_A115 := R_A115.2.2.1
                  refine hpx_iast (by rfl) (by rfl) (fun A117 h0A117 h1A117 eA117 fA117 gA117 => ?_)
                  have UA117 := (UA115).ar eA117 fA117 gA117 (by decide +kernel)
                  have HA117 := (HA115).e (congrArg (fun q => q.2) gA117)
                  have OA117 : hOT (1 - sd) A A117 := (OA115).a fA117 (fun hl => by have := hn_cn (j := (A.1 367 19)) (by omega); unfold hlq at hl; omega)
                  have BA117 := B_A115.ar eA117 fA117 gA117 (by omega)
                  have RA117 := R_A115.ar eA117 fA117 gA117 (by omega)
                  have f0A117 := BA117.2.2.2
                  have nxA117 := BA117.2.1
                  have rdA117 := RA117.2.2.1
                  rw [hsd] at fA117
                  have MT := (hM.Q Q_A115).gr fA117 VV_A115
                  refine hpa_goto (by rfl) ?_
                  exact hpa_return (by rfl) rfl (hP _ _ ⟨rfl, Or.inl ⟨⟨_, _, _, _, _, _, _, _, _, _, by omega, BA117, RA117, by rw [GT_A115, hg_d0n (by omega)]; exact MT, by rw [eA117, Q_A115.1 31 (by omega)]; exact hb, by rw [eA117, Q_A115.1 37 (by omega)]; exact hz⟩, OA117⟩⟩)
                ·
                  have UA115 := (U0).trans (wA115.le (by decide +kernel : ug_wle ug_x171.2.2.2.1 uM154r = true))
                  have OA115 := (O0).trans (hOT.W (by omega) wA115 (by decide +kernel))
                  have fp_A115 := F_A115.pos
                  refine hpx_iast (by rfl) (by rfl) (fun A118 h0A118 h1A118 eA118 fA118 gA118 => ?_)
                  have UA118 := (UA115).ar eA118 fA118 gA118 (by decide +kernel)
                  have HA118 := (HA115).e (congrArg (fun q => q.2) gA118)
                  have OA118 : hOT (1 - sd) A A118 := (OA115).a fA118 (fun hl => by have := hn_cn (j := (A.1 367 19)) (by omega); unfold hlq at hl; omega)
                  have FA118 := F_A115.ar eA118 gA118
                  have fpA118 := FA118.pos
                  refine hpa_goto (by rfl) ?_
                  exact hpa_return (by rfl) rfl (hP _ _ ⟨rfl, Or.inr ⟨FA118, OA118⟩⟩)
              ·
                by_cases q119 : v1.toInt = 27
                ·
                  refine hpa_tabIn (by rfl) (by omega) (by omega) (by rw [q119]; rfl) (tgt := 186) (by rfl) ?_
                  have hK : K t = 7 := by unfold hmK at hkk; omega
                  refine hpa_aload_n (by rfl) rfl ?_
                  refine hpa_get (v := .ref 383) (by rfl) (by rfl) (by rfl) rfl ?_
                  refine hpa_aload_n (by rfl) rfl ?_
                  refine hpj_getK (by rfl) (by rfl) (by rfl) rfl ?_
                  refine hpa_aload_n (by rfl) rfl ?_
                  refine hpa_iconst (by rfl) rfl ?_
                  refine hpa_sipush (by rfl) rfl ?_
                  refine hpa_call0 (by rfl) (by rfl) (by rfl) (by rfl) (by rfl) (by rfl) (uf_C (X := ug_x171) (j := 171) rfl rfl (ug_L.cons (uf_rk_ok (by decide +kernel)) (uf_int (uf_int uf_nil))) hH0 (hP153 (Int32.ofNat 0) (Int32.ofNat 9999) hS hk_0 hk_9999 hB hR (hqd0_seed hK) rfl rfl)) ?_
                  rintro _ A120 ⟨⟨z121, rfl, (⟨B_A120, R_A120, Q_A120, GT_A120, VV_A120⟩ | F_A120)⟩, wA120, HA120⟩
                  ·
                    have UA120 := (U0).trans (wA120.le (by decide +kernel : ug_wle ug_x171.2.2.2.1 uM154r = true))
                    have OA120 := (O0).trans (hOT.W (by omega) wA120 (by decide +kernel))
                    have f0_A120 := B_A120.2.2.2
                    have nx_A120 := B_A120.2.1
                    have rd_A120 := R_A120.2.2.1
                    refine hpx_iast (by rfl) (by rfl) (fun A122 h0A122 h1A122 eA122 fA122 gA122 => ?_)
                    have UA122 := (UA120).ar eA122 fA122 gA122 (by decide +kernel)
                    have HA122 := (HA120).e (congrArg (fun q => q.2) gA122)
                    have OA122 : hOT (1 - sd) A A122 := (OA120).a fA122 (fun hl => by have := hn_cn (j := (A.1 367 19)) (by omega); unfold hlq at hl; omega)
                    have BA122 := B_A120.ar eA122 fA122 gA122 (by omega)
                    have RA122 := R_A120.ar eA122 fA122 gA122 (by omega)
                    have f0A122 := BA122.2.2.2
                    have nxA122 := BA122.2.1
                    have rdA122 := RA122.2.2.1
                    rw [hsd] at fA122
                    have MT := (hM.Q Q_A120).se fA122 VV_A120
                    refine hpa_goto (by rfl) ?_
                    exact hpa_return (by rfl) rfl (hP _ _ ⟨rfl, Or.inl ⟨⟨_, _, _, _, _, _, _, _, _, _, by omega, BA122, RA122, by rw [GT_A120, hg_d0n (by omega)]; exact MT, by rw [eA122, Q_A120.1 31 (by omega)]; exact hb, by rw [eA122, Q_A120.1 37 (by omega)]; exact hz⟩, OA122⟩⟩)
                  ·
                    have UA120 := (U0).trans (wA120.le (by decide +kernel : ug_wle ug_x171.2.2.2.1 uM154r = true))
                    have OA120 := (O0).trans (hOT.W (by omega) wA120 (by decide +kernel))
                    have fp_A120 := F_A120.pos
                    refine hpx_iast (by rfl) (by rfl) (fun A123 h0A123 h1A123 eA123 fA123 gA123 => ?_)
                    have UA123 := (UA120).ar eA123 fA123 gA123 (by decide +kernel)
                    have HA123 := (HA120).e (congrArg (fun q => q.2) gA123)
                    have OA123 : hOT (1 - sd) A A123 := (OA120).a fA123 (fun hl => by have := hn_cn (j := (A.1 367 19)) (by omega); unfold hlq at hl; omega)
                    have FA123 := F_A120.ar eA123 gA123
                    have fpA123 := FA123.pos
                    refine hpa_goto (by rfl) ?_
                    exact hpa_return (by rfl) rfl (hP _ _ ⟨rfl, Or.inr ⟨FA123, OA123⟩⟩)
                ·
                  refine hpa_tabOut (by rfl) (by omega) (tgt := 206) (by rfl) ?_
                  refine hpa_aload_n (by rfl) rfl ?_
                  refine hpa_get (v := .ref 371) (by rfl) (by rfl) (by rfl) rfl ?_
                  refine hpa_aload_n (by rfl) rfl ?_
                  refine hpj_getK (by rfl) (by rfl) (by rfl) rfl ?_
                  refine hpx_iald (by rfl) (by rfl) (fun h0v124 h1v124 v124 ev124 => ?_)
                  rw [hix] at ev124
                  have tv124 := congrArg Int32.toInt ev124
                  refine hpa_bipush (by rfl) rfl ?_
                  refine hpj_isub (by rfl) rfl hk_22 (by omega) (by omega) (fun z125 ez125 => ?_)
                  refine hpa_s1 (by rfl) (Or.inl ⟨_, rfl, rfl⟩) rfl ?_
                  refine hpa_iload_n (by rfl) rfl ?_
                  refine hpj_zlt (by rfl) rfl (fun q126 => ?_) (fun q126 => ?_)
                  ·
                    refine hpa_aload_n (by rfl) rfl ?_
                    refine hpa_iconst (by rfl) rfl ?_
                    refine hpa_call0 (by rfl) (by rfl) (by rfl) (by rfl) (by rfl) (by rfl) (uf_C (X := ug_x174) (j := 174) rfl rfl (ug_L.cons (uf_rk_ok (by decide +kernel)) (uf_int uf_nil)) hH0 (hP145 (Int32.ofNat 1) hB ⟨_, hqq, hqd0_else hne (by unfold hmK at hkk; omega)⟩ (by decide) hk_1)) ?_
                    rintro _ A127 ⟨⟨rfl, F_A127⟩, wA127, HA127⟩
                    have UA127 := (U0).trans (wA127.le (by decide +kernel : ug_wle ug_x174.2.2.2.1 uM154r = true))
                    have OA127 := (O0).trans (hOT.W (by omega) wA127 (by decide +kernel))
                    have fp_A127 := F_A127.pos
                    refine hpa_aload_n (by rfl) rfl ?_
                    refine hpj_getK (by rfl) (by rfl) (by rfl) rfl ?_
                    refine hpj_zle (by rfl) rfl (fun q128 => False.elim (by omega)) (fun q128 => ?_)
                    exact hpa_return (by rfl) rfl (hP _ _ ⟨rfl, Or.inr ⟨F_A127, OA127⟩⟩)
                  ·
                    refine hpa_aload_n (by rfl) rfl ?_
                    refine hpa_get (v := .ref 371) (by rfl) (by rfl) (by rfl) rfl ?_
                    refine hpa_aload_n (by rfl) rfl ?_
                    refine hpj_getK (by rfl) (by rfl) (by rfl) rfl ?_
                    refine hpx_iald (by rfl) (by rfl) (fun h0v129 h1v129 v129 ev129 => ?_)
                    rw [hix] at ev129
                    have tv129 := congrArg Int32.toInt ev129
                    refine hpa_bipush (by rfl) rfl ?_
                    refine hpj_cle (by rfl) rfl hk_25 (fun q130 => False.elim (by omega)) (fun q130 => ?_)
                    refine hpa_aload_n (by rfl) rfl ?_
                    refine hpa_iconst (by rfl) rfl ?_
                    refine hpa_call0 (by rfl) (by rfl) (by rfl) (by rfl) (by rfl) (by rfl) (uf_C (X := ug_x174) (j := 174) rfl rfl (ug_L.cons (uf_rk_ok (by decide +kernel)) (uf_int uf_nil)) hH0 (hP145 (Int32.ofNat 1) hB ⟨_, hqq, hqd0_else hne (by unfold hmK at hkk; omega)⟩ (by decide) hk_1)) ?_
                    rintro _ A131 ⟨⟨rfl, F_A131⟩, wA131, HA131⟩
                    have UA131 := (U0).trans (wA131.le (by decide +kernel : ug_wle ug_x174.2.2.2.1 uM154r = true))
                    have OA131 := (O0).trans (hOT.W (by omega) wA131 (by decide +kernel))
                    have fp_A131 := F_A131.pos
                    refine hpa_aload_n (by rfl) rfl ?_
                    refine hpj_getK (by rfl) (by rfl) (by rfl) rfl ?_
                    refine hpj_zle (by rfl) rfl (fun q132 => False.elim (by omega)) (fun q132 => ?_)
                    exact hpa_return (by rfl) rfl (hP _ _ ⟨rfl, Or.inr ⟨F_A131, OA131⟩⟩)
theorem hP154r {g d : Nat} {A : hs_A} {K V S : Nat → Int} {E : Nat → Nat → Bool} {t : Nat} {a b c : Nat} {ns : List Nat} {nm sn sd : Nat} {o : Option (Nat × Nat)} {bb zz : Nat} (hS : hmS K S) (hV : hg_V K V) (hB : hmB K V S E A t (0, a, b, c, ns, nm, sn, o)) (hR : hmR S A t ns sn o sd 0) (hM : hmM V A sd ns (hg_q K V E t).1 bb zz) (hb : (A.1 367 31).toInt = (bb : Int)) (hz : (A.1 367 37).toInt = (zz : Int)) (hne : ¬ K t = 22) (hH0 : uf_H A) : hpC g d 154 hm_m154 [.ref 368] A (fun r A' => r = none ∧ ((hmOK2 K V S E A' t sd ∧ hOT (1 - sd) A A') ∨ (hmF K V S E A' ∧ hOT (1 - sd) A A'))) := hpC.all (fun f d => hW154r hS hV hB hR hM hb hz hne hH0 (fun r A' h => h))
