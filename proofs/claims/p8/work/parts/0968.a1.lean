/-! WHAT CLASS AND REFERENCE SHARE (2): the place too -/
def hIP (A : hs_A) : Prop := hI0 A ∧ uf_H A ∧ A.1 0 2 = A.1 367 17
theorem hI0.uf {W : Nat} {A A' : hs_A} (h : hI0 A) (w : uf_W W A A') (b1 : Nat.testBit W (ug_o (ug_g 0) 1) = false) (b2 : Nat.testBit W (ug_o (ug_g 367) 2) = false) (b3 : Nat.testBit W (ug_g 1) = false) (b4 : Nat.testBit W (ug_g 368) = false) (b5 : Nat.testBit W (ug_g 374) = false) (hb : (A.1 0 1).toInt ≤ 2000) : hI0 A' := by
  obtain ⟨h1, h2, h3⟩ := h
  have e1 : A'.1 0 1 = A.1 0 1 := w.1 0 _ _ 1 rfl rfl b1
  have e3 : A'.1 367 2 = A.1 367 2 := w.1 367 _ _ 2 rfl rfl b2
  refine ⟨by rw [e1, e3]; exact h1, fun q hq => ?_, fun i hi => ?_⟩
  · rw [w.2.2.1 374 _ _ q rfl hq b5]
    exact h2 q hq
  · rw [e1] at hi
    rw [w.2.1 1 _ _ i rfl (by omega) b3, w.2.1 368 _ _ i rfl (by omega) b4]
    exact h3 i hi
theorem hIP.uf {W : Nat} {A A' : hs_A} (h : hIP A) (w : uf_W W A A') (hH : uf_H A') (c : (Nat.testBit W (ug_o (ug_g 0) 1) || (Nat.testBit W (ug_o (ug_g 367) 2) || (Nat.testBit W (ug_g 1) || (Nat.testBit W (ug_g 368) || (Nat.testBit W (ug_g 374) || (Nat.testBit W (ug_o (ug_g 0) 2) || Nat.testBit W (ug_o (ug_g 367) 17))))))) = false) (hb : (A.1 0 1).toInt ≤ 2000) : hIP A' := by
  simp only [Bool.or_eq_false_iff] at c
  obtain ⟨c1, c2, c3, c4, c5, c6, c7⟩ := c
  refine ⟨h.1.uf w c1 c2 c3 c4 c5 hb, hH, ?_⟩
  rw [w.1 0 _ _ 2 rfl rfl c6, w.1 367 _ _ 17 rfl rfl c7]
  exact h.2.2
def uw70 : Nat := 680564733841876926926749214863536422914
theorem uf_k70 {d : Nat} {A : hs_A} {P : Option Value → hs_A → Prop} (hH : uf_H A) (a1 a2 a3 a4 a5 : Int32) (w : hxC d 70 hm_m70 [.ref 1, .int a1, .int a2, .int a3, .int a4, .int a5] A P) : hxC d 70 hm_m70 [.ref 1, .int a1, .int a2, .int a3, .int a4, .int a5] A (fun r A' => P r A' ∧ uf_W uw70 A A' ∧ uf_H A') := uf_X (X := ug_x0) (j := 0) rfl rfl (ug_L.cons uf_r0 (uf_int (uf_int (uf_int (uf_int (uf_int uf_nil)))))) hH w
def uw133 : Nat := 113078212145816597093331040047546785012958969400042031171422026141077078016
theorem uf_k133 {d : Nat} {A : hs_A} {P : Option Value → hs_A → Prop} (hH : uf_H A) (a1 a2 a3 a4 a5 : Int32) (w : hxC d 133 hm_m133 [.ref 368, .int a1, .int a2, .int a3, .int a4, .int a5] A P) : hxC d 133 hm_m133 [.ref 368, .int a1, .int a2, .int a3, .int a4, .int a5] A (fun r A' => P r A' ∧ uf_W uw133 A A' ∧ uf_H A') := uf_X (X := ug_x1) (j := 1) rfl rfl (ug_L.cons uf_r1 (uf_int (uf_int (uf_int (uf_int (uf_int uf_nil)))))) hH w
def uw72 : Nat := 680564733841876926926749214863536422912
theorem uf_k72 {d : Nat} {A : hs_A} {P : Option Value → hs_A → Prop} (hH : uf_H A) (a1 : Int32) (w : hxC d 72 hm_m72 [.ref 1, .int a1] A P) : hxC d 72 hm_m72 [.ref 1, .int a1] A (fun r A' => P r A' ∧ uf_W uw72 A A' ∧ uf_H A') := uf_X (X := ug_x2) (j := 2) rfl rfl (ug_L.cons uf_r0 (uf_int uf_nil)) hH w
def uw135 : Nat := 113078212145816597093331040047546785012958969400039613319782796882727665664
theorem uf_k135 {d : Nat} {A : hs_A} {P : Option Value → hs_A → Prop} (hH : uf_H A) (a1 : Int32) (w : hxC d 135 hm_m135 [.ref 368, .int a1] A P) : hxC d 135 hm_m135 [.ref 368, .int a1] A (fun r A' => P r A' ∧ uf_W uw135 A A' ∧ uf_H A') := uf_X (X := ug_x3) (j := 3) rfl rfl (ug_L.cons uf_r1 (uf_int uf_nil)) hH w
def uw73 : Nat := 7764466285838586866971520147720747617928058299592404962142636720223160
theorem uf_k73 {d : Nat} {A : hs_A} {P : Option Value → hs_A → Prop} (hH : uf_H A) (w : hxC d 73 hm_m73 [.ref 1] A P) : hxC d 73 hm_m73 [.ref 1] A (fun r A' => P r A' ∧ uf_W uw73 A A' ∧ uf_H A') := uf_X (X := ug_x4) (j := 4) rfl rfl (ug_L.cons uf_r0 uf_nil) hH w
def uw150 : Nat := 16371947054120171983655885629022356562218204433234264333370155955618782010749616896597819392
theorem uf_k150 {d : Nat} {A : hs_A} {P : Option Value → hs_A → Prop} (hH : uf_H A) (w : hxC d 150 hm_m150 [.ref 368] A P) : hxC d 150 hm_m150 [.ref 368] A (fun r A' => P r A' ∧ uf_W uw150 A A' ∧ uf_H A') := uf_X (X := ug_x5) (j := 5) rfl rfl (ug_L.cons uf_r1 uf_nil) hH w
def uw75 : Nat := 0
theorem uf_k75 {d : Nat} {A : hs_A} {P : Option Value → hs_A → Prop} (hH : uf_H A) (w : hxC d 75 hm_m75 [.ref 1] A P) : hxC d 75 hm_m75 [.ref 1] A (fun r A' => P r A' ∧ uf_W uw75 A A' ∧ uf_H A') := uf_X (X := ug_x6) (j := 6) rfl rfl (ug_L.cons uf_r0 uf_nil) hH w
def uw151 : Nat := 0
theorem uf_k151 {d : Nat} {A : hs_A} {P : Option Value → hs_A → Prop} (hH : uf_H A) (w : hxC d 151 hm_m151 [.ref 368] A P) : hxC d 151 hm_m151 [.ref 368] A (fun r A' => P r A' ∧ uf_W uw151 A A' ∧ uf_H A') := uf_X (X := ug_x7) (j := 7) rfl rfl (ug_L.cons uf_r1 uf_nil) hH w
def uw79 : Nat := 323519360005807677536004181044235568083645733070486903550240528794624
theorem uf_k79 {d : Nat} {A : hs_A} {P : Option Value → hs_A → Prop} (hH : uf_H A) (a1 a2 : Int32) (w : hxC d 79 hm_m79 [.ref 1, .int a1, .int a2] A P) : hxC d 79 hm_m79 [.ref 1, .int a1, .int a2] A (fun r A' => P r A' ∧ uf_W uw79 A A' ∧ uf_H A') := uf_X (X := ug_x8) (j := 8) rfl rfl (ug_L.cons uf_r0 (uf_int (uf_int uf_nil))) hH w
def uw188 : Nat := 12433080910244666053884556203670521002511403769933692936904025444889660923967013444911104
theorem uf_k188 {d : Nat} {A : hs_A} {P : Option Value → hs_A → Prop} (hH : uf_H A) (a1 a2 : Int32) (w : hxC d 188 hm_m188 [.ref 368, .int a1, .int a2] A P) : hxC d 188 hm_m188 [.ref 368, .int a1, .int a2] A (fun r A' => P r A' ∧ uf_W uw188 A A' ∧ uf_H A') := uf_X (X := ug_x9) (j := 9) rfl rfl (ug_L.cons uf_r1 (uf_int (uf_int uf_nil))) hH w
def uw81 : Nat := 323519360005807677536004181044235568083645733070486903550240528794624
theorem uf_k81 {d : Nat} {A : hs_A} {P : Option Value → hs_A → Prop} (hH : uf_H A) (a1 a2 : Int32) (w : hxC d 81 hm_m81 [.ref 1, .int a1, .int a2] A P) : hxC d 81 hm_m81 [.ref 1, .int a1, .int a2] A (fun r A' => P r A' ∧ uf_W uw81 A A' ∧ uf_H A') := uf_X (X := ug_x10) (j := 10) rfl rfl (ug_L.cons uf_r0 (uf_int (uf_int uf_nil))) hH w
def uw189 : Nat := 12433080910244666053884556203670521002511403769933692936904025444889660923967013444911104
theorem uf_k189 {d : Nat} {A : hs_A} {P : Option Value → hs_A → Prop} (hH : uf_H A) (a1 a2 : Int32) (w : hxC d 189 hm_m189 [.ref 368, .int a1, .int a2] A P) : hxC d 189 hm_m189 [.ref 368, .int a1, .int a2] A (fun r A' => P r A' ∧ uf_W uw189 A A' ∧ uf_H A') := uf_X (X := ug_x11) (j := 11) rfl rfl (ug_L.cons uf_r1 (uf_int (uf_int uf_nil))) hH w
def uw83 : Nat := 869250123739323814696772079065475899771578922868749658772743967997952
theorem uf_k83 {d : Nat} {A : hs_A} {P : Option Value → hs_A → Prop} (hH : uf_H A) (a1 a2 : Int32) (w : hxC d 83 hm_m83 [.ref 1, .int a1, .int a2] A P) : hxC d 83 hm_m83 [.ref 1, .int a1, .int a2] A (fun r A' => P r A' ∧ uf_W uw83 A A' ∧ uf_H A') := uf_X (X := ug_x12) (j := 12) rfl rfl (ug_L.cons uf_r0 (uf_int (uf_int uf_nil))) hH w
def uw191 : Nat := 75593131934287569607618101718316767695269334921196853057116377007270351354785037471973376
theorem uf_k191 {d : Nat} {A : hs_A} {P : Option Value → hs_A → Prop} (hH : uf_H A) (a1 a2 : Int32) (w : hxC d 191 hm_m191 [.ref 368, .int a1, .int a2] A P) : hxC d 191 hm_m191 [.ref 368, .int a1, .int a2] A (fun r A' => P r A' ∧ uf_W uw191 A A' ∧ uf_H A') := uf_X (X := ug_x13) (j := 13) rfl rfl (ug_L.cons uf_r1 (uf_int (uf_int uf_nil))) hH w
def uw84 : Nat := 869250123714215407755225356010132742078748257204340236994887829946368
theorem uf_k84 {d : Nat} {A : hs_A} {P : Option Value → hs_A → Prop} (hH : uf_H A) (a1 : Int32) (w : hxC d 84 hm_m84 [.ref 1, .int a1] A P) : hxC d 84 hm_m84 [.ref 1, .int a1] A (fun r A' => P r A' ∧ uf_W uw84 A A' ∧ uf_H A') := uf_X (X := ug_x14) (j := 14) rfl rfl (ug_L.cons uf_r0 (uf_int uf_nil)) hH w
def uw192 : Nat := 75593131934287569607618101718316767695269334921196853057116377007270351354785037471973376
theorem uf_k192 {d : Nat} {A : hs_A} {P : Option Value → hs_A → Prop} (hH : uf_H A) (a1 : Int32) (w : hxC d 192 hm_m192 [.ref 368, .int a1] A P) : hxC d 192 hm_m192 [.ref 368, .int a1] A (fun r A' => P r A' ∧ uf_W uw192 A A' ∧ uf_H A') := uf_X (X := ug_x15) (j := 15) rfl rfl (ug_L.cons uf_r1 (uf_int uf_nil)) hH w
def uw85 : Nat := 869250123689107000813678632954789584385917591539930815217034376249344
theorem uf_k85 {d : Nat} {A : hs_A} {P : Option Value → hs_A → Prop} (hH : uf_H A) (a1 a2 : Int32) (w : hxC d 85 hm_m85 [.ref 1, .int a1, .int a2] A P) : hxC d 85 hm_m85 [.ref 1, .int a1, .int a2] A (fun r A' => P r A' ∧ uf_W uw85 A A' ∧ uf_H A') := uf_X (X := ug_x16) (j := 16) rfl rfl (ug_L.cons uf_r0 (uf_int (uf_int uf_nil))) hH w
def uw193 : Nat := 75593131934287569607618101718316767695269334921196853057116377007270351354785037471973376
theorem uf_k193 {d : Nat} {A : hs_A} {P : Option Value → hs_A → Prop} (hH : uf_H A) (a1 a2 : Int32) (w : hxC d 193 hm_m193 [.ref 368, .int a1, .int a2] A P) : hxC d 193 hm_m193 [.ref 368, .int a1, .int a2] A (fun r A' => P r A' ∧ uf_W uw193 A A' ∧ uf_H A') := uf_X (X := ug_x17) (j := 17) rfl rfl (ug_L.cons uf_r1 (uf_int (uf_int uf_nil))) hH w
def uw86 : Nat := 869250123689107000813678632954789584385917591539930815217033705160704
theorem uf_k86 {d : Nat} {A : hs_A} {P : Option Value → hs_A → Prop} (hH : uf_H A) (a1 a2 : Int32) (w : hxC d 86 hm_m86 [.ref 1, .int a1, .int a2] A P) : hxC d 86 hm_m86 [.ref 1, .int a1, .int a2] A (fun r A' => P r A' ∧ uf_W uw86 A A' ∧ uf_H A') := uf_X (X := ug_x18) (j := 18) rfl rfl (ug_L.cons uf_r0 (uf_int (uf_int uf_nil))) hH w
def uw195 : Nat := 75593131934287569607618101718316767695269334921196853057116377007270351354785037471973376
theorem uf_k195 {d : Nat} {A : hs_A} {P : Option Value → hs_A → Prop} (hH : uf_H A) (a1 a2 : Int32) (w : hxC d 195 hm_m195 [.ref 368, .int a1, .int a2] A P) : hxC d 195 hm_m195 [.ref 368, .int a1, .int a2] A (fun r A' => P r A' ∧ uf_W uw195 A A' ∧ uf_H A') := uf_X (X := ug_x19) (j := 19) rfl rfl (ug_L.cons uf_r1 (uf_int (uf_int uf_nil))) hH w
def uw87 : Nat := 1192769483833010916528189790803412519780131985764669538545487959294976
theorem uf_k87 {d : Nat} {A : hs_A} {P : Option Value → hs_A → Prop} (hH : uf_H A) (a1 : Int32) (w : hxC d 87 hm_m87 [.ref 1, .int a1] A P) : hxC d 87 hm_m87 [.ref 1, .int a1] A (fun r A' => P r A' ∧ uf_W uw87 A A' ∧ uf_H A') := uf_X (X := ug_x20) (j := 20) rfl rfl (ug_L.cons uf_r0 (uf_int uf_nil)) hH w
def uw198 : Nat := 76090455170697356249773483966463588535369791071994200778694452543308451618282810109853696
theorem uf_k198 {d : Nat} {A : hs_A} {P : Option Value → hs_A → Prop} (hH : uf_H A) (a1 : Int32) (w : hxC d 198 hm_m198 [.ref 368, .int a1] A P) : hxC d 198 hm_m198 [.ref 368, .int a1] A (fun r A' => P r A' ∧ uf_W uw198 A A' ∧ uf_H A') := uf_X (X := ug_x21) (j := 21) rfl rfl (ug_L.cons uf_r1 (uf_int uf_nil)) hH w
def uw88 : Nat := 862719939047967948432373741432720211026331263156336971753572402200576
theorem uf_k88 {d : Nat} {A : hs_A} {P : Option Value → hs_A → Prop} (hH : uf_H A) (w : hxC d 88 hm_m88 [.ref 1] A P) : hxC d 88 hm_m88 [.ref 1] A (fun r A' => P r A' ∧ uf_W uw88 A A' ∧ uf_H A') := uf_X (X := ug_x22) (j := 22) rfl rfl (ug_L.cons uf_r0 uf_nil) hH w
def uw199 : Nat := 63657374260452690195888927762793067532858387302060507832703907595982842344387428088807424
theorem uf_k199 {d : Nat} {A : hs_A} {P : Option Value → hs_A → Prop} (hH : uf_H A) (w : hxC d 199 hm_m199 [.ref 368] A P) : hxC d 199 hm_m199 [.ref 368] A (fun r A' => P r A' ∧ uf_W uw199 A A' ∧ uf_H A') := uf_X (X := ug_x23) (j := 23) rfl rfl (ug_L.cons uf_r1 uf_nil) hH w
def uw91 : Nat := 1186237653354628150965348663828863749640034354591932652782957657326592
theorem uf_k91 {d : Nat} {A : hs_A} {P : Option Value → hs_A → Prop} (hH : uf_H A) (a1 a2 : Int32) (w : hxC d 91 hm_m91 [.ref 1, .int a1, .int a2] A P) : hxC d 91 hm_m91 [.ref 1, .int a1, .int a2] A (fun r A' => P r A' ∧ uf_W uw91 A A' ∧ uf_H A') := uf_X (X := ug_x24) (j := 24) rfl rfl (ug_L.cons uf_r0 (uf_int (uf_int uf_nil))) hH w
def uw204 : Nat := 12433080910244666053884556203670521002511403769933692936904025444889660923967013444911104
theorem uf_k204 {d : Nat} {A : hs_A} {P : Option Value → hs_A → Prop} (hH : uf_H A) (a1 a2 : Int32) (w : hxC d 204 hm_m204 [.ref 368, .int a1, .int a2] A P) : hxC d 204 hm_m204 [.ref 368, .int a1, .int a2] A (fun r A' => P r A' ∧ uf_W uw204 A A' ∧ uf_H A') := uf_X (X := ug_x25) (j := 25) rfl rfl (ug_L.cons uf_r1 (uf_int (uf_int uf_nil))) hH w
def uw92 : Nat := 1186237653354628150965348663828863749640034354591932652782957657326592
theorem uf_k92 {d : Nat} {A : hs_A} {P : Option Value → hs_A → Prop} (hH : uf_H A) (a1 : Int32) (w : hxC d 92 hm_m92 [.ref 1, .int a1] A P) : hxC d 92 hm_m92 [.ref 1, .int a1] A (fun r A' => P r A' ∧ uf_W uw92 A A' ∧ uf_H A') := uf_X (X := ug_x26) (j := 26) rfl rfl (ug_L.cons uf_r0 (uf_int uf_nil)) hH w
def uw205 : Nat := 12433080910244666053884556203670521002511403769933692936904025444889660923967013444911104
theorem uf_k205 {d : Nat} {A : hs_A} {P : Option Value → hs_A → Prop} (hH : uf_H A) (a1 : Int32) (w : hxC d 205 hm_m205 [.ref 368, .int a1] A P) : hxC d 205 hm_m205 [.ref 368, .int a1] A (fun r A' => P r A' ∧ uf_W uw205 A A' ∧ uf_H A') := uf_X (X := ug_x27) (j := 27) rfl rfl (ug_L.cons uf_r1 (uf_int uf_nil)) hH w
def uw93 : Nat := 1186237653354628150965348663828863749640034354591932652782957657326592
theorem uf_k93 {d : Nat} {A : hs_A} {P : Option Value → hs_A → Prop} (hH : uf_H A) (a1 : Int32) (w : hxC d 93 hm_m93 [.ref 1, .int a1] A P) : hxC d 93 hm_m93 [.ref 1, .int a1] A (fun r A' => P r A' ∧ uf_W uw93 A A' ∧ uf_H A') := uf_X (X := ug_x28) (j := 28) rfl rfl (ug_L.cons uf_r0 (uf_int uf_nil)) hH w
def uw206 : Nat := 12433080910244666053884556203670521002511403769933692947288619161959316181028006103351296
theorem uf_k206 {d : Nat} {A : hs_A} {P : Option Value → hs_A → Prop} (hH : uf_H A) (a1 : Int32) (w : hxC d 206 hm_m206 [.ref 368, .int a1] A P) : hxC d 206 hm_m206 [.ref 368, .int a1] A (fun r A' => P r A' ∧ uf_W uw206 A A' ∧ uf_H A') := uf_X (X := ug_x29) (j := 29) rfl rfl (ug_L.cons uf_r1 (uf_int uf_nil)) hH w
def uw94 : Nat := 1186237653354628150965348663828863749640034354594293836024392479933440
theorem uf_k94 {d : Nat} {A : hs_A} {P : Option Value → hs_A → Prop} (hH : uf_H A) (a1 : Int32) (w : hxC d 94 hm_m94 [.ref 1, .int a1] A P) : hxC d 94 hm_m94 [.ref 1, .int a1] A (fun r A' => P r A' ∧ uf_W uw94 A A' ∧ uf_H A') := uf_X (X := ug_x30) (j := 30) rfl rfl (ug_L.cons uf_r0 (uf_int uf_nil)) hH w
def uw207 : Nat := 12433080910244666053884556203670521002511403769933692968057806596098626695149991420231680
theorem uf_k207 {d : Nat} {A : hs_A} {P : Option Value → hs_A → Prop} (hH : uf_H A) (a1 : Int32) (w : hxC d 207 hm_m207 [.ref 368, .int a1] A P) : hxC d 207 hm_m207 [.ref 368, .int a1] A (fun r A' => P r A' ∧ uf_W uw207 A A' ∧ uf_H A') := uf_X (X := ug_x31) (j := 31) rfl rfl (ug_L.cons uf_r1 (uf_int uf_nil)) hH w
def uw95 : Nat := 1186237653354628150965348663828863749640034354593113244403675068630016
theorem uf_k95 {d : Nat} {A : hs_A} {P : Option Value → hs_A → Prop} (hH : uf_H A) (a1 a2 a3 : Int32) (w : hxC d 95 hm_m95 [.ref 1, .int a1, .int a2, .int a3] A P) : hxC d 95 hm_m95 [.ref 1, .int a1, .int a2, .int a3] A (fun r A' => P r A' ∧ uf_W uw95 A A' ∧ uf_H A') := uf_X (X := ug_x32) (j := 32) rfl rfl (ug_L.cons uf_r0 (uf_int (uf_int (uf_int uf_nil)))) hH w
def uw208 : Nat := 12433080910244666053884556203670521002511403769933692988826994030237937209271976737112064
theorem uf_k208 {d : Nat} {A : hs_A} {P : Option Value → hs_A → Prop} (hH : uf_H A) (a1 a2 a3 : Int32) (w : hxC d 208 hm_m208 [.ref 368, .int a1, .int a2, .int a3] A P) : hxC d 208 hm_m208 [.ref 368, .int a1, .int a2, .int a3] A (fun r A' => P r A' ∧ uf_W uw208 A A' ∧ uf_H A') := uf_X (X := ug_x33) (j := 33) rfl rfl (ug_L.cons uf_r1 (uf_int (uf_int (uf_int uf_nil)))) hH w
def uw97 : Nat := 1186237653354628150965348663828863749640034354591932652782957657326592
theorem uf_k97 {d : Nat} {A : hs_A} {P : Option Value → hs_A → Prop} (hH : uf_H A) (a1 : Int32) (w : hxC d 97 hm_m97 [.ref 1, .int a1] A P) : hxC d 97 hm_m97 [.ref 1, .int a1] A (fun r A' => P r A' ∧ uf_W uw97 A A' ∧ uf_H A') := uf_X (X := ug_x34) (j := 34) rfl rfl (ug_L.cons uf_r0 (uf_int uf_nil)) hH w
def uw209 : Nat := 12433080910244666053884556203670521002511403769933692936904025444889660923967013444911104
theorem uf_k209 {d : Nat} {A : hs_A} {P : Option Value → hs_A → Prop} (hH : uf_H A) (a1 : Int32) (w : hxC d 209 hm_m209 [.ref 368, .int a1] A P) : hxC d 209 hm_m209 [.ref 368, .int a1] A (fun r A' => P r A' ∧ uf_W uw209 A A' ∧ uf_H A') := uf_X (X := ug_x35) (j := 35) rfl rfl (ug_L.cons uf_r1 (uf_int uf_nil)) hH w
def uw98 : Nat := 1186237653354628150965348663828863749640034354591932652782957657326592
theorem uf_k98 {d : Nat} {A : hs_A} {P : Option Value → hs_A → Prop} (hH : uf_H A) (a1 a2 a3 : Int32) (w : hxC d 98 hm_m98 [.ref 1, .int a1, .int a2, .int a3] A P) : hxC d 98 hm_m98 [.ref 1, .int a1, .int a2, .int a3] A (fun r A' => P r A' ∧ uf_W uw98 A A' ∧ uf_H A') := uf_X (X := ug_x36) (j := 36) rfl rfl (ug_L.cons uf_r0 (uf_int (uf_int (uf_int uf_nil)))) hH w
def uw210 : Nat := 12433080910244666053884556203670521002511403769933692936904025444889660923967013444911104
theorem uf_k210 {d : Nat} {A : hs_A} {P : Option Value → hs_A → Prop} (hH : uf_H A) (a1 a2 a3 : Int32) (w : hxC d 210 hm_m210 [.ref 368, .int a1, .int a2, .int a3] A P) : hxC d 210 hm_m210 [.ref 368, .int a1, .int a2, .int a3] A (fun r A' => P r A' ∧ uf_W uw210 A A' ∧ uf_H A') := uf_X (X := ug_x37) (j := 37) rfl rfl (ug_L.cons uf_r1 (uf_int (uf_int (uf_int uf_nil)))) hH w
def uw99 : Nat := 1186237653354628150965348663828863749640034354591932652782957657326592
theorem uf_k99 {d : Nat} {A : hs_A} {P : Option Value → hs_A → Prop} (hH : uf_H A) (a1 a2 : Int32) (w : hxC d 99 hm_m99 [.ref 1, .int a1, .int a2] A P) : hxC d 99 hm_m99 [.ref 1, .int a1, .int a2] A (fun r A' => P r A' ∧ uf_W uw99 A A' ∧ uf_H A') := uf_X (X := ug_x38) (j := 38) rfl rfl (ug_L.cons uf_r0 (uf_int (uf_int uf_nil))) hH w
def uw211 : Nat := 12433080910244666053884556203670521002511403769933692947288619161959316181028006103351296
theorem uf_k211 {d : Nat} {A : hs_A} {P : Option Value → hs_A → Prop} (hH : uf_H A) (a1 a2 : Int32) (w : hxC d 211 hm_m211 [.ref 368, .int a1, .int a2] A P) : hxC d 211 hm_m211 [.ref 368, .int a1, .int a2] A (fun r A' => P r A' ∧ uf_W uw211 A A' ∧ uf_H A') := uf_X (X := ug_x39) (j := 39) rfl rfl (ug_L.cons uf_r1 (uf_int (uf_int uf_nil))) hH w
def uw100 : Nat := 1186237653354628150965348663828863749640034354591932652782957657326592
theorem uf_k100 {d : Nat} {A : hs_A} {P : Option Value → hs_A → Prop} (hH : uf_H A) (a1 a2 : Int32) (w : hxC d 100 hm_m100 [.ref 1, .int a1, .int a2] A P) : hxC d 100 hm_m100 [.ref 1, .int a1, .int a2] A (fun r A' => P r A' ∧ uf_W uw100 A A' ∧ uf_H A') := uf_X (X := ug_x40) (j := 40) rfl rfl (ug_L.cons uf_r0 (uf_int (uf_int uf_nil))) hH w
def uw212 : Nat := 12433080910244666053884556203670521002511403769933692947288619161959316181028006103351296
theorem uf_k212 {d : Nat} {A : hs_A} {P : Option Value → hs_A → Prop} (hH : uf_H A) (a1 a2 : Int32) (w : hxC d 212 hm_m212 [.ref 368, .int a1, .int a2] A P) : hxC d 212 hm_m212 [.ref 368, .int a1, .int a2] A (fun r A' => P r A' ∧ uf_W uw212 A A' ∧ uf_H A') := uf_X (X := ug_x41) (j := 41) rfl rfl (ug_L.cons uf_r1 (uf_int (uf_int uf_nil))) hH w
def uw101 : Nat := 1186237653354628150965348663828863749640034354591932652782957657326592
theorem uf_k101 {d : Nat} {A : hs_A} {P : Option Value → hs_A → Prop} (hH : uf_H A) (a1 : Int32) (w : hxC d 101 hm_m101 [.ref 1, .int a1] A P) : hxC d 101 hm_m101 [.ref 1, .int a1] A (fun r A' => P r A' ∧ uf_W uw101 A A' ∧ uf_H A') := uf_X (X := ug_x42) (j := 42) rfl rfl (ug_L.cons uf_r0 (uf_int uf_nil)) hH w
def uw213 : Nat := 12433080910244666053884556203670521002511403769933692936904025444889660923967013444911104
theorem uf_k213 {d : Nat} {A : hs_A} {P : Option Value → hs_A → Prop} (hH : uf_H A) (a1 : Int32) (w : hxC d 213 hm_m213 [.ref 368, .int a1] A P) : hxC d 213 hm_m213 [.ref 368, .int a1] A (fun r A' => P r A' ∧ uf_W uw213 A A' ∧ uf_H A') := uf_X (X := ug_x43) (j := 43) rfl rfl (ug_L.cons uf_r1 (uf_int uf_nil)) hH w
def uw102 : Nat := 323519360005807677536004181044235568083645733077570453274544996615168
theorem uf_k102 {d : Nat} {A : hs_A} {P : Option Value → hs_A → Prop} (hH : uf_H A) (a1 a2 : Int32) (w : hxC d 102 hm_m102 [.ref 1, .int a1, .int a2] A P) : hxC d 102 hm_m102 [.ref 1, .int a1, .int a2] A (fun r A' => P r A' ∧ uf_W uw102 A A' ∧ uf_H A') := uf_X (X := ug_x44) (j := 44) rfl rfl (ug_L.cons uf_r0 (uf_int (uf_int uf_nil))) hH w
def uw216 : Nat := 12433080910244666053884556203670521002511403769933693186134274654561387093430837247475712
theorem uf_k216 {d : Nat} {A : hs_A} {P : Option Value → hs_A → Prop} (hH : uf_H A) (a1 a2 : Int32) (w : hxC d 216 hm_m216 [.ref 368, .int a1, .int a2] A P) : hxC d 216 hm_m216 [.ref 368, .int a1, .int a2] A (fun r A' => P r A' ∧ uf_W uw216 A A' ∧ uf_H A') := uf_X (X := ug_x45) (j := 45) rfl rfl (ug_L.cons uf_r1 (uf_int (uf_int uf_nil))) hH w
def uw105 : Nat := 323519360005807677536004181044235568083645733070486903550240528794624
theorem uf_k105 {d : Nat} {A : hs_A} {P : Option Value → hs_A → Prop} (hH : uf_H A) (a1 a2 : Int32) (w : hxC d 105 hm_m105 [.ref 1, .int a1, .int a2] A P) : hxC d 105 hm_m105 [.ref 1, .int a1, .int a2] A (fun r A' => P r A' ∧ uf_W uw105 A A' ∧ uf_H A') := uf_X (X := ug_x46) (j := 46) rfl rfl (ug_L.cons uf_r0 (uf_int (uf_int uf_nil))) hH w
def uw217 : Nat := 12433080910244666053884556203670521002511403769933693019980775181446902980454954712432640
theorem uf_k217 {d : Nat} {A : hs_A} {P : Option Value → hs_A → Prop} (hH : uf_H A) (a1 a2 : Int32) (w : hxC d 217 hm_m217 [.ref 368, .int a1, .int a2] A P) : hxC d 217 hm_m217 [.ref 368, .int a1, .int a2] A (fun r A' => P r A' ∧ uf_W uw217 A A' ∧ uf_H A') := uf_X (X := ug_x47) (j := 47) rfl rfl (ug_L.cons uf_r1 (uf_int (uf_int uf_nil))) hH w
def uw106 : Nat := 0
theorem uf_k106 {d : Nat} {A : hs_A} {P : Option Value → hs_A → Prop} (hH : uf_H A) (a1 : Int32) (w : hxC d 106 hm_m106 [.ref 1, .int a1] A P) : hxC d 106 hm_m106 [.ref 1, .int a1] A (fun r A' => P r A' ∧ uf_W uw106 A A' ∧ uf_H A') := uf_X (X := ug_x48) (j := 48) rfl rfl (ug_L.cons uf_r0 (uf_int uf_nil)) hH w
def uw218 : Nat := 11935757673834879411729173955523700162410947619136345219220172552752681381867113053945856
theorem uf_k218 {d : Nat} {A : hs_A} {P : Option Value → hs_A → Prop} (hH : uf_H A) (a1 : Int32) (w : hxC d 218 hm_m218 [.ref 368, .int a1] A P) : hxC d 218 hm_m218 [.ref 368, .int a1] A (fun r A' => P r A' ∧ uf_W uw218 A A' ∧ uf_H A') := uf_X (X := ug_x49) (j := 49) rfl rfl (ug_L.cons uf_r1 (uf_int uf_nil)) hH w
def uw108 : Nat := 323519758526442653765592515450834468691971158579190544925380837901312
theorem uf_k108 {d : Nat} {A : hs_A} {P : Option Value → hs_A → Prop} (hH : uf_H A) (a1 a2 : Int32) (w : hxC d 108 hm_m108 [.ref 1, .int a1, .int a2] A P) : hxC d 108 hm_m108 [.ref 1, .int a1, .int a2] A (fun r A' => P r A' ∧ uf_W uw108 A A' ∧ uf_H A') := uf_X (X := ug_x50) (j := 50) rfl rfl (ug_L.cons uf_r0 (uf_int (uf_int uf_nil))) hH w
def uw219 : Nat := 12433080910244666053884556203670521002511403769933693273105247035019749871316650761912320
theorem uf_k219 {d : Nat} {A : hs_A} {P : Option Value → hs_A → Prop} (hH : uf_H A) (a1 a2 : Int32) (w : hxC d 219 hm_m219 [.ref 368, .int a1, .int a2] A P) : hxC d 219 hm_m219 [.ref 368, .int a1, .int a2] A (fun r A' => P r A' ∧ uf_W uw219 A A' ∧ uf_H A') := uf_X (X := ug_x51) (j := 51) rfl rfl (ug_L.cons uf_r1 (uf_int (uf_int uf_nil))) hH w
def uw110 : Nat := 323519758526442653765592515450834468691971158576829361683946015294464
theorem uf_k110 {d : Nat} {A : hs_A} {P : Option Value → hs_A → Prop} (hH : uf_H A) (a1 : Int32) (w : hxC d 110 hm_m110 [.ref 1, .int a1] A P) : hxC d 110 hm_m110 [.ref 1, .int a1] A (fun r A' => P r A' ∧ uf_W uw110 A A' ∧ uf_H A') := uf_X (X := ug_x52) (j := 52) rfl rfl (ug_L.cons uf_r0 (uf_int uf_nil)) hH w
def uw220 : Nat := 12433080910244666053884556203670521002511403769933692940798248088790781645364885691826176
theorem uf_k220 {d : Nat} {A : hs_A} {P : Option Value → hs_A → Prop} (hH : uf_H A) (a1 : Int32) (w : hxC d 220 hm_m220 [.ref 368, .int a1] A P) : hxC d 220 hm_m220 [.ref 368, .int a1] A (fun r A' => P r A' ∧ uf_W uw220 A A' ∧ uf_H A') := uf_X (X := ug_x53) (j := 53) rfl rfl (ug_L.cons uf_r1 (uf_int uf_nil)) hH w
def uw111 : Nat := 0
theorem uf_k111 {d : Nat} {A : hs_A} {P : Option Value → hs_A → Prop} (hH : uf_H A) (a1 : Int32) (w : hxC d 111 hm_m111 [.ref 1, .int a1] A P) : hxC d 111 hm_m111 [.ref 1, .int a1] A (fun r A' => P r A' ∧ uf_W uw111 A A' ∧ uf_H A') := uf_X (X := ug_x54) (j := 54) rfl rfl (ug_L.cons uf_r0 (uf_int uf_nil)) hH w
def uw221 : Nat := 0
theorem uf_k221 {d : Nat} {A : hs_A} {P : Option Value → hs_A → Prop} (hH : uf_H A) (a1 : Int32) (w : hxC d 221 hm_m221 [.ref 368, .int a1] A P) : hxC d 221 hm_m221 [.ref 368, .int a1] A (fun r A' => P r A' ∧ uf_W uw221 A A' ∧ uf_H A') := uf_X (X := ug_x55) (j := 55) rfl rfl (ug_L.cons uf_r1 (uf_int uf_nil)) hH w
def uw112 : Nat := 323519758526442653765592515450834468691971158576829361683946015294464
theorem uf_k112 {d : Nat} {A : hs_A} {P : Option Value → hs_A → Prop} (hH : uf_H A) (a1 : Int32) (w : hxC d 112 hm_m112 [.ref 1, .int a1] A P) : hxC d 112 hm_m112 [.ref 1, .int a1] A (fun r A' => P r A' ∧ uf_W uw112 A A' ∧ uf_H A') := uf_X (X := ug_x56) (j := 56) rfl rfl (ug_L.cons uf_r0 (uf_int uf_nil)) hH w
def uw222 : Nat := 12433080910244666053884556203670521002511403769933692940798248088790781645364885691826176
theorem uf_k222 {d : Nat} {A : hs_A} {P : Option Value → hs_A → Prop} (hH : uf_H A) (a1 : Int32) (w : hxC d 222 hm_m222 [.ref 368, .int a1] A P) : hxC d 222 hm_m222 [.ref 368, .int a1] A (fun r A' => P r A' ∧ uf_W uw222 A A' ∧ uf_H A') := uf_X (X := ug_x57) (j := 57) rfl rfl (ug_L.cons uf_r1 (uf_int uf_nil)) hH w
def uw113 : Nat := 323519758526442653765592515450834468691971158576829361683946015294464
theorem uf_k113 {d : Nat} {A : hs_A} {P : Option Value → hs_A → Prop} (hH : uf_H A) (a1 a2 a3 : Int32) (w : hxC d 113 hm_m113 [.ref 1, .int a1, .int a2, .int a3] A P) : hxC d 113 hm_m113 [.ref 1, .int a1, .int a2, .int a3] A (fun r A' => P r A' ∧ uf_W uw113 A A' ∧ uf_H A') := uf_X (X := ug_x58) (j := 58) rfl rfl (ug_L.cons uf_r0 (uf_int (uf_int (uf_int uf_nil)))) hH w
def uw223 : Nat := 12433080910244666053884556203670521002511403769933692940798248088790781645364885691826176
theorem uf_k223 {d : Nat} {A : hs_A} {P : Option Value → hs_A → Prop} (hH : uf_H A) (a1 a2 a3 : Int32) (w : hxC d 223 hm_m223 [.ref 368, .int a1, .int a2, .int a3] A P) : hxC d 223 hm_m223 [.ref 368, .int a1, .int a2, .int a3] A (fun r A' => P r A' ∧ uf_W uw223 A A' ∧ uf_H A') := uf_X (X := ug_x59) (j := 59) rfl rfl (ug_L.cons uf_r1 (uf_int (uf_int (uf_int uf_nil)))) hH w
def uw114 : Nat := 323519758526442653765592515450834468691971158576829361683946015294464
theorem uf_k114 {d : Nat} {A : hs_A} {P : Option Value → hs_A → Prop} (hH : uf_H A) (a1 a2 : Int32) (w : hxC d 114 hm_m114 [.ref 1, .int a1, .int a2] A P) : hxC d 114 hm_m114 [.ref 1, .int a1, .int a2] A (fun r A' => P r A' ∧ uf_W uw114 A A' ∧ uf_H A') := uf_X (X := ug_x60) (j := 60) rfl rfl (ug_L.cons uf_r0 (uf_int (uf_int uf_nil))) hH w
def uw224 : Nat := 12433080910244666053884556203670521002511403769933692940798248088790781645364885691826176
theorem uf_k224 {d : Nat} {A : hs_A} {P : Option Value → hs_A → Prop} (hH : uf_H A) (a1 a2 : Int32) (w : hxC d 224 hm_m224 [.ref 368, .int a1, .int a2] A P) : hxC d 224 hm_m224 [.ref 368, .int a1, .int a2] A (fun r A' => P r A' ∧ uf_W uw224 A A' ∧ uf_H A') := uf_X (X := ug_x61) (j := 61) rfl rfl (ug_L.cons uf_r1 (uf_int (uf_int uf_nil))) hH w
def uw115 : Nat := 323519758526442653765592515450834468691971158576829361683946015294464
theorem uf_k115 {d : Nat} {A : hs_A} {P : Option Value → hs_A → Prop} (hH : uf_H A) (a1 : Int32) (w : hxC d 115 hm_m115 [.ref 1, .int a1] A P) : hxC d 115 hm_m115 [.ref 1, .int a1] A (fun r A' => P r A' ∧ uf_W uw115 A A' ∧ uf_H A') := uf_X (X := ug_x62) (j := 62) rfl rfl (ug_L.cons uf_r0 (uf_int uf_nil)) hH w
def uw226 : Nat := 12433080910244666053884556203670521002511403769933692940798248088790781645364885691826176
theorem uf_k226 {d : Nat} {A : hs_A} {P : Option Value → hs_A → Prop} (hH : uf_H A) (a1 : Int32) (w : hxC d 226 hm_m226 [.ref 368, .int a1] A P) : hxC d 226 hm_m226 [.ref 368, .int a1] A (fun r A' => P r A' ∧ uf_W uw226 A A' ∧ uf_H A') := uf_X (X := ug_x63) (j := 63) rfl rfl (ug_L.cons uf_r1 (uf_int uf_nil)) hH w
def uw116 : Nat := 0
theorem uf_k116 {d : Nat} {A : hs_A} {P : Option Value → hs_A → Prop} (hH : uf_H A) (a1 : Int32) (w : hxC d 116 hm_m116 [.ref 1, .int a1] A P) : hxC d 116 hm_m116 [.ref 1, .int a1] A (fun r A' => P r A' ∧ uf_W uw116 A A' ∧ uf_H A') := uf_X (X := ug_x64) (j := 64) rfl rfl (ug_L.cons uf_r0 (uf_int uf_nil)) hH w
def uw227 : Nat := 0
theorem uf_k227 {d : Nat} {A : hs_A} {P : Option Value → hs_A → Prop} (hH : uf_H A) (a1 : Int32) (w : hxC d 227 hm_m227 [.ref 368, .int a1] A P) : hxC d 227 hm_m227 [.ref 368, .int a1] A (fun r A' => P r A' ∧ uf_W uw227 A A' ∧ uf_H A') := uf_X (X := ug_x65) (j := 65) rfl rfl (ug_L.cons uf_r1 (uf_int uf_nil)) hH w
def uw117 : Nat := 0
theorem uf_k117 {d : Nat} {A : hs_A} {P : Option Value → hs_A → Prop} (hH : uf_H A) (a1 : Int32) (w : hxC d 117 hm_m117 [.ref 1, .int a1] A P) : hxC d 117 hm_m117 [.ref 1, .int a1] A (fun r A' => P r A' ∧ uf_W uw117 A A' ∧ uf_H A') := uf_X (X := ug_x66) (j := 66) rfl rfl (ug_L.cons uf_r0 (uf_int uf_nil)) hH w
def uw228 : Nat := 0
theorem uf_k228 {d : Nat} {A : hs_A} {P : Option Value → hs_A → Prop} (hH : uf_H A) (a1 : Int32) (w : hxC d 228 hm_m228 [.ref 368, .int a1] A P) : hxC d 228 hm_m228 [.ref 368, .int a1] A (fun r A' => P r A' ∧ uf_W uw228 A A' ∧ uf_H A') := uf_X (X := ug_x67) (j := 67) rfl rfl (ug_L.cons uf_r1 (uf_int uf_nil)) hH w
def uw118 : Nat := 323519758526442653765592515450834468691971158576829361683946015294464
theorem uf_k118 {d : Nat} {A : hs_A} {P : Option Value → hs_A → Prop} (hH : uf_H A) (a1 : Int32) (w : hxC d 118 hm_m118 [.ref 1, .int a1] A P) : hxC d 118 hm_m118 [.ref 1, .int a1] A (fun r A' => P r A' ∧ uf_W uw118 A A' ∧ uf_H A') := uf_X (X := ug_x68) (j := 68) rfl rfl (ug_L.cons uf_r0 (uf_int uf_nil)) hH w
def uw229 : Nat := 12433080910244666053884556203670521002511403769933692940798248088790781645364885691826176
theorem uf_k229 {d : Nat} {A : hs_A} {P : Option Value → hs_A → Prop} (hH : uf_H A) (a1 : Int32) (w : hxC d 229 hm_m229 [.ref 368, .int a1] A P) : hxC d 229 hm_m229 [.ref 368, .int a1] A (fun r A' => P r A' ∧ uf_W uw229 A A' ∧ uf_H A') := uf_X (X := ug_x69) (j := 69) rfl rfl (ug_L.cons uf_r1 (uf_int uf_nil)) hH w
def uw120 : Nat := 0
theorem uf_k120 {d : Nat} {A : hs_A} {P : Option Value → hs_A → Prop} (hH : uf_H A) (a1 : Int32) (w : hxC d 120 hm_m120 [.ref 1, .int a1] A P) : hxC d 120 hm_m120 [.ref 1, .int a1] A (fun r A' => P r A' ∧ uf_W uw120 A A' ∧ uf_H A') := uf_X (X := ug_x70) (j := 70) rfl rfl (ug_L.cons uf_r0 (uf_int uf_nil)) hH w
def uw230 : Nat := 0
theorem uf_k230 {d : Nat} {A : hs_A} {P : Option Value → hs_A → Prop} (hH : uf_H A) (a1 : Int32) (w : hxC d 230 hm_m230 [.ref 368, .int a1] A P) : hxC d 230 hm_m230 [.ref 368, .int a1] A (fun r A' => P r A' ∧ uf_W uw230 A A' ∧ uf_H A') := uf_X (X := ug_x71) (j := 71) rfl rfl (ug_L.cons uf_r1 (uf_int uf_nil)) hH w
def uw121 : Nat := 323519758526442653765592515450834468691971158576829361683946015294464
theorem uf_k121 {d : Nat} {A : hs_A} {P : Option Value → hs_A → Prop} (hH : uf_H A) (a1 a2 a3 : Int32) (w : hxC d 121 hm_m121 [.ref 1, .int a1, .int a2, .int a3] A P) : hxC d 121 hm_m121 [.ref 1, .int a1, .int a2, .int a3] A (fun r A' => P r A' ∧ uf_W uw121 A A' ∧ uf_H A') := uf_X (X := ug_x72) (j := 72) rfl rfl (ug_L.cons uf_r0 (uf_int (uf_int (uf_int uf_nil)))) hH w
def uw231 : Nat := 12433080910244666053884556203670521002511403769933692940798248088790781645364885691826176
theorem uf_k231 {d : Nat} {A : hs_A} {P : Option Value → hs_A → Prop} (hH : uf_H A) (a1 a2 a3 : Int32) (w : hxC d 231 hm_m231 [.ref 368, .int a1, .int a2, .int a3] A P) : hxC d 231 hm_m231 [.ref 368, .int a1, .int a2, .int a3] A (fun r A' => P r A' ∧ uf_W uw231 A A' ∧ uf_H A') := uf_X (X := ug_x73) (j := 73) rfl rfl (ug_L.cons uf_r1 (uf_int (uf_int (uf_int uf_nil)))) hH w
def uw122 : Nat := 6901746346790563787434755862277025452451108972171271998878062282276864
theorem uf_k122 {d : Nat} {A : hs_A} {P : Option Value → hs_A → Prop} (hH : uf_H A) (a1 a2 : Int32) (w : hxC d 122 hm_m122 [.ref 1, .int a1, .int a2] A P) : hxC d 122 hm_m122 [.ref 1, .int a1, .int a2] A (fun r A' => P r A' ∧ uf_W uw122 A A' ∧ uf_H A') := uf_X (X := ug_x74) (j := 74) rfl rfl (ug_L.cons uf_r0 (uf_int (uf_int uf_nil))) hH w
def uw232 : Nat := 16296287810675888690147565507275025288411747149327490007082965588512424207462404239887695872
theorem uf_k232 {d : Nat} {A : hs_A} {P : Option Value → hs_A → Prop} (hH : uf_H A) (a1 a2 : Int32) (w : hxC d 232 hm_m232 [.ref 368, .int a1, .int a2] A P) : hxC d 232 hm_m232 [.ref 368, .int a1, .int a2] A (fun r A' => P r A' ∧ uf_W uw232 A A' ∧ uf_H A') := uf_X (X := ug_x75) (j := 75) rfl rfl (ug_L.cons uf_r1 (uf_int (uf_int uf_nil))) hH w
def uw123 : Nat := 6901746346790563787434755862277025452451108972170386555162524223799296
theorem uf_k123 {d : Nat} {A : hs_A} {P : Option Value → hs_A → Prop} (hH : uf_H A) (w : hxC d 123 hm_m123 [.ref 1] A P) : hxC d 123 hm_m123 [.ref 1] A (fun r A' => P r A' ∧ uf_W uw123 A A' ∧ uf_H A') := uf_X (X := ug_x76) (j := 76) rfl rfl (ug_L.cons uf_r0 uf_nil) hH w
def uw233 : Nat := 16296287810675888690147565507275025288411747149327490005089123594835050398106693649467179008
theorem uf_k233 {d : Nat} {A : hs_A} {P : Option Value → hs_A → Prop} (hH : uf_H A) (w : hxC d 233 hm_m233 [.ref 368] A P) : hxC d 233 hm_m233 [.ref 368] A (fun r A' => P r A' ∧ uf_W uw233 A A' ∧ uf_H A') := uf_X (X := ug_x77) (j := 77) rfl rfl (ug_L.cons uf_r1 uf_nil) hH w
def uw125 : Nat := 1186237653354628150965348663828863749640034354593113244403675068630016
theorem uf_k125 {d : Nat} {A : hs_A} {P : Option Value → hs_A → Prop} (hH : uf_H A) (a1 a2 : Int32) (w : hxC d 125 hm_m125 [.ref 1, .int a1, .int a2] A P) : hxC d 125 hm_m125 [.ref 1, .int a1, .int a2] A (fun r A' => P r A' ∧ uf_W uw125 A A' ∧ uf_H A') := uf_X (X := ug_x78) (j := 78) rfl rfl (ug_L.cons uf_r0 (uf_int (uf_int uf_nil))) hH w
def uw235 : Nat := 12433080910244666053884556203670521002511403769933692957673212879028971438088998761791488
theorem uf_k235 {d : Nat} {A : hs_A} {P : Option Value → hs_A → Prop} (hH : uf_H A) (a1 a2 : Int32) (w : hxC d 235 hm_m235 [.ref 368, .int a1, .int a2] A P) : hxC d 235 hm_m235 [.ref 368, .int a1, .int a2] A (fun r A' => P r A' ∧ uf_W uw235 A A' ∧ uf_H A') := uf_X (X := ug_x79) (j := 79) rfl rfl (ug_L.cons uf_r1 (uf_int (uf_int uf_nil))) hH w
def uw126 : Nat := 1186237653354628150965348663828863749640034354595474427645109891236864
theorem uf_k126 {d : Nat} {A : hs_A} {P : Option Value → hs_A → Prop} (hH : uf_H A) (a1 : Int32) (w : hxC d 126 hm_m126 [.ref 1, .int a1] A P) : hxC d 126 hm_m126 [.ref 1, .int a1] A (fun r A' => P r A' ∧ uf_W uw126 A A' ∧ uf_H A') := uf_X (X := ug_x80) (j := 80) rfl rfl (ug_L.cons uf_r0 (uf_int uf_nil)) hH w
def uw237 : Nat := 12433080910244666053884556203670521002511403769933692999211587747307592466332969395552256
theorem uf_k237 {d : Nat} {A : hs_A} {P : Option Value → hs_A → Prop} (hH : uf_H A) (a1 : Int32) (w : hxC d 237 hm_m237 [.ref 368, .int a1] A P) : hxC d 237 hm_m237 [.ref 368, .int a1] A (fun r A' => P r A' ∧ uf_W uw237 A A' ∧ uf_H A') := uf_X (X := ug_x81) (j := 81) rfl rfl (ug_L.cons uf_r1 (uf_int uf_nil)) hH w
def uw128 : Nat := 27386129504064957108541111261515585444469727442559870382836589401277988864
theorem uf_k128 {d : Nat} {A : hs_A} {P : Option Value → hs_A → Prop} (hH : uf_H A) (a1 : Int32) (w : hxC d 128 hm_m128 [.ref 1, .int a1] A P) : hxC d 128 hm_m128 [.ref 1, .int a1] A (fun r A' => P r A' ∧ uf_W uw128 A A' ∧ uf_H A') := uf_X (X := ug_x82) (j := 82) rfl rfl (ug_L.cons uf_r0 (uf_int uf_nil)) hH w
def uw238 : Nat := 7975367974709495237422842361682067456
theorem uf_k238 {d : Nat} {A : hs_A} {P : Option Value → hs_A → Prop} (hH : uf_H A) (a1 : Int32) (w : hxC d 238 hm_m238 [.ref 368, .int a1] A P) : hxC d 238 hm_m238 [.ref 368, .int a1] A (fun r A' => P r A' ∧ uf_W uw238 A A' ∧ uf_H A') := uf_X (X := ug_x83) (j := 83) rfl rfl (ug_L.cons uf_r1 (uf_int uf_nil)) hH w
def uw129 : Nat := 862719939047967948432373741432720211026331263156336971753572402200576
theorem uf_k129 {d : Nat} {A : hs_A} {P : Option Value → hs_A → Prop} (hH : uf_H A) (a1 : Int32) (w : hxC d 129 hm_m129 [.ref 1, .int a1] A P) : hxC d 129 hm_m129 [.ref 1, .int a1] A (fun r A' => P r A' ∧ uf_W uw129 A A' ∧ uf_H A') := uf_X (X := ug_x84) (j := 84) rfl rfl (ug_L.cons uf_r0 (uf_int uf_nil)) hH w
def uw239 : Nat := 63657374260452690195888927762793067532858387302060507832703907595982842344387428088807424
theorem uf_k239 {d : Nat} {A : hs_A} {P : Option Value → hs_A → Prop} (hH : uf_H A) (a1 : Int32) (w : hxC d 239 hm_m239 [.ref 368, .int a1] A P) : hxC d 239 hm_m239 [.ref 368, .int a1] A (fun r A' => P r A' ∧ uf_W uw239 A A' ∧ uf_H A') := uf_X (X := ug_x85) (j := 85) rfl rfl (ug_L.cons uf_r1 (uf_int uf_nil)) hH w
def uw130 : Nat := 0
theorem uf_k130 {d : Nat} {A : hs_A} {P : Option Value → hs_A → Prop} (hH : uf_H A) (a1 : Int32) (w : hxC d 130 hm_m130 [.ref 1, .int a1] A P) : hxC d 130 hm_m130 [.ref 1, .int a1] A (fun r A' => P r A' ∧ uf_W uw130 A A' ∧ uf_H A') := uf_X (X := ug_x86) (j := 86) rfl rfl (ug_L.cons uf_r0 (uf_int uf_nil)) hH w
def uw241 : Nat := 11935757673834879411729173955523700162410947619136345219220172552752681381867113053945856
theorem uf_k241 {d : Nat} {A : hs_A} {P : Option Value → hs_A → Prop} (hH : uf_H A) (a1 : Int32) (w : hxC d 241 hm_m241 [.ref 368, .int a1] A P) : hxC d 241 hm_m241 [.ref 368, .int a1] A (fun r A' => P r A' ∧ uf_W uw241 A A' ∧ uf_H A') := uf_X (X := ug_x87) (j := 87) rfl rfl (ug_L.cons uf_r1 (uf_int uf_nil)) hH w
def uwQ : Nat := 16372378265846586073791563011535646689084039216029431219938633297881682177300701207434101760
