/-! EACH INSTRUCTION of the tables is the code's, and its operands are resolved as the words say -/
def hc_pv (ty : FieldType) : Bool := match ty with
  | .byte => true
  | .int => true
  | .long => true
  | .boolean => true
  | _ => false
noncomputable def hc_mq (k : Nat) (P : hc_M → Bool) : Bool := match hc_get hm_pg k with
  | some e => P e
  | none => false
def hc_tl (r1 ix : Nat) : Bool := match r1 with
  | 0 => Nat.beq ix 52
  | 1 => Nat.beq ix 56
  | _ => Nat.beq ix 41
noncomputable def hc_ok (oc : Nat) (ini : Bool) (pc : Nat) (ii : Instr) (len r1 r2 : Nat) : Bool := match ii with
  | .iconst z => Nat.beq len 1 && decide (Int32.ofInt z = Int32.ofNat r1)
  | .bipush z => Nat.beq len 2 && decide ((Int8.ofInt z).toInt32 = Int32.ofNat r1)
  | .sipush z => Nat.beq len 3 && decide ((Int16.ofInt z).toInt32 = Int32.ofNat r1)
  | .lconst z => Nat.beq len 1 && decide (Int64.ofNat (z : Nat) = Int64.ofNat r1)
  | .ldc ix => Nat.beq len 2 && match r2 with
    | 0 => hc_m4 hl_CT oc ix r1
    | _ => Nat.beq oc 6 && Nat.beq ix (hx_ix r1)
  | .ldc_w ix => hc_m4 hl_CT oc ix r1 && Nat.beq len 3
  | .ldc2_w ix => hc_m4 hl_CL oc ix r1 && Nat.beq len 3
  | .iload_n k => Nat.beq len 1 && Nat.beq k r1
  | .lload_n k => Nat.beq len 1 && Nat.beq k r1
  | .aload_n k => Nat.beq len 1 && Nat.beq k r1
  | .istore_n k => Nat.beq len 1 && Nat.beq k r1
  | .lstore_n k => Nat.beq len 1 && Nat.beq k r1
  | .astore_n k => Nat.beq len 1 && Nat.beq k r1
  | .iload k => Nat.beq len 2 && Nat.beq k r1
  | .lload k => Nat.beq len 2 && Nat.beq k r1
  | .aload k => Nat.beq len 2 && Nat.beq k r1
  | .istore k => Nat.beq len 2 && Nat.beq k r1
  | .lstore k => Nat.beq len 2 && Nat.beq k r1
  | .astore k => Nat.beq len 2 && Nat.beq k r1
  | .iinc k z => Nat.beq len 3 && (Nat.beq k r1 && decide (Int32.ofInt z = Int32.ofNat r2))
  | .ifCond _ off => Nat.beq len 3 && decide ((pc : Int) + off = (r1 : Int))
  | .if_icmp _ off => Nat.beq len 3 && decide ((pc : Int) + off = (r1 : Int))
  | .goto off => Nat.beq len 3 && decide ((pc : Int) + off = (r1 : Int))
  | .tableswitch _ _ _ _ => true
  | .getfield ix => Nat.beq len 3 && (hc_m5 hl_FL oc ix r1 r2 || hc_m5 hl_FN oc ix r1 r2)
  | .putfield ix => Nat.beq len 3 && ((hc_m5 hl_FL oc ix r1 r2 && !(hc_T r1 r2).2.2.2) || ((hc_m5 hl_FN oc ix r1 r2 && !(hc_T r1 r2).2.2.2) || (hc_m5 hl_FL oc ix r1 r2 && ((hc_T r1 r2).2.2.2 && (ini && decide ((hc_T r1 r2).1 = hc_own oc))))))
  | .new ix => Nat.beq len 3 && hc_m4 hl_NW oc ix r1
  | .newarray ty => Nat.beq len 2 && (decide (hv_tyl[r1]? = some (newarray.typeOf ty)) && hc_pv (newarray.typeOf ty))
  | .anewarray ix => Nat.beq len 3 && hc_m3 hl_AN oc ix
  | .multianewarray ix d => Nat.beq len 4 && (Nat.beq d 2 && hc_m3 hl_MM oc ix)
  | .invokevirtual ix => Nat.beq len 3 && match r2 with
    | 7 => Nat.beq oc 6 && hc_tl r1 ix
    | _ => hc_m5 hl_ML oc ix r1 0 && (hc_m2 hl_SE r1 && (hc_m2 hl_IM r1 && hc_mq r1 (fun e => Nat.ble (e.2.2.2.2.1 + 1) 11)))
  | .invokespecial ix => Nat.beq len 3 && match r2 with
    | 9 => hc_m3 hl_OI oc ix
    | _ => hc_m5 hl_ML oc ix r1 1 && (hc_m2 hl_IM r1 && (decide ((hc_y r1).name = "<init>") && hc_mq r1 (fun e => e.2.2.2.1.isNone)))
  | .invokestatic ix => Nat.beq len 3 && match r2 with
    | 8 => hc_m3 hl_AC oc ix
    | 3 => hc_m4 hl_MN oc ix r1 && hc_m2 hl_ST r1
    | _ => hc_m5 hl_ML oc ix r1 2 && hc_m2 hl_ST r1
  | _ => Nat.beq len 1
def hc_row (P : Nat → hc_I → Bool) : Nat → List (Option hc_I) → Bool
  | _, [] => true
  | b, none :: ch => hc_row P (b + 1) ch
  | b, some I :: ch => P b I && hc_row P (b + 1) ch
def hc_rws (P : Nat → hc_I → Bool) : Nat → hc_K → Bool
  | _, [] => true
  | b, ch :: tb => Nat.ble ch.length 32 && (hc_row P b ch && hc_rws P (b + 32) tb)
theorem hc_row_ok {P : Nat → hc_I → Bool} : ∀ (ch : List (Option hc_I)) (b i : Nat) (I : hc_I), hc_row P b ch = true → ch[i]? = some (some I) → P (b + i) I = true
  | [], b, i, I, _, h => by simp at h
  | none :: ch, b, 0, I, h, hi => by simp at hi
  | none :: ch, b, i + 1, I, h, hi => by
    have := hc_row_ok ch (b + 1) i I h (by simpa using hi)
    rwa [show b + 1 + i = b + (i + 1) by omega] at this
  | some J :: ch, b, 0, I, h, hi => by
    have e : J = I := by simpa using hi
    subst e
    exact (Bool.and_eq_true _ _ ▸ h : _ ∧ _).1
  | some J :: ch, b, i + 1, I, h, hi => by
    have h2 : hc_row P (b + 1) ch = true := (Bool.and_eq_true _ _ ▸ h : _ ∧ _).2
    have := hc_row_ok ch (b + 1) i I h2 (by simpa using hi)
    rwa [show b + 1 + i = b + (i + 1) by omega] at this
theorem hc_rws_ok {P : Nat → hc_I → Bool} : ∀ (tb : hc_K) (b i j : Nat) (ch : List (Option hc_I)) (I : hc_I), hc_rws P b tb = true → tb[i]? = some ch → ch[j]? = some (some I) → P (b + 32 * i + j) I = true
  | [], b, i, j, ch, I, _, h, _ => by simp at h
  | c0 :: tb, b, 0, j, ch, I, h, hi, hj => by
    have e : c0 = ch := by simpa using hi
    subst e
    have h1 : Nat.ble c0.length 32 = true ∧ (hc_row P b c0 && hc_rws P (b + 32) tb) = true := Bool.and_eq_true _ _ ▸ h
    have h2 : hc_row P b c0 = true ∧ hc_rws P (b + 32) tb = true := Bool.and_eq_true _ _ ▸ h1.2
    exact hc_row_ok c0 b j I h2.1 hj
  | c0 :: tb, b, i + 1, j, ch, I, h, hi, hj => by
    have h1 : Nat.ble c0.length 32 = true ∧ (hc_row P b c0 && hc_rws P (b + 32) tb) = true := Bool.and_eq_true _ _ ▸ h
    have h2 : hc_row P b c0 = true ∧ hc_rws P (b + 32) tb = true := Bool.and_eq_true _ _ ▸ h1.2
    have := hc_rws_ok tb (b + 32) i j ch I h2.2 (by simpa using hi) hj
    rwa [show b + 32 + 32 * i + j = b + 32 * (i + 1) + j by omega] at this
theorem hc_tab {P : Nat → hc_I → Bool} {tb : hc_K} (h : hc_rws P 0 tb = true) {pc : Nat} {I : hc_I} (hg : hc_get tb pc = some I) : P pc I = true := by
  unfold hc_get at hg
  split at hg
  · cases hg
  next ch h1 =>
    split at hg
    · cases hg
    next x h2 =>
      subst hg
      rw [hc_nth_eq] at h1 h2
      have := hc_rws_ok tb 0 (pc / 32) (pc % 32) ch I h h1 h2
      rwa [show 0 + 32 * (pc / 32) + pc % 32 = pc by omega] at this
noncomputable def hc_isI0 (y : MethodName) : Bool := decide (y.name = "<init>")
noncomputable def hc_D (bytes : ByteArray) : Nat → hc_I → Bool := fun pc I => decide (decode bytes pc = .ok (I.1, I.2.1))
noncomputable def hc_O (oc : Nat) (ini : Bool) : Nat → hc_I → Bool := fun pc I => hc_ok oc ini pc I.1 I.2.1 I.2.2.1 I.2.2.2
/-- what is known of a method of the tables -/
def hc_MOK (e : hc_M) : Prop := Cond.code e.1 e.2.1 e.2.2.1 e.2.2.2.1 ∈ hc_gw ∧ plainFor e.1 = true ∧ (e.1.cls ≠ "java/lang/invoke/MethodHandle" ∧ e.1.cls ≠ "java/lang/invoke/VarHandle") ∧ Cond.initialized e.1.cls ∈ hc_gw ∧ (parseMethodDescriptor e.1.desc).map (fun d => d.parameters.length) = some e.2.2.2.2.2.1 ∧ hc_own e.2.2.2.2.1 = e.1.cls ∧ hc_rws (hc_D e.2.1) 0 e.2.2.2.2.2.2 = true ∧ hc_rws (hc_O e.2.2.2.2.1 (hc_isI0 e.1)) 0 e.2.2.2.2.2.2 = true ∧ e.2.2.1 ≤ 21
theorem hc_pgAll {P : hc_M → Prop} {pg : List (List (Option hc_M))} (h : ∀ ch ∈ pg, ∀ x ∈ ch, ∀ e, x = some e → P e) {k : Nat} {e : hc_M} (hg : hc_get pg k = some e) : P e := by
  unfold hc_get at hg
  split at hg
  · cases hg
  next ch h1 =>
    split at hg
    · cases hg
    next x h2 =>
      rw [hc_nth_eq] at h1 h2
      exact h ch (List.mem_of_getElem? h1) x (List.mem_of_getElem? h2) e hg
theorem hc_one {P : hc_M → Prop} {e : hc_M} (h : P e) : ∀ e', some e = some e' → P e' := fun e' q => by cases q; exact h
/-! A FAST CHECK: each opcode is decoded once, for any code; then one pass over the bytes -/
def hf_u (code : ByteArray) (p b : Nat) : Prop := (Reader.u1 : Reader DecodeError Nat) code p = .ok (b, p + 1)
theorem hf_b {α β : Type} {x : Except DecodeError α} {f : α → Except DecodeError β} {a : α} {r : Except DecodeError β} (h : x = .ok a) (k : f a = r) : Except.bind x f = r := by
  rw [h]
  exact k
theorem hf_d {code : ByteArray} {pc q n : Nat} {I : Instr} (h : Decoder.instr pc code pc = .ok (I, q)) (hq : q - pc = n) : decode code pc = .ok (I, n) := by
  have e : decode code pc = Except.bind (Decoder.instr pc code pc) (fun p => .ok (p.1, p.2 - pc)) := rfl
  rw [e, h]
  show Except.ok (I, q - pc) = _
  rw [hq]
section HF
variable {code : ByteArray} {pc v w x : Nat}
theorem hf_z46 (h0 : hf_u code pc 46) : decode code pc = .ok (.iaload, 1) := hf_d (hf_b h0 rfl) (by omega)
theorem hf_z47 (h0 : hf_u code pc 47) : decode code pc = .ok (.laload, 1) := hf_d (hf_b h0 rfl) (by omega)
theorem hf_z50 (h0 : hf_u code pc 50) : decode code pc = .ok (.aaload, 1) := hf_d (hf_b h0 rfl) (by omega)
theorem hf_z51 (h0 : hf_u code pc 51) : decode code pc = .ok (.baload, 1) := hf_d (hf_b h0 rfl) (by omega)
theorem hf_z79 (h0 : hf_u code pc 79) : decode code pc = .ok (.iastore, 1) := hf_d (hf_b h0 rfl) (by omega)
theorem hf_z80 (h0 : hf_u code pc 80) : decode code pc = .ok (.lastore, 1) := hf_d (hf_b h0 rfl) (by omega)
theorem hf_z83 (h0 : hf_u code pc 83) : decode code pc = .ok (.aastore, 1) := hf_d (hf_b h0 rfl) (by omega)
theorem hf_z84 (h0 : hf_u code pc 84) : decode code pc = .ok (.bastore, 1) := hf_d (hf_b h0 rfl) (by omega)
theorem hf_z87 (h0 : hf_u code pc 87) : decode code pc = .ok (.pop, 1) := hf_d (hf_b h0 rfl) (by omega)
theorem hf_z89 (h0 : hf_u code pc 89) : decode code pc = .ok (.dup, 1) := hf_d (hf_b h0 rfl) (by omega)
theorem hf_z92 (h0 : hf_u code pc 92) : decode code pc = .ok (.dup2, 1) := hf_d (hf_b h0 rfl) (by omega)
theorem hf_z96 (h0 : hf_u code pc 96) : decode code pc = .ok (.iadd, 1) := hf_d (hf_b h0 rfl) (by omega)
theorem hf_z97 (h0 : hf_u code pc 97) : decode code pc = .ok (.ladd, 1) := hf_d (hf_b h0 rfl) (by omega)
theorem hf_z100 (h0 : hf_u code pc 100) : decode code pc = .ok (.isub, 1) := hf_d (hf_b h0 rfl) (by omega)
theorem hf_z101 (h0 : hf_u code pc 101) : decode code pc = .ok (.lsub, 1) := hf_d (hf_b h0 rfl) (by omega)
theorem hf_z104 (h0 : hf_u code pc 104) : decode code pc = .ok (.imul, 1) := hf_d (hf_b h0 rfl) (by omega)
theorem hf_z105 (h0 : hf_u code pc 105) : decode code pc = .ok (.lmul, 1) := hf_d (hf_b h0 rfl) (by omega)
theorem hf_z108 (h0 : hf_u code pc 108) : decode code pc = .ok (.idiv, 1) := hf_d (hf_b h0 rfl) (by omega)
theorem hf_z112 (h0 : hf_u code pc 112) : decode code pc = .ok (.irem, 1) := hf_d (hf_b h0 rfl) (by omega)
theorem hf_z120 (h0 : hf_u code pc 120) : decode code pc = .ok (.ishl, 1) := hf_d (hf_b h0 rfl) (by omega)
theorem hf_z121 (h0 : hf_u code pc 121) : decode code pc = .ok (.lshl, 1) := hf_d (hf_b h0 rfl) (by omega)
theorem hf_z122 (h0 : hf_u code pc 122) : decode code pc = .ok (.ishr, 1) := hf_d (hf_b h0 rfl) (by omega)
theorem hf_z124 (h0 : hf_u code pc 124) : decode code pc = .ok (.iushr, 1) := hf_d (hf_b h0 rfl) (by omega)
theorem hf_z126 (h0 : hf_u code pc 126) : decode code pc = .ok (.iand, 1) := hf_d (hf_b h0 rfl) (by omega)
theorem hf_z128 (h0 : hf_u code pc 128) : decode code pc = .ok (.ior, 1) := hf_d (hf_b h0 rfl) (by omega)
theorem hf_z129 (h0 : hf_u code pc 129) : decode code pc = .ok (.lor, 1) := hf_d (hf_b h0 rfl) (by omega)
theorem hf_z130 (h0 : hf_u code pc 130) : decode code pc = .ok (.ixor, 1) := hf_d (hf_b h0 rfl) (by omega)
theorem hf_z133 (h0 : hf_u code pc 133) : decode code pc = .ok (.i2l, 1) := hf_d (hf_b h0 rfl) (by omega)
theorem hf_z136 (h0 : hf_u code pc 136) : decode code pc = .ok (.l2i, 1) := hf_d (hf_b h0 rfl) (by omega)
theorem hf_z145 (h0 : hf_u code pc 145) : decode code pc = .ok (.i2b, 1) := hf_d (hf_b h0 rfl) (by omega)
theorem hf_z146 (h0 : hf_u code pc 146) : decode code pc = .ok (.i2c, 1) := hf_d (hf_b h0 rfl) (by omega)
theorem hf_z148 (h0 : hf_u code pc 148) : decode code pc = .ok (.lcmp, 1) := hf_d (hf_b h0 rfl) (by omega)
theorem hf_z172 (h0 : hf_u code pc 172) : decode code pc = .ok (.ireturn, 1) := hf_d (hf_b h0 rfl) (by omega)
theorem hf_z173 (h0 : hf_u code pc 173) : decode code pc = .ok (.lreturn, 1) := hf_d (hf_b h0 rfl) (by omega)
theorem hf_z176 (h0 : hf_u code pc 176) : decode code pc = .ok (.areturn, 1) := hf_d (hf_b h0 rfl) (by omega)
theorem hf_z177 (h0 : hf_u code pc 177) : decode code pc = .ok (.return_, 1) := hf_d (hf_b h0 rfl) (by omega)
theorem hf_z190 (h0 : hf_u code pc 190) : decode code pc = .ok (.arraylength, 1) := hf_d (hf_b h0 rfl) (by omega)
theorem hf_z26 (h0 : hf_u code pc 26) : decode code pc = .ok (.iload_n 0, 1) := hf_d (hf_b h0 rfl) (by omega)
theorem hf_z27 (h0 : hf_u code pc 27) : decode code pc = .ok (.iload_n 1, 1) := hf_d (hf_b h0 rfl) (by omega)
theorem hf_z28 (h0 : hf_u code pc 28) : decode code pc = .ok (.iload_n 2, 1) := hf_d (hf_b h0 rfl) (by omega)
theorem hf_z29 (h0 : hf_u code pc 29) : decode code pc = .ok (.iload_n 3, 1) := hf_d (hf_b h0 rfl) (by omega)
theorem hf_z30 (h0 : hf_u code pc 30) : decode code pc = .ok (.lload_n 0, 1) := hf_d (hf_b h0 rfl) (by omega)
theorem hf_z31 (h0 : hf_u code pc 31) : decode code pc = .ok (.lload_n 1, 1) := hf_d (hf_b h0 rfl) (by omega)
theorem hf_z32 (h0 : hf_u code pc 32) : decode code pc = .ok (.lload_n 2, 1) := hf_d (hf_b h0 rfl) (by omega)
theorem hf_z33 (h0 : hf_u code pc 33) : decode code pc = .ok (.lload_n 3, 1) := hf_d (hf_b h0 rfl) (by omega)
theorem hf_z42 (h0 : hf_u code pc 42) : decode code pc = .ok (.aload_n 0, 1) := hf_d (hf_b h0 rfl) (by omega)
theorem hf_z43 (h0 : hf_u code pc 43) : decode code pc = .ok (.aload_n 1, 1) := hf_d (hf_b h0 rfl) (by omega)
theorem hf_z44 (h0 : hf_u code pc 44) : decode code pc = .ok (.aload_n 2, 1) := hf_d (hf_b h0 rfl) (by omega)
theorem hf_z45 (h0 : hf_u code pc 45) : decode code pc = .ok (.aload_n 3, 1) := hf_d (hf_b h0 rfl) (by omega)
theorem hf_z59 (h0 : hf_u code pc 59) : decode code pc = .ok (.istore_n 0, 1) := hf_d (hf_b h0 rfl) (by omega)
theorem hf_z60 (h0 : hf_u code pc 60) : decode code pc = .ok (.istore_n 1, 1) := hf_d (hf_b h0 rfl) (by omega)
theorem hf_z61 (h0 : hf_u code pc 61) : decode code pc = .ok (.istore_n 2, 1) := hf_d (hf_b h0 rfl) (by omega)
theorem hf_z62 (h0 : hf_u code pc 62) : decode code pc = .ok (.istore_n 3, 1) := hf_d (hf_b h0 rfl) (by omega)
theorem hf_z63 (h0 : hf_u code pc 63) : decode code pc = .ok (.lstore_n 0, 1) := hf_d (hf_b h0 rfl) (by omega)
theorem hf_z64 (h0 : hf_u code pc 64) : decode code pc = .ok (.lstore_n 1, 1) := hf_d (hf_b h0 rfl) (by omega)
theorem hf_z65 (h0 : hf_u code pc 65) : decode code pc = .ok (.lstore_n 2, 1) := hf_d (hf_b h0 rfl) (by omega)
theorem hf_z66 (h0 : hf_u code pc 66) : decode code pc = .ok (.lstore_n 3, 1) := hf_d (hf_b h0 rfl) (by omega)
theorem hf_z75 (h0 : hf_u code pc 75) : decode code pc = .ok (.astore_n 0, 1) := hf_d (hf_b h0 rfl) (by omega)
theorem hf_z76 (h0 : hf_u code pc 76) : decode code pc = .ok (.astore_n 1, 1) := hf_d (hf_b h0 rfl) (by omega)
theorem hf_z77 (h0 : hf_u code pc 77) : decode code pc = .ok (.astore_n 2, 1) := hf_d (hf_b h0 rfl) (by omega)
theorem hf_z78 (h0 : hf_u code pc 78) : decode code pc = .ok (.astore_n 3, 1) := hf_d (hf_b h0 rfl) (by omega)
theorem hf_z2 (h0 : hf_u code pc 2) : decode code pc = .ok (.iconst (-1), 1) := hf_d (hf_b h0 rfl) (by omega)
theorem hf_z3 (h0 : hf_u code pc 3) : decode code pc = .ok (.iconst 0, 1) := hf_d (hf_b h0 rfl) (by omega)
theorem hf_z4 (h0 : hf_u code pc 4) : decode code pc = .ok (.iconst 1, 1) := hf_d (hf_b h0 rfl) (by omega)
theorem hf_z5 (h0 : hf_u code pc 5) : decode code pc = .ok (.iconst 2, 1) := hf_d (hf_b h0 rfl) (by omega)
theorem hf_z6 (h0 : hf_u code pc 6) : decode code pc = .ok (.iconst 3, 1) := hf_d (hf_b h0 rfl) (by omega)
theorem hf_z7 (h0 : hf_u code pc 7) : decode code pc = .ok (.iconst 4, 1) := hf_d (hf_b h0 rfl) (by omega)
theorem hf_z8 (h0 : hf_u code pc 8) : decode code pc = .ok (.iconst 5, 1) := hf_d (hf_b h0 rfl) (by omega)
theorem hf_z9 (h0 : hf_u code pc 9) : decode code pc = .ok (.lconst 0, 1) := hf_d (hf_b h0 rfl) (by omega)
theorem hf_o18 (h0 : hf_u code pc 18) (h1 : hf_u code (pc + 1) v) : decode code pc = .ok (.ldc v, 2) := hf_d (hf_b h0 (hf_b h1 rfl)) (by omega)
theorem hf_o21 (h0 : hf_u code pc 21) (h1 : hf_u code (pc + 1) v) : decode code pc = .ok (.iload v, 2) := hf_d (hf_b h0 (hf_b h1 rfl)) (by omega)
theorem hf_o22 (h0 : hf_u code pc 22) (h1 : hf_u code (pc + 1) v) : decode code pc = .ok (.lload v, 2) := hf_d (hf_b h0 (hf_b h1 rfl)) (by omega)
theorem hf_o25 (h0 : hf_u code pc 25) (h1 : hf_u code (pc + 1) v) : decode code pc = .ok (.aload v, 2) := hf_d (hf_b h0 (hf_b h1 rfl)) (by omega)
theorem hf_o54 (h0 : hf_u code pc 54) (h1 : hf_u code (pc + 1) v) : decode code pc = .ok (.istore v, 2) := hf_d (hf_b h0 (hf_b h1 rfl)) (by omega)
theorem hf_o55 (h0 : hf_u code pc 55) (h1 : hf_u code (pc + 1) v) : decode code pc = .ok (.lstore v, 2) := hf_d (hf_b h0 (hf_b h1 rfl)) (by omega)
theorem hf_o58 (h0 : hf_u code pc 58) (h1 : hf_u code (pc + 1) v) : decode code pc = .ok (.astore v, 2) := hf_d (hf_b h0 (hf_b h1 rfl)) (by omega)
theorem hf_o16 (h0 : hf_u code pc 16) (h1 : hf_u code (pc + 1) v) : decode code pc = .ok (.bipush (Reader.signed 8 v), 2) := hf_d (hf_b h0 (hf_b (hf_b h1 rfl) rfl)) (by omega)
theorem hf_o132 (h0 : hf_u code pc 132) (h1 : hf_u code (pc + 1) v) (h2 : hf_u code (pc + 1 + 1) w) : decode code pc = .ok (.iinc v (Reader.signed 8 w), 3) := hf_d (hf_b h0 (hf_b h1 (hf_b (hf_b h2 rfl) rfl))) (by omega)
theorem hf_o19 (h0 : hf_u code pc 19) (h1 : hf_u code (pc + 1) v) (h2 : hf_u code (pc + 1 + 1) w) : decode code pc = .ok (.ldc_w (v * 256 + w), 3) := hf_d (hf_b h0 (hf_b (hf_b h1 (hf_b h2 rfl)) rfl)) (by omega)
theorem hf_o20 (h0 : hf_u code pc 20) (h1 : hf_u code (pc + 1) v) (h2 : hf_u code (pc + 1 + 1) w) : decode code pc = .ok (.ldc2_w (v * 256 + w), 3) := hf_d (hf_b h0 (hf_b (hf_b h1 (hf_b h2 rfl)) rfl)) (by omega)
theorem hf_o180 (h0 : hf_u code pc 180) (h1 : hf_u code (pc + 1) v) (h2 : hf_u code (pc + 1 + 1) w) : decode code pc = .ok (.getfield (v * 256 + w), 3) := hf_d (hf_b h0 (hf_b (hf_b h1 (hf_b h2 rfl)) rfl)) (by omega)
theorem hf_o181 (h0 : hf_u code pc 181) (h1 : hf_u code (pc + 1) v) (h2 : hf_u code (pc + 1 + 1) w) : decode code pc = .ok (.putfield (v * 256 + w), 3) := hf_d (hf_b h0 (hf_b (hf_b h1 (hf_b h2 rfl)) rfl)) (by omega)
theorem hf_o182 (h0 : hf_u code pc 182) (h1 : hf_u code (pc + 1) v) (h2 : hf_u code (pc + 1 + 1) w) : decode code pc = .ok (.invokevirtual (v * 256 + w), 3) := hf_d (hf_b h0 (hf_b (hf_b h1 (hf_b h2 rfl)) rfl)) (by omega)
theorem hf_o183 (h0 : hf_u code pc 183) (h1 : hf_u code (pc + 1) v) (h2 : hf_u code (pc + 1 + 1) w) : decode code pc = .ok (.invokespecial (v * 256 + w), 3) := hf_d (hf_b h0 (hf_b (hf_b h1 (hf_b h2 rfl)) rfl)) (by omega)
theorem hf_o184 (h0 : hf_u code pc 184) (h1 : hf_u code (pc + 1) v) (h2 : hf_u code (pc + 1 + 1) w) : decode code pc = .ok (.invokestatic (v * 256 + w), 3) := hf_d (hf_b h0 (hf_b (hf_b h1 (hf_b h2 rfl)) rfl)) (by omega)
theorem hf_o187 (h0 : hf_u code pc 187) (h1 : hf_u code (pc + 1) v) (h2 : hf_u code (pc + 1 + 1) w) : decode code pc = .ok (.new (v * 256 + w), 3) := hf_d (hf_b h0 (hf_b (hf_b h1 (hf_b h2 rfl)) rfl)) (by omega)
theorem hf_o189 (h0 : hf_u code pc 189) (h1 : hf_u code (pc + 1) v) (h2 : hf_u code (pc + 1 + 1) w) : decode code pc = .ok (.anewarray (v * 256 + w), 3) := hf_d (hf_b h0 (hf_b (hf_b h1 (hf_b h2 rfl)) rfl)) (by omega)
theorem hf_o153 (h0 : hf_u code pc 153) (h1 : hf_u code (pc + 1) v) (h2 : hf_u code (pc + 1 + 1) w) : decode code pc = .ok (.ifCond .eq (Reader.signed 16 (v * 256 + w)), 3) := hf_d (hf_b h0 (hf_b (hf_b (hf_b h1 (hf_b h2 rfl)) rfl) rfl)) (by omega)
theorem hf_o159 (h0 : hf_u code pc 159) (h1 : hf_u code (pc + 1) v) (h2 : hf_u code (pc + 1 + 1) w) : decode code pc = .ok (.if_icmp .eq (Reader.signed 16 (v * 256 + w)), 3) := hf_d (hf_b h0 (hf_b (hf_b (hf_b h1 (hf_b h2 rfl)) rfl) rfl)) (by omega)
theorem hf_o154 (h0 : hf_u code pc 154) (h1 : hf_u code (pc + 1) v) (h2 : hf_u code (pc + 1 + 1) w) : decode code pc = .ok (.ifCond .ne (Reader.signed 16 (v * 256 + w)), 3) := hf_d (hf_b h0 (hf_b (hf_b (hf_b h1 (hf_b h2 rfl)) rfl) rfl)) (by omega)
theorem hf_o160 (h0 : hf_u code pc 160) (h1 : hf_u code (pc + 1) v) (h2 : hf_u code (pc + 1 + 1) w) : decode code pc = .ok (.if_icmp .ne (Reader.signed 16 (v * 256 + w)), 3) := hf_d (hf_b h0 (hf_b (hf_b (hf_b h1 (hf_b h2 rfl)) rfl) rfl)) (by omega)
theorem hf_o155 (h0 : hf_u code pc 155) (h1 : hf_u code (pc + 1) v) (h2 : hf_u code (pc + 1 + 1) w) : decode code pc = .ok (.ifCond .lt (Reader.signed 16 (v * 256 + w)), 3) := hf_d (hf_b h0 (hf_b (hf_b (hf_b h1 (hf_b h2 rfl)) rfl) rfl)) (by omega)
theorem hf_o161 (h0 : hf_u code pc 161) (h1 : hf_u code (pc + 1) v) (h2 : hf_u code (pc + 1 + 1) w) : decode code pc = .ok (.if_icmp .lt (Reader.signed 16 (v * 256 + w)), 3) := hf_d (hf_b h0 (hf_b (hf_b (hf_b h1 (hf_b h2 rfl)) rfl) rfl)) (by omega)
theorem hf_o156 (h0 : hf_u code pc 156) (h1 : hf_u code (pc + 1) v) (h2 : hf_u code (pc + 1 + 1) w) : decode code pc = .ok (.ifCond .ge (Reader.signed 16 (v * 256 + w)), 3) := hf_d (hf_b h0 (hf_b (hf_b (hf_b h1 (hf_b h2 rfl)) rfl) rfl)) (by omega)
theorem hf_o162 (h0 : hf_u code pc 162) (h1 : hf_u code (pc + 1) v) (h2 : hf_u code (pc + 1 + 1) w) : decode code pc = .ok (.if_icmp .ge (Reader.signed 16 (v * 256 + w)), 3) := hf_d (hf_b h0 (hf_b (hf_b (hf_b h1 (hf_b h2 rfl)) rfl) rfl)) (by omega)
theorem hf_o157 (h0 : hf_u code pc 157) (h1 : hf_u code (pc + 1) v) (h2 : hf_u code (pc + 1 + 1) w) : decode code pc = .ok (.ifCond .gt (Reader.signed 16 (v * 256 + w)), 3) := hf_d (hf_b h0 (hf_b (hf_b (hf_b h1 (hf_b h2 rfl)) rfl) rfl)) (by omega)
theorem hf_o163 (h0 : hf_u code pc 163) (h1 : hf_u code (pc + 1) v) (h2 : hf_u code (pc + 1 + 1) w) : decode code pc = .ok (.if_icmp .gt (Reader.signed 16 (v * 256 + w)), 3) := hf_d (hf_b h0 (hf_b (hf_b (hf_b h1 (hf_b h2 rfl)) rfl) rfl)) (by omega)
theorem hf_o158 (h0 : hf_u code pc 158) (h1 : hf_u code (pc + 1) v) (h2 : hf_u code (pc + 1 + 1) w) : decode code pc = .ok (.ifCond .le (Reader.signed 16 (v * 256 + w)), 3) := hf_d (hf_b h0 (hf_b (hf_b (hf_b h1 (hf_b h2 rfl)) rfl) rfl)) (by omega)
theorem hf_o164 (h0 : hf_u code pc 164) (h1 : hf_u code (pc + 1) v) (h2 : hf_u code (pc + 1 + 1) w) : decode code pc = .ok (.if_icmp .le (Reader.signed 16 (v * 256 + w)), 3) := hf_d (hf_b h0 (hf_b (hf_b (hf_b h1 (hf_b h2 rfl)) rfl) rfl)) (by omega)
theorem hf_o167 (h0 : hf_u code pc 167) (h1 : hf_u code (pc + 1) v) (h2 : hf_u code (pc + 1 + 1) w) : decode code pc = .ok (.goto (Reader.signed 16 (v * 256 + w)), 3) := hf_d (hf_b h0 (hf_b (hf_b (hf_b h1 (hf_b h2 rfl)) rfl) rfl)) (by omega)
theorem hf_o17 (h0 : hf_u code pc 17) (h1 : hf_u code (pc + 1) v) (h2 : hf_u code (pc + 1 + 1) w) : decode code pc = .ok (.sipush (Reader.signed 16 (v * 256 + w)), 3) := hf_d (hf_b h0 (hf_b (hf_b (hf_b h1 (hf_b h2 rfl)) rfl) rfl)) (by omega)
theorem hf_o188_4 (h0 : hf_u code pc 188) (h1 : hf_u code (pc + 1) 4) : decode code pc = .ok (.newarray .boolean, 2) := hf_d (hf_b h0 (hf_b h1 rfl)) (by omega)
theorem hf_o188_8 (h0 : hf_u code pc 188) (h1 : hf_u code (pc + 1) 8) : decode code pc = .ok (.newarray .byte, 2) := hf_d (hf_b h0 (hf_b h1 rfl)) (by omega)
theorem hf_o188_10 (h0 : hf_u code pc 188) (h1 : hf_u code (pc + 1) 10) : decode code pc = .ok (.newarray .int, 2) := hf_d (hf_b h0 (hf_b h1 rfl)) (by omega)
theorem hf_o188_11 (h0 : hf_u code pc 188) (h1 : hf_u code (pc + 1) 11) : decode code pc = .ok (.newarray .long, 2) := hf_d (hf_b h0 (hf_b h1 rfl)) (by omega)
end HF
noncomputable def hf_0 (op len : Nat) : List UInt8 → Bool
  | [] => false
  | b :: _ => Nat.beq b.toNat op && Nat.beq len 1
noncomputable def hf_1 (op len : Nat) (P : Nat → Bool) : List UInt8 → Bool
  | a :: b :: _ => Nat.beq a.toNat op && (Nat.beq len 2 && P b.toNat)
  | _ => false
noncomputable def hf_2 (op len : Nat) (P : Nat → Nat → Bool) : List UInt8 → Bool
  | a :: b :: c :: _ => Nat.beq a.toNat op && (Nat.beq len 3 && P b.toNat c.toNat)
  | _ => false
def hf_c (c : Jvm.ClassFile.Cond) : Nat := match c with
  | .eq => 0
  | .ne => 1
  | .lt => 2
  | .ge => 3
  | .gt => 4
  | .le => 5
def hf_at (t : ArrayType) : Nat := match t with
  | .boolean => 4
  | .byte => 8
  | .int => 10
  | .long => 11
  | _ => 1000
noncomputable def hf_ck (ii : Instr) (len : Nat) (l : List UInt8) : Bool := match ii with
  | .iaload => hf_0 46 len l
  | .laload => hf_0 47 len l
  | .aaload => hf_0 50 len l
  | .baload => hf_0 51 len l
  | .iastore => hf_0 79 len l
  | .lastore => hf_0 80 len l
  | .aastore => hf_0 83 len l
  | .bastore => hf_0 84 len l
  | .pop => hf_0 87 len l
  | .dup => hf_0 89 len l
  | .dup2 => hf_0 92 len l
  | .iadd => hf_0 96 len l
  | .ladd => hf_0 97 len l
  | .isub => hf_0 100 len l
  | .lsub => hf_0 101 len l
  | .imul => hf_0 104 len l
  | .lmul => hf_0 105 len l
  | .idiv => hf_0 108 len l
  | .irem => hf_0 112 len l
  | .ishl => hf_0 120 len l
  | .lshl => hf_0 121 len l
  | .ishr => hf_0 122 len l
  | .iushr => hf_0 124 len l
  | .iand => hf_0 126 len l
  | .ior => hf_0 128 len l
  | .lor => hf_0 129 len l
  | .ixor => hf_0 130 len l
  | .i2l => hf_0 133 len l
  | .l2i => hf_0 136 len l
  | .i2b => hf_0 145 len l
  | .i2c => hf_0 146 len l
  | .lcmp => hf_0 148 len l
  | .ireturn => hf_0 172 len l
  | .lreturn => hf_0 173 len l
  | .areturn => hf_0 176 len l
  | .return_ => hf_0 177 len l
  | .arraylength => hf_0 190 len l
  | .iload_n n => hf_0 (26 + n.val) len l
  | .lload_n n => hf_0 (30 + n.val) len l
  | .aload_n n => hf_0 (42 + n.val) len l
  | .istore_n n => hf_0 (59 + n.val) len l
  | .lstore_n n => hf_0 (63 + n.val) len l
  | .astore_n n => hf_0 (75 + n.val) len l
  | .iconst z => decide (-1 ≤ z ∧ z ≤ 5) && hf_0 (z + 3).toNat len l
  | .lconst n => Nat.beq n.val 0 && hf_0 9 len l
  | .ldc k => hf_1 18 len (fun v => Nat.beq v k) l
  | .iload k => hf_1 21 len (fun v => Nat.beq v k) l
  | .lload k => hf_1 22 len (fun v => Nat.beq v k) l
  | .aload k => hf_1 25 len (fun v => Nat.beq v k) l
  | .istore k => hf_1 54 len (fun v => Nat.beq v k) l
  | .lstore k => hf_1 55 len (fun v => Nat.beq v k) l
  | .astore k => hf_1 58 len (fun v => Nat.beq v k) l
  | .bipush z => hf_1 16 len (fun v => decide (Reader.signed 8 v = z)) l
  | .newarray t => hf_1 188 len (fun v => Nat.beq v (hf_at t)) l
  | .iinc k z => hf_2 132 len (fun v w => Nat.beq v k && decide (Reader.signed 8 w = z)) l
  | .ldc_w k => hf_2 19 len (fun v w => Nat.beq (v * 256 + w) k) l
  | .ldc2_w k => hf_2 20 len (fun v w => Nat.beq (v * 256 + w) k) l
  | .getfield k => hf_2 180 len (fun v w => Nat.beq (v * 256 + w) k) l
  | .putfield k => hf_2 181 len (fun v w => Nat.beq (v * 256 + w) k) l
  | .invokevirtual k => hf_2 182 len (fun v w => Nat.beq (v * 256 + w) k) l
  | .invokespecial k => hf_2 183 len (fun v w => Nat.beq (v * 256 + w) k) l
  | .invokestatic k => hf_2 184 len (fun v w => Nat.beq (v * 256 + w) k) l
  | .new k => hf_2 187 len (fun v w => Nat.beq (v * 256 + w) k) l
  | .anewarray k => hf_2 189 len (fun v w => Nat.beq (v * 256 + w) k) l
  | .goto z => hf_2 167 len (fun v w => decide (Reader.signed 16 (v * 256 + w) = z)) l
  | .sipush z => hf_2 17 len (fun v w => decide (Reader.signed 16 (v * 256 + w) = z)) l
  | .ifCond c z => hf_2 (153 + hf_c c) len (fun v w => decide (Reader.signed 16 (v * 256 + w) = z)) l
  | .if_icmp c z => hf_2 (159 + hf_c c) len (fun v w => decide (Reader.signed 16 (v * 256 + w) = z)) l
  | _ => false
/-- what stands from p on -/
def hf_at2 (code : ByteArray) (p : Nat) (l : List UInt8) : Prop := code.data.toList.drop p = l
theorem hf_at2.tl {code : ByteArray} {p : Nat} {b : UInt8} {l : List UInt8} (h : hf_at2 code p (b :: l)) : hf_at2 code (p + 1) l := by
  unfold hf_at2 at h ⊢
  rw [← List.drop_drop, h]
  rfl
theorem hf_at2.u {code : ByteArray} {p : Nat} {b : UInt8} {l : List UInt8} (h : hf_at2 code p (b :: l)) : hf_u code p b.toNat := by
  unfold hf_at2 at h
  have h1 : code.data.toList[p]? = some b := by
    have := congrArg (fun l => l[0]?) h
    simpa using this
  obtain ⟨hp, he⟩ := List.getElem?_eq_some_iff.mp h1
  have hs : p < code.size := hp
  have e : (Reader.u1 : Reader DecodeError Nat) code p = if h : p < code.size then .ok ((code[p]'h).toNat, p + 1) else .error (.truncated p) := by
    unfold Reader.u1
    show (if h : p < code.size then _ else _ : Reader DecodeError Nat) code p = _
    by_cases q : p < code.size
    · simp only [dif_pos q]; rfl
    · exact absurd hs q
  unfold hf_u
  rw [e, dif_pos hs]
  have : code[p]'hs = b := he
  rw [this]
section HFK
variable {code : ByteArray} {pc op len k : Nat} {l : List UInt8} {P : Nat → Bool} {Q : Nat → Nat → Bool}
theorem hf_no {p : Nat} (h : hf_u code p 1000) : False := by
  have e : (Reader.u1 : Reader DecodeError Nat) code p = if h : p < code.size then .ok ((code[p]'h).toNat, p + 1) else .error (.truncated p) := by
    unfold Reader.u1
    show (if h : p < code.size then _ else _ : Reader DecodeError Nat) code p = _
    by_cases q : p < code.size
    · simp only [dif_pos q]; rfl
    · simp only [dif_neg q]; rfl
  unfold hf_u at h
  rw [e] at h
  split at h
  next hs =>
    have h2 : ((code[p]'hs).toNat, p + 1) = (1000, p + 1) := Except.ok.inj h
    have h3 := congrArg Prod.fst h2
    have h4 := (code[p]'hs).toNat_lt
    omega
  · cases h
theorem hf_0_ok (h : hf_0 op len l = true) (a : hf_at2 code pc l) : hf_u code pc op ∧ len = 1 := by
  cases l with
  | nil => cases h
  | cons b l =>
    have h' : (Nat.beq b.toNat op && Nat.beq len 1) = true := h
    simp only [Bool.and_eq_true] at h'
    have e1 := Nat.eq_of_beq_eq_true h'.1
    have e2 := Nat.eq_of_beq_eq_true h'.2
    subst e1
    exact ⟨a.u, e2⟩
theorem hf_1_ok (h : hf_1 op len P l = true) (a : hf_at2 code pc l) : ∃ v, hf_u code pc op ∧ hf_u code (pc + 1) v ∧ len = 2 ∧ P v = true := by
  match l, h, a with
  | [], h, _ => cases h
  | [_], h, _ => cases h
  | b :: c :: l, h, a =>
    have h' : (Nat.beq b.toNat op && (Nat.beq len 2 && P c.toNat)) = true := h
    simp only [Bool.and_eq_true] at h'
    have e1 := Nat.eq_of_beq_eq_true h'.1
    have e2 := Nat.eq_of_beq_eq_true h'.2.1
    subst e1
    exact ⟨_, a.u, a.tl.u, e2, h'.2.2⟩
theorem hf_2_ok (h : hf_2 op len Q l = true) (a : hf_at2 code pc l) : ∃ v w, hf_u code pc op ∧ hf_u code (pc + 1) v ∧ hf_u code (pc + 1 + 1) w ∧ len = 3 ∧ Q v w = true := by
  match l, h, a with
  | [], h, _ => cases h
  | [_], h, _ => cases h
  | [_, _], h, _ => cases h
  | b :: c :: d :: l, h, a =>
    have h' : (Nat.beq b.toNat op && (Nat.beq len 3 && Q c.toNat d.toNat)) = true := h
    simp only [Bool.and_eq_true] at h'
    have e1 := Nat.eq_of_beq_eq_true h'.1
    have e2 := Nat.eq_of_beq_eq_true h'.2.1
    subst e1
    exact ⟨_, _, a.u, a.tl.u, a.tl.tl.u, e2, h'.2.2⟩
theorem hf_ck_ok {ii : Instr} (h : hf_ck ii len l = true) (a : hf_at2 code pc l) : decode code pc = .ok (ii, len) := by
  cases ii
  case iaload =>
    obtain ⟨h0, rfl⟩ := hf_0_ok (op := 46) h a
    exact hf_z46 h0
  case laload =>
    obtain ⟨h0, rfl⟩ := hf_0_ok (op := 47) h a
    exact hf_z47 h0
  case aaload =>
    obtain ⟨h0, rfl⟩ := hf_0_ok (op := 50) h a
    exact hf_z50 h0
  case baload =>
    obtain ⟨h0, rfl⟩ := hf_0_ok (op := 51) h a
    exact hf_z51 h0
  case iastore =>
    obtain ⟨h0, rfl⟩ := hf_0_ok (op := 79) h a
    exact hf_z79 h0
  case lastore =>
    obtain ⟨h0, rfl⟩ := hf_0_ok (op := 80) h a
    exact hf_z80 h0
  case aastore =>
    obtain ⟨h0, rfl⟩ := hf_0_ok (op := 83) h a
    exact hf_z83 h0
  case bastore =>
    obtain ⟨h0, rfl⟩ := hf_0_ok (op := 84) h a
    exact hf_z84 h0
  case pop =>
    obtain ⟨h0, rfl⟩ := hf_0_ok (op := 87) h a
    exact hf_z87 h0
  case dup =>
    obtain ⟨h0, rfl⟩ := hf_0_ok (op := 89) h a
    exact hf_z89 h0
  case dup2 =>
    obtain ⟨h0, rfl⟩ := hf_0_ok (op := 92) h a
    exact hf_z92 h0
  case iadd =>
    obtain ⟨h0, rfl⟩ := hf_0_ok (op := 96) h a
    exact hf_z96 h0
  case ladd =>
    obtain ⟨h0, rfl⟩ := hf_0_ok (op := 97) h a
    exact hf_z97 h0
  case isub =>
    obtain ⟨h0, rfl⟩ := hf_0_ok (op := 100) h a
    exact hf_z100 h0
  case lsub =>
    obtain ⟨h0, rfl⟩ := hf_0_ok (op := 101) h a
    exact hf_z101 h0
  case imul =>
    obtain ⟨h0, rfl⟩ := hf_0_ok (op := 104) h a
    exact hf_z104 h0
  case lmul =>
    obtain ⟨h0, rfl⟩ := hf_0_ok (op := 105) h a
    exact hf_z105 h0
  case idiv =>
    obtain ⟨h0, rfl⟩ := hf_0_ok (op := 108) h a
    exact hf_z108 h0
  case irem =>
    obtain ⟨h0, rfl⟩ := hf_0_ok (op := 112) h a
    exact hf_z112 h0
  case ishl =>
    obtain ⟨h0, rfl⟩ := hf_0_ok (op := 120) h a
    exact hf_z120 h0
  case lshl =>
    obtain ⟨h0, rfl⟩ := hf_0_ok (op := 121) h a
    exact hf_z121 h0
  case ishr =>
    obtain ⟨h0, rfl⟩ := hf_0_ok (op := 122) h a
    exact hf_z122 h0
  case iushr =>
    obtain ⟨h0, rfl⟩ := hf_0_ok (op := 124) h a
    exact hf_z124 h0
  case iand =>
    obtain ⟨h0, rfl⟩ := hf_0_ok (op := 126) h a
    exact hf_z126 h0
  case ior =>
    obtain ⟨h0, rfl⟩ := hf_0_ok (op := 128) h a
    exact hf_z128 h0
  case lor =>
    obtain ⟨h0, rfl⟩ := hf_0_ok (op := 129) h a
    exact hf_z129 h0
  case ixor =>
    obtain ⟨h0, rfl⟩ := hf_0_ok (op := 130) h a
    exact hf_z130 h0
  case i2l =>
    obtain ⟨h0, rfl⟩ := hf_0_ok (op := 133) h a
    exact hf_z133 h0
  case l2i =>
    obtain ⟨h0, rfl⟩ := hf_0_ok (op := 136) h a
    exact hf_z136 h0
  case i2b =>
    obtain ⟨h0, rfl⟩ := hf_0_ok (op := 145) h a
    exact hf_z145 h0
  case i2c =>
    obtain ⟨h0, rfl⟩ := hf_0_ok (op := 146) h a
    exact hf_z146 h0
  case lcmp =>
    obtain ⟨h0, rfl⟩ := hf_0_ok (op := 148) h a
    exact hf_z148 h0
  case ireturn =>
    obtain ⟨h0, rfl⟩ := hf_0_ok (op := 172) h a
    exact hf_z172 h0
  case lreturn =>
    obtain ⟨h0, rfl⟩ := hf_0_ok (op := 173) h a
    exact hf_z173 h0
  case areturn =>
    obtain ⟨h0, rfl⟩ := hf_0_ok (op := 176) h a
    exact hf_z176 h0
  case return_ =>
    obtain ⟨h0, rfl⟩ := hf_0_ok (op := 177) h a
    exact hf_z177 h0
  case arraylength =>
    obtain ⟨h0, rfl⟩ := hf_0_ok (op := 190) h a
    exact hf_z190 h0
  case iload_n n =>
    obtain ⟨h0, rfl⟩ := hf_0_ok (op := 26 + n.val) h a
    match n, h0 with
    | 0, h0 => exact hf_z26 h0
    | 1, h0 => exact hf_z27 h0
    | 2, h0 => exact hf_z28 h0
    | 3, h0 => exact hf_z29 h0
  case lload_n n =>
    obtain ⟨h0, rfl⟩ := hf_0_ok (op := 30 + n.val) h a
    match n, h0 with
    | 0, h0 => exact hf_z30 h0
    | 1, h0 => exact hf_z31 h0
    | 2, h0 => exact hf_z32 h0
    | 3, h0 => exact hf_z33 h0
  case aload_n n =>
    obtain ⟨h0, rfl⟩ := hf_0_ok (op := 42 + n.val) h a
    match n, h0 with
    | 0, h0 => exact hf_z42 h0
    | 1, h0 => exact hf_z43 h0
    | 2, h0 => exact hf_z44 h0
    | 3, h0 => exact hf_z45 h0
  case istore_n n =>
    obtain ⟨h0, rfl⟩ := hf_0_ok (op := 59 + n.val) h a
    match n, h0 with
    | 0, h0 => exact hf_z59 h0
    | 1, h0 => exact hf_z60 h0
    | 2, h0 => exact hf_z61 h0
    | 3, h0 => exact hf_z62 h0
  case lstore_n n =>
    obtain ⟨h0, rfl⟩ := hf_0_ok (op := 63 + n.val) h a
    match n, h0 with
    | 0, h0 => exact hf_z63 h0
    | 1, h0 => exact hf_z64 h0
    | 2, h0 => exact hf_z65 h0
    | 3, h0 => exact hf_z66 h0
  case astore_n n =>
    obtain ⟨h0, rfl⟩ := hf_0_ok (op := 75 + n.val) h a
    match n, h0 with
    | 0, h0 => exact hf_z75 h0
    | 1, h0 => exact hf_z76 h0
    | 2, h0 => exact hf_z77 h0
    | 3, h0 => exact hf_z78 h0
  case iconst z =>
    have h2 : (decide (-1 ≤ z ∧ z ≤ 5) && hf_0 (z + 3).toNat len l) = true := h
    simp only [Bool.and_eq_true, decide_eq_true_eq] at h2
    obtain ⟨hz, h3⟩ := h2
    obtain ⟨h0, rfl⟩ := hf_0_ok h3 a
    have hc : z = -1 ∨ z = 0 ∨ z = 1 ∨ z = 2 ∨ z = 3 ∨ z = 4 ∨ z = 5 := by omega
    rcases hc with rfl | rfl | rfl | rfl | rfl | rfl | rfl
    · exact hf_z2 h0
    · exact hf_z3 h0
    · exact hf_z4 h0
    · exact hf_z5 h0
    · exact hf_z6 h0
    · exact hf_z7 h0
    · exact hf_z8 h0
  case lconst n =>
    have h2 : (Nat.beq n.val 0 && hf_0 9 len l) = true := h
    simp only [Bool.and_eq_true] at h2
    obtain ⟨hn, h3⟩ := h2
    obtain ⟨h0, rfl⟩ := hf_0_ok h3 a
    have e : n = 0 := Fin.ext (Nat.eq_of_beq_eq_true hn)
    subst e
    exact hf_z9 h0
  case ldc k =>
    obtain ⟨v, h0, h1, rfl, hv⟩ := hf_1_ok (show hf_1 18 len (fun v => Nat.beq v k) l = true from h) a
    obtain rfl := Nat.eq_of_beq_eq_true hv
    exact hf_o18 h0 h1
  case iload k =>
    obtain ⟨v, h0, h1, rfl, hv⟩ := hf_1_ok (show hf_1 21 len (fun v => Nat.beq v k) l = true from h) a
    obtain rfl := Nat.eq_of_beq_eq_true hv
    exact hf_o21 h0 h1
  case lload k =>
    obtain ⟨v, h0, h1, rfl, hv⟩ := hf_1_ok (show hf_1 22 len (fun v => Nat.beq v k) l = true from h) a
    obtain rfl := Nat.eq_of_beq_eq_true hv
    exact hf_o22 h0 h1
  case aload k =>
    obtain ⟨v, h0, h1, rfl, hv⟩ := hf_1_ok (show hf_1 25 len (fun v => Nat.beq v k) l = true from h) a
    obtain rfl := Nat.eq_of_beq_eq_true hv
    exact hf_o25 h0 h1
  case istore k =>
    obtain ⟨v, h0, h1, rfl, hv⟩ := hf_1_ok (show hf_1 54 len (fun v => Nat.beq v k) l = true from h) a
    obtain rfl := Nat.eq_of_beq_eq_true hv
    exact hf_o54 h0 h1
  case lstore k =>
    obtain ⟨v, h0, h1, rfl, hv⟩ := hf_1_ok (show hf_1 55 len (fun v => Nat.beq v k) l = true from h) a
    obtain rfl := Nat.eq_of_beq_eq_true hv
    exact hf_o55 h0 h1
  case astore k =>
    obtain ⟨v, h0, h1, rfl, hv⟩ := hf_1_ok (show hf_1 58 len (fun v => Nat.beq v k) l = true from h) a
    obtain rfl := Nat.eq_of_beq_eq_true hv
    exact hf_o58 h0 h1
  case bipush z =>
    obtain ⟨v, h0, h1, rfl, hv⟩ := hf_1_ok (show hf_1 16 len (fun v => decide (Reader.signed 8 v = z)) l = true from h) a
    obtain rfl := of_decide_eq_true hv
    exact hf_o16 h0 h1
  case newarray t =>
    obtain ⟨v, h0, h1, rfl, hv⟩ := hf_1_ok (show hf_1 188 len (fun v => Nat.beq v (hf_at t)) l = true from h) a
    obtain rfl := Nat.eq_of_beq_eq_true hv
    cases t
    case boolean => exact hf_o188_4 h0 h1
    case byte => exact hf_o188_8 h0 h1
    case int => exact hf_o188_10 h0 h1
    case long => exact hf_o188_11 h0 h1
    all_goals exact False.elim (hf_no h1)
  case iinc k z =>
    obtain ⟨v, w, h0, h1, h2, rfl, hv⟩ := hf_2_ok (show hf_2 132 len (fun v w => Nat.beq v k && decide (Reader.signed 8 w = z)) l = true from h) a
    simp only [Bool.and_eq_true] at hv
    obtain rfl := Nat.eq_of_beq_eq_true hv.1
    obtain rfl := of_decide_eq_true hv.2
    exact hf_o132 h0 h1 h2
  case ldc_w k =>
    obtain ⟨v, w, h0, h1, h2, rfl, hv⟩ := hf_2_ok (show hf_2 19 len (fun v w => Nat.beq (v * 256 + w) k) l = true from h) a
    obtain rfl := Nat.eq_of_beq_eq_true hv
    exact hf_o19 h0 h1 h2
  case ldc2_w k =>
    obtain ⟨v, w, h0, h1, h2, rfl, hv⟩ := hf_2_ok (show hf_2 20 len (fun v w => Nat.beq (v * 256 + w) k) l = true from h) a
    obtain rfl := Nat.eq_of_beq_eq_true hv
    exact hf_o20 h0 h1 h2
  case getfield k =>
    obtain ⟨v, w, h0, h1, h2, rfl, hv⟩ := hf_2_ok (show hf_2 180 len (fun v w => Nat.beq (v * 256 + w) k) l = true from h) a
    obtain rfl := Nat.eq_of_beq_eq_true hv
    exact hf_o180 h0 h1 h2
  case putfield k =>
    obtain ⟨v, w, h0, h1, h2, rfl, hv⟩ := hf_2_ok (show hf_2 181 len (fun v w => Nat.beq (v * 256 + w) k) l = true from h) a
    obtain rfl := Nat.eq_of_beq_eq_true hv
    exact hf_o181 h0 h1 h2
  case invokevirtual k =>
    obtain ⟨v, w, h0, h1, h2, rfl, hv⟩ := hf_2_ok (show hf_2 182 len (fun v w => Nat.beq (v * 256 + w) k) l = true from h) a
    obtain rfl := Nat.eq_of_beq_eq_true hv
    exact hf_o182 h0 h1 h2
  case invokespecial k =>
    obtain ⟨v, w, h0, h1, h2, rfl, hv⟩ := hf_2_ok (show hf_2 183 len (fun v w => Nat.beq (v * 256 + w) k) l = true from h) a
    obtain rfl := Nat.eq_of_beq_eq_true hv
    exact hf_o183 h0 h1 h2
  case invokestatic k =>
    obtain ⟨v, w, h0, h1, h2, rfl, hv⟩ := hf_2_ok (show hf_2 184 len (fun v w => Nat.beq (v * 256 + w) k) l = true from h) a
    obtain rfl := Nat.eq_of_beq_eq_true hv
    exact hf_o184 h0 h1 h2
  case new k =>
    obtain ⟨v, w, h0, h1, h2, rfl, hv⟩ := hf_2_ok (show hf_2 187 len (fun v w => Nat.beq (v * 256 + w) k) l = true from h) a
    obtain rfl := Nat.eq_of_beq_eq_true hv
    exact hf_o187 h0 h1 h2
  case anewarray k =>
    obtain ⟨v, w, h0, h1, h2, rfl, hv⟩ := hf_2_ok (show hf_2 189 len (fun v w => Nat.beq (v * 256 + w) k) l = true from h) a
    obtain rfl := Nat.eq_of_beq_eq_true hv
    exact hf_o189 h0 h1 h2
  case goto z =>
    obtain ⟨v, w, h0, h1, h2, rfl, hv⟩ := hf_2_ok (show hf_2 167 len (fun v w => decide (Reader.signed 16 (v * 256 + w) = z)) l = true from h) a
    obtain rfl := of_decide_eq_true hv
    exact hf_o167 h0 h1 h2
  case sipush z =>
    obtain ⟨v, w, h0, h1, h2, rfl, hv⟩ := hf_2_ok (show hf_2 17 len (fun v w => decide (Reader.signed 16 (v * 256 + w) = z)) l = true from h) a
    obtain rfl := of_decide_eq_true hv
    exact hf_o17 h0 h1 h2
  case ifCond c z =>
    obtain ⟨v, w, h0, h1, h2, rfl, hv⟩ := hf_2_ok (show hf_2 (153 + hf_c c) len (fun v w => decide (Reader.signed 16 (v * 256 + w) = z)) l = true from h) a
    obtain rfl := of_decide_eq_true hv
    cases c
    · exact hf_o153 h0 h1 h2
    · exact hf_o154 h0 h1 h2
    · exact hf_o155 h0 h1 h2
    · exact hf_o156 h0 h1 h2
    · exact hf_o157 h0 h1 h2
    · exact hf_o158 h0 h1 h2
  case if_icmp c z =>
    obtain ⟨v, w, h0, h1, h2, rfl, hv⟩ := hf_2_ok (show hf_2 (159 + hf_c c) len (fun v w => decide (Reader.signed 16 (v * 256 + w) = z)) l = true from h) a
    obtain rfl := of_decide_eq_true hv
    cases c
    · exact hf_o159 h0 h1 h2
    · exact hf_o160 h0 h1 h2
    · exact hf_o161 h0 h1 h2
    · exact hf_o162 h0 h1 h2
    · exact hf_o163 h0 h1 h2
    · exact hf_o164 h0 h1 h2
  all_goals cases h
end HFK
noncomputable def hf_row (code : ByteArray) : Nat → List UInt8 → List (Option hc_I) → Bool
  | _, _, [] => true
  | pc, l, none :: ch => hf_row code (pc + 1) l.tail ch
  | pc, l, some I :: ch => (match I.1 with
    | .tableswitch _ _ _ _ => hc_D code pc I
    | .multianewarray _ _ => hc_D code pc I
    | ii => hf_ck ii I.2.1 l) && hf_row code (pc + 1) l.tail ch
noncomputable def hf_rws (code : ByteArray) : Nat → List UInt8 → hc_K → Bool
  | _, _, [] => true
  | pc, l, ch :: tb => Nat.ble ch.length 32 && (hf_row code pc l ch && hf_rws code (pc + 32) (l.drop 32) tb)
theorem hf_at2.tail {code : ByteArray} {p : Nat} {l : List UInt8} (h : hf_at2 code p l) : hf_at2 code (p + 1) l.tail := by
  unfold hf_at2 at h ⊢
  rw [← List.drop_drop, h, List.drop_one]
theorem hf_row_ok {code : ByteArray} : ∀ (ch : List (Option hc_I)) (pc : Nat) (l : List UInt8), hf_at2 code pc l → hf_row code pc l ch = true → hc_row (hc_D code) pc ch = true
  | [], pc, l, _, _ => rfl
  | none :: ch, pc, l, a, h => hf_row_ok ch (pc + 1) l.tail a.tail h
  | some I :: ch, pc, l, a, h => by
    have h' : ((match I.1 with
      | .tableswitch _ _ _ _ => hc_D code pc I
      | .multianewarray _ _ => hc_D code pc I
      | ii => hf_ck ii I.2.1 l) && hf_row code (pc + 1) l.tail ch) = true := h
    simp only [Bool.and_eq_true] at h'
    show (hc_D code pc I && hc_row (hc_D code) (pc + 1) ch) = true
    rw [hf_row_ok ch (pc + 1) l.tail a.tail h'.2, Bool.and_true]
    obtain ⟨ii, len, r1, r2⟩ := I
    have h1 := h'.1
    have key : hf_ck ii len l = true → hc_D code pc (ii, len, r1, r2) = true := fun q => decide_eq_true (hf_ck_ok q a)
    dsimp only at h1
    split at h1
    · exact h1
    · exact h1
    · exact key h1
theorem hf_rws_ok' {code : ByteArray} : ∀ (tb : hc_K) (pc : Nat) (l : List UInt8), hf_at2 code pc l → hf_rws code pc l tb = true → hc_rws (hc_D code) pc tb = true
  | [], pc, l, _, _ => rfl
  | ch :: tb, pc, l, a, h => by
    have h' : (Nat.ble ch.length 32 && (hf_row code pc l ch && hf_rws code (pc + 32) (l.drop 32) tb)) = true := h
    simp only [Bool.and_eq_true] at h'
    show (Nat.ble ch.length 32 && (hc_row (hc_D code) pc ch && hc_rws (hc_D code) (pc + 32) tb)) = true
    have a2 : hf_at2 code (pc + 32) (l.drop 32) := by
      unfold hf_at2 at a ⊢
      rw [← List.drop_drop, a]
    rw [h'.1, hf_row_ok ch pc l a h'.2.1, hf_rws_ok' tb (pc + 32) (l.drop 32) a2 h'.2.2]
    rfl
theorem hf_rws_ok {code : ByteArray} {tb : hc_K} (h : hf_rws code 0 code.data.toList tb = true) : hc_rws (hc_D code) 0 tb = true := hf_rws_ok' tb 0 code.data.toList rfl h
