/-! EACH INSTRUCTION of the tables is the code's, and its operands are resolved as the words say -/
def hc_pv (ty : FieldType) : Bool := match ty with
  | .byte => true
  | .int => true
  | .long => true
  | .boolean => true
  | _ => false
noncomputable def hc_mq (k : Nat) (P : hc_M → Bool) : Bool := match hc_get hm_pg k with
  | some e => P e
  | none => false
def hc_tl (r1 ix : Nat) : Bool := match r1 with
  | 0 => Nat.beq ix 52
  | 1 => Nat.beq ix 56
  | _ => Nat.beq ix 41
noncomputable def hc_ok (oc : Nat) (ini : Bool) (pc : Nat) (ii : Instr) (len r1 r2 : Nat) : Bool := match ii with
  | .iconst z => Nat.beq len 1 && decide (Int32.ofInt z = Int32.ofNat r1)
  | .bipush z => Nat.beq len 2 && decide ((Int8.ofInt z).toInt32 = Int32.ofNat r1)
  | .sipush z => Nat.beq len 3 && decide ((Int16.ofInt z).toInt32 = Int32.ofNat r1)
  | .lconst z => Nat.beq len 1 && decide (Int64.ofNat (z : Nat) = Int64.ofNat r1)
  | .ldc ix => Nat.beq len 2 && match r2 with
    | 0 => hc_m4 hl_CT oc ix r1
    | _ => Nat.beq oc 6 && Nat.beq ix (hx_ix r1)
  | .ldc_w ix => hc_m4 hl_CT oc ix r1 && Nat.beq len 3
  | .ldc2_w ix => hc_m4 hl_CL oc ix r1 && Nat.beq len 3
  | .iload_n k => Nat.beq len 1 && Nat.beq k r1
  | .lload_n k => Nat.beq len 1 && Nat.beq k r1
  | .aload_n k => Nat.beq len 1 && Nat.beq k r1
  | .istore_n k => Nat.beq len 1 && Nat.beq k r1
  | .lstore_n k => Nat.beq len 1 && Nat.beq k r1
  | .astore_n k => Nat.beq len 1 && Nat.beq k r1
  | .iload k => Nat.beq len 2 && Nat.beq k r1
  | .lload k => Nat.beq len 2 && Nat.beq k r1
  | .aload k => Nat.beq len 2 && Nat.beq k r1
  | .istore k => Nat.beq len 2 && Nat.beq k r1
  | .lstore k => Nat.beq len 2 && Nat.beq k r1
  | .astore k => Nat.beq len 2 && Nat.beq k r1
  | .iinc k z => Nat.beq len 3 && (Nat.beq k r1 && decide (Int32.ofInt z = Int32.ofNat r2))
  | .ifCond _ off => Nat.beq len 3 && decide ((pc : Int) + off = (r1 : Int))
  | .if_icmp _ off => Nat.beq len 3 && decide ((pc : Int) + off = (r1 : Int))
  | .goto off => Nat.beq len 3 && decide ((pc : Int) + off = (r1 : Int))
  | .tableswitch _ _ _ _ => true
  | .getfield ix => Nat.beq len 3 && (hc_m5 hl_FL oc ix r1 r2 || hc_m5 hl_FN oc ix r1 r2)
  | .putfield ix => Nat.beq len 3 && ((hc_m5 hl_FL oc ix r1 r2 && !(hc_T r1 r2).2.2.2) || ((hc_m5 hl_FN oc ix r1 r2 && !(hc_T r1 r2).2.2.2) || (hc_m5 hl_FL oc ix r1 r2 && ((hc_T r1 r2).2.2.2 && (ini && decide ((hc_T r1 r2).1 = hc_own oc))))))
  | .new ix => Nat.beq len 3 && hc_m4 hl_NW oc ix r1
  | .newarray ty => Nat.beq len 2 && (decide (hv_tyl[r1]? = some (newarray.typeOf ty)) && hc_pv (newarray.typeOf ty))
  | .anewarray ix => Nat.beq len 3 && hc_m3 hl_AN oc ix
  | .multianewarray ix d => Nat.beq len 4 && (Nat.beq d 2 && hc_m3 hl_MM oc ix)
  | .invokevirtual ix => Nat.beq len 3 && match r2 with
    | 7 => Nat.beq oc 6 && hc_tl r1 ix
    | _ => hc_m5 hl_ML oc ix r1 0 && (hc_m2 hl_SE r1 && (hc_m2 hl_IM r1 && hc_mq r1 (fun e => Nat.ble (e.2.2.2.2.1 + 1) 11)))
  | .invokespecial ix => Nat.beq len 3 && match r2 with
    | 9 => hc_m3 hl_OI oc ix
    | _ => hc_m5 hl_ML oc ix r1 1 && (hc_m2 hl_IM r1 && (decide ((hc_y r1).name = "<init>") && hc_mq r1 (fun e => e.2.2.2.1.isNone)))
  | .invokestatic ix => Nat.beq len 3 && match r2 with
    | 8 => hc_m3 hl_AC oc ix
    | 3 => hc_m4 hl_MN oc ix r1 && hc_m2 hl_ST r1
    | _ => hc_m5 hl_ML oc ix r1 2 && hc_m2 hl_ST r1
  | _ => Nat.beq len 1
def hc_row (P : Nat → hc_I → Bool) : Nat → List (Option hc_I) → Bool
  | _, [] => true
  | b, none :: ch => hc_row P (b + 1) ch
  | b, some I :: ch => P b I && hc_row P (b + 1) ch
def hc_rws (P : Nat → hc_I → Bool) : Nat → hc_K → Bool
  | _, [] => true
  | b, ch :: tb => Nat.ble ch.length 32 && (hc_row P b ch && hc_rws P (b + 32) tb)
theorem hc_row_ok {P : Nat → hc_I → Bool} : ∀ (ch : List (Option hc_I)) (b i : Nat) (I : hc_I), hc_row P b ch = true → ch[i]? = some (some I) → P (b + i) I = true
  | [], b, i, I, _, h => by simp at h
  | none :: ch, b, 0, I, h, hi => by simp at hi
  | none :: ch, b, i + 1, I, h, hi => by
    have := hc_row_ok ch (b + 1) i I h (by simpa using hi)
    rwa [show b + 1 + i = b + (i + 1) by omega] at this
  | some J :: ch, b, 0, I, h, hi => by
    have e : J = I := by simpa using hi
    subst e
    exact (Bool.and_eq_true _ _ ▸ h : _ ∧ _).1
  | some J :: ch, b, i + 1, I, h, hi => by
    have h2 : hc_row P (b + 1) ch = true := (Bool.and_eq_true _ _ ▸ h : _ ∧ _).2
    have := hc_row_ok ch (b + 1) i I h2 (by simpa using hi)
    rwa [show b + 1 + i = b + (i + 1) by omega] at this
theorem hc_rws_ok {P : Nat → hc_I → Bool} : ∀ (tb : hc_K) (b i j : Nat) (ch : List (Option hc_I)) (I : hc_I), hc_rws P b tb = true → tb[i]? = some ch → ch[j]? = some (some I) → P (b + 32 * i + j) I = true
  | [], b, i, j, ch, I, _, h, _ => by simp at h
  | c0 :: tb, b, 0, j, ch, I, h, hi, hj => by
    have e : c0 = ch := by simpa using hi
    subst e
    have h1 : Nat.ble c0.length 32 = true ∧ (hc_row P b c0 && hc_rws P (b + 32) tb) = true := Bool.and_eq_true _ _ ▸ h
    have h2 : hc_row P b c0 = true ∧ hc_rws P (b + 32) tb = true := Bool.and_eq_true _ _ ▸ h1.2
    exact hc_row_ok c0 b j I h2.1 hj
  | c0 :: tb, b, i + 1, j, ch, I, h, hi, hj => by
    have h1 : Nat.ble c0.length 32 = true ∧ (hc_row P b c0 && hc_rws P (b + 32) tb) = true := Bool.and_eq_true _ _ ▸ h
    have h2 : hc_row P b c0 = true ∧ hc_rws P (b + 32) tb = true := Bool.and_eq_true _ _ ▸ h1.2
    have := hc_rws_ok tb (b + 32) i j ch I h2.2 (by simpa using hi) hj
    rwa [show b + 32 + 32 * i + j = b + 32 * (i + 1) + j by omega] at this
theorem hc_tab {P : Nat → hc_I → Bool} {tb : hc_K} (h : hc_rws P 0 tb = true) {pc : Nat} {I : hc_I} (hg : hc_get tb pc = some I) : P pc I = true := by
  unfold hc_get at hg
  split at hg
  · cases hg
  next ch h1 =>
    split at hg
    · cases hg
    next x h2 =>
      subst hg
      rw [hc_nth_eq] at h1 h2
      have := hc_rws_ok tb 0 (pc / 32) (pc % 32) ch I h h1 h2
      rwa [show 0 + 32 * (pc / 32) + pc % 32 = pc by omega] at this
noncomputable def hc_isI0 (y : MethodName) : Bool := decide (y.name = "<init>")
noncomputable def hc_D (bytes : ByteArray) : Nat → hc_I → Bool := fun pc I => decide (decode bytes pc = .ok (I.1, I.2.1))
noncomputable def hc_O (oc : Nat) (ini : Bool) : Nat → hc_I → Bool := fun pc I => hc_ok oc ini pc I.1 I.2.1 I.2.2.1 I.2.2.2
/-- what is known of a method of the tables -/
def hc_MOK (e : hc_M) : Prop := Cond.code e.1 e.2.1 e.2.2.1 e.2.2.2.1 ∈ hc_gw ∧ plainFor e.1 = true ∧ (e.1.cls ≠ "java/lang/invoke/MethodHandle" ∧ e.1.cls ≠ "java/lang/invoke/VarHandle") ∧ Cond.initialized e.1.cls ∈ hc_gw ∧ (parseMethodDescriptor e.1.desc).map (fun d => d.parameters.length) = some e.2.2.2.2.2.1 ∧ hc_own e.2.2.2.2.1 = e.1.cls ∧ hc_rws (hc_D e.2.1) 0 e.2.2.2.2.2.2 = true ∧ hc_rws (hc_O e.2.2.2.2.1 (hc_isI0 e.1)) 0 e.2.2.2.2.2.2 = true ∧ e.2.2.1 ≤ 21
theorem hc_pgAll {P : hc_M → Prop} {pg : List (List (Option hc_M))} (h : ∀ ch ∈ pg, ∀ x ∈ ch, ∀ e, x = some e → P e) {k : Nat} {e : hc_M} (hg : hc_get pg k = some e) : P e := by
  unfold hc_get at hg
  split at hg
  · cases hg
  next ch h1 =>
    split at hg
    · cases hg
    next x h2 =>
      rw [hc_nth_eq] at h1 h2
      exact h ch (List.mem_of_getElem? h1) x (List.mem_of_getElem? h2) e hg
theorem hc_one {P : hc_M → Prop} {e : hc_M} (h : P e) : ∀ e', some e = some e' → P e' := fun e' q => by cases q; exact h
