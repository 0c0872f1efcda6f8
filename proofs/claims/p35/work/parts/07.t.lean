set_option maxRecDepth 1000000 in
theorem hl_t_cln : Cond.code ⟨"java/lang/String", "length", "()I"⟩ Jvm.Lib.String.length.code 1 (some .int) ∈ hc_gw := hc_in (p := 504) (by decide +kernel) (by decide +kernel)
set_option maxRecDepth 1000000 in
theorem hl_t_cco : Cond.code ⟨"java/lang/String", "coder", "()B"⟩ Jvm.Lib.String.coder.code 1 (some .byte) ∈ hc_gw := hc_in (p := 508) (by decide +kernel) (by decide +kernel)
set_option maxRecDepth 1000000 in
theorem hl_t_cil : Cond.code ⟨"java/lang/String", "isLatin1", "()Z"⟩ Jvm.Lib.String.isLatin1.code 1 (some .boolean) ∈ hc_gw := hc_in (p := 518) (by decide +kernel) (by decide +kernel)
set_option maxRecDepth 1000000 in
theorem hl_t_cch : Cond.code ⟨"java/lang/String", "charAt", "(I)C"⟩ Jvm.Lib.Str.charAt.code 2 (some .char) ∈ hc_gw := hc_in (p := 514) (by decide +kernel) (by decide +kernel)
set_option maxRecDepth 1000000 in
theorem hl_t_csl : Cond.code ⟨"java/lang/StringLatin1", "charAt", "([BI)C"⟩ Jvm.Lib.SL1.charAt.code 2 (some .char) ∈ hc_gw := hc_in (p := 521) (by decide +kernel) (by decide +kernel)
set_option maxRecDepth 1000000 in
theorem hl_t_csc : Cond.code ⟨"java/lang/String", "checkIndex", "(II)V"⟩ Jvm.Lib.Str.checkIndex.code 2 none ∈ hc_gw := hc_in (p := 524) (by decide +kernel) (by decide +kernel)
set_option maxRecDepth 1000000 in
theorem hl_t_cpc : Cond.code ⟨"jdk/internal/util/Preconditions", "checkIndex", "(IILjava/util/function/BiFunction;)I"⟩ Jvm.Lib.Preconditions.checkIndex.code 3 (some .int) ∈ hc_gw := hc_in (p := 529) (by decide +kernel) (by decide +kernel)
set_option maxRecDepth 1000000 in
theorem hl_t_ci1 : Cond.code ⟨"java/lang/String", "indexOf", "(I)I"⟩ Jvm.Free.StrIndexOf.indexOf1B 2 (some .int) ∈ hc_gw := hc_in (p := 559) (by decide +kernel) (by decide +kernel)
set_option maxRecDepth 1000000 in
theorem hl_t_ci2 : Cond.code ⟨"java/lang/String", "indexOf", "(II)I"⟩ Jvm.Free.StrIndexOf.indexOf2B 3 (some .int) ∈ hc_gw := hc_in (p := 563) (by decide +kernel) (by decide +kernel)
set_option maxRecDepth 1000000 in
theorem hl_t_cix : Cond.code ⟨"java/lang/StringLatin1", "indexOf", "([BIII)I"⟩ Jvm.Free.SL1IndexOf.indexOfB 4 (some .int) ∈ hc_gw := hc_in (p := 567) (by decide +kernel) (by decide +kernel)
set_option maxRecDepth 1000000 in
theorem hl_t_cce : Cond.code ⟨"java/lang/StringLatin1", "canEncode", "(I)Z"⟩ Jvm.Free.SL1IndexOf.canEncodeB 1 (some .boolean) ∈ hc_gw := hc_in (p := 570) (by decide +kernel) (by decide +kernel)
set_option maxRecDepth 1000000 in
theorem hl_t_cmx : Cond.code ⟨"java/lang/Math", "max", "(II)I"⟩ Jvm.Lib.Math.max.code 2 (some .int) ∈ hc_gw := hc_in (p := 573) (by decide +kernel) (by decide +kernel)
set_option maxRecDepth 1000000 in
theorem hl_t_cmn : Cond.code ⟨"java/lang/Math", "min", "(II)I"⟩ Jvm.Lib.Math.min.code 2 (some .int) ∈ hc_gw := hc_in (p := 576) (by decide +kernel) (by decide +kernel)
set_option maxRecDepth 1000000 in
theorem hl_t_cic : Cond.code ⟨"java/lang/StringLatin1", "indexOfChar", "([BIII)I"⟩ Jvm.Free.SL1IndexOf.indexOfCharB 6 (some .int) ∈ hc_gw := hc_in (p := 579) (by decide +kernel) (by decide +kernel)
set_option maxRecDepth 1000000 in
theorem hl_t_iln : Cond.instanceMethod ⟨"java/lang/String", "length", "()I"⟩ ∈ hc_gw := hc_in (p := 502) (by decide +kernel) (by decide +kernel)
set_option maxRecDepth 1000000 in
theorem hl_t_sln : Cond.selects "java/lang/String" ⟨"java/lang/String", "length", "()I"⟩ ⟨"java/lang/String", "length", "()I"⟩ ∈ hc_gw := hc_in (p := 503) (by decide +kernel) (by decide +kernel)
set_option maxRecDepth 1000000 in
theorem hl_t_ico : Cond.instanceMethod ⟨"java/lang/String", "coder", "()B"⟩ ∈ hc_gw := hc_in (p := 506) (by decide +kernel) (by decide +kernel)
set_option maxRecDepth 1000000 in
theorem hl_t_sco : Cond.selects "java/lang/String" ⟨"java/lang/String", "coder", "()B"⟩ ⟨"java/lang/String", "coder", "()B"⟩ ∈ hc_gw := hc_in (p := 507) (by decide +kernel) (by decide +kernel)
set_option maxRecDepth 1000000 in
theorem hl_t_iil : Cond.instanceMethod ⟨"java/lang/String", "isLatin1", "()Z"⟩ ∈ hc_gw := hc_in (p := 516) (by decide +kernel) (by decide +kernel)
set_option maxRecDepth 1000000 in
theorem hl_t_sil : Cond.selects "java/lang/String" ⟨"java/lang/String", "isLatin1", "()Z"⟩ ⟨"java/lang/String", "isLatin1", "()Z"⟩ ∈ hc_gw := hc_in (p := 517) (by decide +kernel) (by decide +kernel)
set_option maxRecDepth 1000000 in
theorem hl_t_ich : Cond.instanceMethod ⟨"java/lang/String", "charAt", "(I)C"⟩ ∈ hc_gw := hc_in (p := 512) (by decide +kernel) (by decide +kernel)
set_option maxRecDepth 1000000 in
theorem hl_t_sch : Cond.selects "java/lang/String" ⟨"java/lang/String", "charAt", "(I)C"⟩ ⟨"java/lang/String", "charAt", "(I)C"⟩ ∈ hc_gw := hc_in (p := 513) (by decide +kernel) (by decide +kernel)
set_option maxRecDepth 1000000 in
theorem hl_t_ii1 : Cond.instanceMethod ⟨"java/lang/String", "indexOf", "(I)I"⟩ ∈ hc_gw := hc_in (p := 557) (by decide +kernel) (by decide +kernel)
set_option maxRecDepth 1000000 in
theorem hl_t_si1 : Cond.selects "java/lang/String" ⟨"java/lang/String", "indexOf", "(I)I"⟩ ⟨"java/lang/String", "indexOf", "(I)I"⟩ ∈ hc_gw := hc_in (p := 558) (by decide +kernel) (by decide +kernel)
set_option maxRecDepth 1000000 in
theorem hl_t_ii2 : Cond.instanceMethod ⟨"java/lang/String", "indexOf", "(II)I"⟩ ∈ hc_gw := hc_in (p := 561) (by decide +kernel) (by decide +kernel)
set_option maxRecDepth 1000000 in
theorem hl_t_si2 : Cond.selects "java/lang/String" ⟨"java/lang/String", "indexOf", "(II)I"⟩ ⟨"java/lang/String", "indexOf", "(II)I"⟩ ∈ hc_gw := hc_in (p := 562) (by decide +kernel) (by decide +kernel)
set_option maxRecDepth 1000000 in
theorem hl_t_ssl : Cond.static ⟨"java/lang/StringLatin1", "charAt", "([BI)C"⟩ ∈ hc_gw := hc_in (p := 520) (by decide +kernel) (by decide +kernel)
set_option maxRecDepth 1000000 in
theorem hl_t_ssc : Cond.static ⟨"java/lang/String", "checkIndex", "(II)V"⟩ ∈ hc_gw := hc_in (p := 523) (by decide +kernel) (by decide +kernel)
set_option maxRecDepth 1000000 in
theorem hl_t_spc : Cond.static ⟨"jdk/internal/util/Preconditions", "checkIndex", "(IILjava/util/function/BiFunction;)I"⟩ ∈ hc_gw := hc_in (p := 528) (by decide +kernel) (by decide +kernel)
set_option maxRecDepth 1000000 in
theorem hl_t_six : Cond.static ⟨"java/lang/StringLatin1", "indexOf", "([BIII)I"⟩ ∈ hc_gw := hc_in (p := 566) (by decide +kernel) (by decide +kernel)
set_option maxRecDepth 1000000 in
theorem hl_t_sce : Cond.static ⟨"java/lang/StringLatin1", "canEncode", "(I)Z"⟩ ∈ hc_gw := hc_in (p := 569) (by decide +kernel) (by decide +kernel)
set_option maxRecDepth 1000000 in
theorem hl_t_smx : Cond.static ⟨"java/lang/Math", "max", "(II)I"⟩ ∈ hc_gw := hc_in (p := 572) (by decide +kernel) (by decide +kernel)
set_option maxRecDepth 1000000 in
theorem hl_t_smn : Cond.static ⟨"java/lang/Math", "min", "(II)I"⟩ ∈ hc_gw := hc_in (p := 575) (by decide +kernel) (by decide +kernel)
set_option maxRecDepth 1000000 in
theorem hl_t_sic : Cond.static ⟨"java/lang/StringLatin1", "indexOfChar", "([BIII)I"⟩ ∈ hc_gw := hc_in (p := 578) (by decide +kernel) (by decide +kernel)
set_option maxRecDepth 1000000 in
theorem hl_t_nstr : Cond.initialized "java/lang/String" ∈ hc_gw := hc_in (p := 103) (by decide +kernel) (by decide +kernel)
set_option maxRecDepth 1000000 in
theorem hl_t_nsl1 : Cond.initialized "java/lang/StringLatin1" ∈ hc_gw := hc_in (p := 104) (by decide +kernel) (by decide +kernel)
set_option maxRecDepth 1000000 in
theorem hl_t_npre : Cond.initialized "jdk/internal/util/Preconditions" ∈ hc_gw := hc_in (p := 105) (by decide +kernel) (by decide +kernel)
set_option maxRecDepth 1000000 in
theorem hl_t_nmt : Cond.initialized "java/lang/Math" ∈ hc_gw := hc_in (p := 107) (by decide +kernel) (by decide +kernel)
set_option maxRecDepth 1000000 in
theorem hl_t_m335 : Cond.methodLink "java/lang/String" 335 ⟨"java/lang/String", "coder", "()B"⟩ ∈ hc_gw := hc_in (p := 505) (by decide +kernel) (by decide +kernel)
set_option maxRecDepth 1000000 in
theorem hl_t_m492 : Cond.methodLink "java/lang/String" 492 ⟨"java/lang/String", "isLatin1", "()Z"⟩ ∈ hc_gw := hc_in (p := 515) (by decide +kernel) (by decide +kernel)
set_option maxRecDepth 1000000 in
theorem hl_t_m495 : Cond.methodLink "java/lang/String" 495 ⟨"java/lang/StringLatin1", "charAt", "([BI)C"⟩ ∈ hc_gw := hc_in (p := 519) (by decide +kernel) (by decide +kernel)
set_option maxRecDepth 1000000 in
theorem hl_t_m9 : Cond.methodLink "java/lang/StringLatin1" 9 ⟨"java/lang/String", "checkIndex", "(II)V"⟩ ∈ hc_gw := hc_in (p := 522) (by decide +kernel) (by decide +kernel)
set_option maxRecDepth 1000000 in
theorem hl_t_m1059 : Cond.methodLink "java/lang/String" 1059 ⟨"jdk/internal/util/Preconditions", "checkIndex", "(IILjava/util/function/BiFunction;)I"⟩ ∈ hc_gw := hc_in (p := 527) (by decide +kernel) (by decide +kernel)
set_option maxRecDepth 1000000 in
theorem hl_t_m633 : Cond.methodLink "java/lang/String" 633 ⟨"java/lang/String", "indexOf", "(II)I"⟩ ∈ hc_gw := hc_in (p := 560) (by decide +kernel) (by decide +kernel)
set_option maxRecDepth 1000000 in
theorem hl_t_m505 : Cond.methodLink "java/lang/String" 505 ⟨"java/lang/String", "length", "()I"⟩ ∈ hc_gw := hc_in (p := 564) (by decide +kernel) (by decide +kernel)
set_option maxRecDepth 1000000 in
theorem hl_t_m637 : Cond.methodLink "java/lang/String" 637 ⟨"java/lang/StringLatin1", "indexOf", "([BIII)I"⟩ ∈ hc_gw := hc_in (p := 565) (by decide +kernel) (by decide +kernel)
set_option maxRecDepth 1000000 in
theorem hl_t_m88 : Cond.methodLink "java/lang/StringLatin1" 88 ⟨"java/lang/StringLatin1", "canEncode", "(I)Z"⟩ ∈ hc_gw := hc_in (p := 568) (by decide +kernel) (by decide +kernel)
set_option maxRecDepth 1000000 in
theorem hl_t_m92 : Cond.methodLink "java/lang/StringLatin1" 92 ⟨"java/lang/Math", "max", "(II)I"⟩ ∈ hc_gw := hc_in (p := 571) (by decide +kernel) (by decide +kernel)
set_option maxRecDepth 1000000 in
theorem hl_t_m38 : Cond.methodLink "java/lang/StringLatin1" 38 ⟨"java/lang/Math", "min", "(II)I"⟩ ∈ hc_gw := hc_in (p := 574) (by decide +kernel) (by decide +kernel)
set_option maxRecDepth 1000000 in
theorem hl_t_m95 : Cond.methodLink "java/lang/StringLatin1" 95 ⟨"java/lang/StringLatin1", "indexOfChar", "([BIII)I"⟩ ∈ hc_gw := hc_in (p := 577) (by decide +kernel) (by decide +kernel)
set_option maxRecDepth 1000000 in
theorem hl_t_m52 : Cond.methodLink "HeardNext$Tokens" 52 ⟨"java/lang/String", "length", "()I"⟩ ∈ hc_gw := hc_in (p := 501) (by decide +kernel) (by decide +kernel)
set_option maxRecDepth 1000000 in
theorem hl_t_m56 : Cond.methodLink "HeardNext$Tokens" 56 ⟨"java/lang/String", "charAt", "(I)C"⟩ ∈ hc_gw := hc_in (p := 511) (by decide +kernel) (by decide +kernel)
set_option maxRecDepth 1000000 in
theorem hl_t_m41 : Cond.methodLink "HeardNext$Tokens" 41 ⟨"java/lang/String", "indexOf", "(I)I"⟩ ∈ hc_gw := hc_in (p := 556) (by decide +kernel) (by decide +kernel)
set_option maxRecDepth 1000000 in
theorem hl_t_f9 : Cond.fieldLink "java/lang/String" 9 "java/lang/String" "value" "[B" ∈ hc_gw := hc_in (p := 1698) (by decide +kernel) (by decide +kernel)
set_option maxRecDepth 1000000 in
theorem hl_t_f15 : Cond.fieldLink "java/lang/String" 15 "java/lang/String" "coder" "B" ∈ hc_gw := hc_in (p := 1699) (by decide +kernel) (by decide +kernel)
set_option maxRecDepth 1000000 in
theorem hl_t_f38 : Cond.fieldLink "java/lang/String" 38 "java/lang/String" "COMPACT_STRINGS" "Z" ∈ hc_gw := hc_in (p := 509) (by decide +kernel) (by decide +kernel)
set_option maxRecDepth 1000000 in
theorem hl_t_f1053 : Cond.fieldLink "java/lang/String" 1053 "jdk/internal/util/Preconditions" "SIOOBE_FORMATTER" "Ljava/util/function/BiFunction;" ∈ hc_gw := hc_in (p := 525) (by decide +kernel) (by decide +kernel)
/-! THE TEXTS' METHODS: contracts out of the library's, at any world -/
theorem hx_decl {args : Array Value} {s : State} {y : MethodName} {bytes : ByteArray} {maxL : Nat} {ret : Option FieldType} (h1 : (Cond.code y bytes maxL ret).before args s = true) (h2 : (Cond.instanceMethod y).before args s = true) : (Cond.declares y).before args s = true := by
  obtain ⟨m, meth, a1, a2, a3, -⟩ := Cond.instanceMethod_spec h2
  obtain ⟨meth', c, b1, -, -, -, -, -, -, b2⟩ := Cond.code_spec a1 h1
  have e : meth' = meth := Option.some.inj (b1.symm.trans a2)
  subst e
  simp only [Cond.before, Cond.holds, Cond.value, a1, a2, a3, b2, Option.bind_some, Option.map_some]
  simp
theorem hx_sig {args : Array Value} {s : State} {y : MethodName} {bytes : ByteArray} {maxL : Nat} {ret : Option FieldType} (h1 : (Cond.code y bytes maxL ret).before args s = true) : Jvm.Lib.Cold.Sig s y := by
  obtain ⟨m, hn⟩ := Cond.named_of_code h1
  obtain ⟨meth, c, b1, -, -, -, -, -, -, b2⟩ := Cond.code_spec hn h1
  exact ⟨m, meth, hn, b1, b2⟩
section HXT
variable {G : hv_G} {l : Launch}
theorem hx_C {x : MethodName} {S : Spec} {bytes : ByteArray} {maxL : Nat} {ret : Option FieldType} {fr lo n : Nat} {hp : hv_H} {as : List Value} {r : Int32} {A : Type} {Pg : A → Array Value → State → Prop}
    (hm : ∀ g : A, MetFree l x S (Pg g) (fun _ _ _ _ _ => True) (fun _ s o s' => PureEnd s o s' ∧ o = .returned (some (.int r))))
    (hf : S.room.frames ≤ fr) (hl : S.room.locals ≤ lo) (hc : S.room.cells ≤ 0) (hs : S.room.slots ≤ 0)
    (hq : ∀ s : State, (∀ w ∈ hc_gw, ∀ a : Array Value, w.before a s = true) → hx_K G s → ∃ g : A, Pg g (as.map (hv_v G)).toArray s ∧ S.pre.before (as.map (hv_v G)).toArray s = true) :
    hv_C G hc_gw l x bytes maxL ret fr lo n hp as (some (.int r)) n hp 0 0 := by
  intro p e ha hcs hk s m args below hfr happ hP hK
  obtain ⟨a1, a2, a3, a4, a5, a6, a7, a8⟩ := (Spec.appliesLoose_iff hfr).mp happ
  obtain ⟨rfl, h1, h2, h3, hxk, h4⟩ := hP
  have hts := atoms_spec (ws := .code x bytes maxL ret :: hc_gw) a8
  obtain ⟨g, hg, hpre⟩ := hq s (fun w hw a => hv_keeps (hc_gw_keep w hw) (State.WarmedH.refl s) (hts w (List.mem_cons_of_mem _ hw))) hxk
  obtain ⟨k, o, q1, q2, q3, o1, o2, o3⟩ := (Jvm.Free.MetFree.toPureRet (hm g)) p e ha hcs hk s m _ below hfr ((Spec.appliesLoose_iff hfr).mpr ⟨a1, a2, a3, a4, a5, a6, Jvm.Free.hasRoom_mono hf hl hc hs a7, hpre⟩) hg trivial
  exact ⟨k, o, q1, q2, q3, ⟨o1, by rw [o2]; exact h1, fun q hq => by rw [o2]⟩, [], o3, fun q hq => absurd hq List.not_mem_nil⟩
theorem hx_val {U : State} {a : Nat} {rest : List Value} {name desc : String} {v : Value} (h : U.fieldOf? a "java/lang/String" name desc = some v) : (Term.field (.arg 0) "java/lang/String" name desc).eval (Value.ref a :: rest).toArray U none [] U = some v := by
  have e : ((Value.ref a :: rest).toArray)[0]? = some (.ref a) := by simp
  simp only [Term.eval, e, Option.bind_eq_bind, Option.bind_some]
  exact h
theorem hx_ex {U : State} {a : Nat} {rest : List Value} {cls : String} (h : (Cond.exactly (.arg 0) cls).before #[.ref a] U = true) : (Cond.exactly (.arg 0) cls).before (Value.ref a :: rest).toArray U = true := by
  have e : ((Value.ref a :: rest).toArray)[0]? = some (.ref a) := by simp
  have e' : (#[Value.ref a] : Array Value)[0]? = some (.ref a) := rfl
  simp only [Cond.before, Cond.holds, Cond.value, Term.eval, e, e'] at h ⊢
  exact h
theorem hx_lo : ∀ k, ∀ c ∈ hc_txt k, c < 128
  | 0 => by decide +kernel
  | k + 1 => by
    show ∀ c ∈ hc_txt 1, c < 128
    decide +kernel
theorem hx_len31 : ∀ k, 0 < (hc_txt k).length ∧ (hc_txt k).length < 200
  | 0 => by decide +kernel
  | k + 1 => by
    show 0 < (hc_txt 1).length ∧ (hc_txt 1).length < 200
    decide +kernel
theorem hx_len {k fr lo n : Nat} {hp : hv_H} (hfr : 4 ≤ fr) (hlo : 200 ≤ lo) : hv_C G hc_gw l ⟨"java/lang/String", "length", "()I"⟩ Jvm.Lib.String.length.code 1 (some .int) fr lo n hp [.retAddr k] (some (.int (Int32.ofNat (hc_txt k).length))) n hp 0 0 := by
  refine hx_C (A := { g : Nat × Cell // g.2.slots.size = (hc_txt k).length }) (S := Jvm.Lib.Cold.length.spec) (Pg := fun g => Jvm.Lib.Cold.length.P (G.2.2.2 (1000 + hx_k k)) g.1.1 1 g.1.2) (fun g => ?_) (by show 1 ≤ fr; omega) (by show 24 ≤ lo; omega) (Nat.le_refl 0) (Nat.le_refl 0) ?_
  · have hm := Jvm.Lib.Cold.length.met l (G.2.2.2 (1000 + hx_k k)) g.1.1 1 g.1.2
    unfold Jvm.Lib.Cold.length.Q at hm
    rw [g.2] at hm
    exact hm
  · intro s hw hx
    obtain ⟨⟨z1, fmt, z2, z3⟩, ht⟩ := hx.at
    obtain ⟨d, C, arr, t1, t2, t3, t4, t5, t6, t7, t8, t9, t10, t11⟩ := ht k
    refine ⟨⟨(d, arr), t10⟩, ⟨rfl, hx_val (rest := []) t5, t7, t8, ?_, rfl, z1, by decide, hx_val (rest := []) t6⟩, ?_⟩
    · simp only [Jvm.Lib.Cold.coder.spec, Cond.before_and, Bool.and_eq_true]
      exact ⟨hw _ hl_t_cco _, rfl, hw _ hl_t_f38 _, hw _ hl_t_f15 _⟩
    · simp only [Jvm.Lib.Cold.length.spec, Cond.before_and, Bool.and_eq_true]
      exact ⟨hw _ hl_t_cln _, rfl, hx_ex (rest := []) t4, hw _ hl_t_f9 _, hw _ hl_t_m335 _, hx_decl (hw _ hl_t_cco _) (hw _ hl_t_ico _), hw _ hl_t_sco _, hw _ hl_t_ico _, hw _ hl_t_nstr _⟩
theorem hx_ch : ∀ c, c < 128 → ((Int32.ofNat c &&& 255).toUInt32.toUInt16.toUInt32.toInt32) = Int32.ofNat c := by decide +kernel
theorem hx_isRef {fmt : Value} {i n : Int32} {U : State} (h : fmt.isRef = true) : (Cond.isRef (.arg 2)).before #[.int i, .int n, fmt] U = true := by
  cases fmt <;> first | rfl | (cases h; done)
theorem hx_chr {k fr lo n c : Nat} {i : Int32} {hp : hv_H} (hi : ¬ i < 0) (hc : (hc_txt k)[i.toNatClampNeg]? = some c) (hfr : 4 ≤ fr) (hlo : 200 ≤ lo) : hv_C G hc_gw l ⟨"java/lang/String", "charAt", "(I)C"⟩ Jvm.Lib.Str.charAt.code 2 (some .char) fr lo n hp [.retAddr k, .int i] (some (.int (Int32.ofNat c))) n hp 0 0 := by
  have hc128 := hx_lo k c (List.mem_of_getElem? hc)
  refine hx_C (A := Nat × Value × Cell) (S := Jvm.Lib.Cold.charAt.spec) (Pg := fun g => Jvm.Lib.Cold.charAt.P (G.2.2.2 (1000 + hx_k k)) g.1 i (Int32.ofNat c) 1 g.2.1 g.2.2) (fun g => ?_) (by show 3 ≤ fr; omega) (by show 72 ≤ lo; omega) (Nat.le_refl 0) (Nat.le_refl 0) ?_
  · have hm := Jvm.Lib.Cold.charAt.met l (G.2.2.2 (1000 + hx_k k)) g.1 i (Int32.ofNat c) 1 g.2.1 g.2.2
    unfold Jvm.Lib.Cold.charAt.Q at hm
    rw [hx_ch c hc128] at hm
    exact hm
  · intro s hw hx
    obtain ⟨⟨z1, fmt, z2, z3⟩, ht⟩ := hx.at
    obtain ⟨d, C, arr, t1, t2, t3, t4, t5, t6, t7, t8, t9, t10, t11⟩ := ht k
    have hlt : i.toNatClampNeg < (hc_txt k).length := (List.getElem?_eq_some_iff.mp hc).1
    have hl2 := (hx_len31 k).2
    have hin : i < arr.slots.size.toInt32 := by
      rw [t10]
      obtain ⟨j, h1, h2⟩ := nI_of hi
      rw [h2, nI_clamp h1] at hlt
      rw [h2]
      apply Int32.lt_iff_toInt_lt.mpr
      rw [nI_toInt h1]
      show (j : Int) < (nI (hc_txt k).length).toInt
      rw [nI_toInt (by omega)]
      omega
    have h0 : (0 : Int32) ≤ i := Int32.not_lt.mp hi
    refine ⟨(d, fmt, arr), ⟨rfl, hx_val (rest := [.int i]) t5, hx_sig (hw _ hl_t_csl #[]), ?_, ⟨rfl, z1, by decide, hx_val (rest := []) t6⟩, ?_, rfl, t7, t8, t9, ?_, t11 _ _ hc, hx_sig (hw _ hl_t_csc #[]), ?_, rfl, z2, hx_sig (hw _ hl_t_cpc #[]), ?_⟩, ?_⟩
    · simp only [Jvm.Lib.Cold.isLatin1.spec, Cond.before_and, Bool.and_eq_true]
      exact ⟨hw _ hl_t_cil _, rfl, hw _ hl_t_f38 _, hw _ hl_t_f15 _⟩
    · simp only [Jvm.Lib.Cold.latin1.spec, Cond.before_and, Bool.and_eq_true]
      exact ⟨hw _ hl_t_csl _, rfl, hw _ hl_t_m9 _, hw _ hl_t_ssc _, hw _ hl_t_nstr _⟩
    · rintro (q | q)
      · exact hi q
      · rw [t10] at q
        omega
    · simp only [Jvm.Lib.Cold.checkIndex.spec, Cond.before_and, Bool.and_eq_true]
      exact ⟨hw _ hl_t_csc _, rfl, hw _ hl_t_f1053 _, hw _ hl_t_m1059 _, hw _ hl_t_spc _, hw _ hl_t_npre _⟩
    · simp only [Jvm.Lib.Preconditions.checkIndex.spec, Cond.before_and, Bool.and_eq_true]
      refine ⟨hw _ hl_t_cpc _, rfl, rfl, rfl, hx_isRef z3, ?_, ?_⟩
      · simp [Cond.before, Cond.holds, Cond.value, Term.eval, h0]
      · simp only [Cond.before, Cond.holds, Cond.value, Term.eval]
        simp [hin]
    · simp only [Jvm.Lib.Cold.charAt.spec, Cond.before_and, Bool.and_eq_true]
      exact ⟨hw _ hl_t_cch _, rfl, hx_ex (rest := [.int i]) t4, hw _ hl_t_m492 _, hx_decl (hw _ hl_t_cil _) (hw _ hl_t_iil _), hw _ hl_t_sil _, hw _ hl_t_iil _, hw _ hl_t_f9 _, hw _ hl_t_m495 _, hw _ hl_t_ssl _, hw _ hl_t_nsl1 _, hw _ hl_t_nstr _⟩
theorem hx_ixf_none {x : Int32} : ∀ (bs : List Nat) (k : Nat), (∀ b ∈ bs, ¬ Int32.ofNat b = x) → hc_ixf x bs k = -1
  | [], k, h => rfl
  | b :: bs, k, h => by
    show (match decide (Int32.ofNat b = x) with
      | true => Int32.ofNat k
      | false => hc_ixf x bs (k + 1)) = -1
    rw [decide_eq_false (h b List.mem_cons_self)]
    exact hx_ixf_none bs (k + 1) (fun c hc => h c (List.mem_cons_of_mem _ hc))
theorem hx_ixf_first {f : Nat → Int32} {t x : Int32} : ∀ (bs : List Nat) (k : Nat), (∀ (i b : Nat), bs[i]? = some b → f (k + i) = Int32.ofNat b) → (∀ b ∈ bs, (Int32.ofNat b = t ↔ Int32.ofNat b = x)) → Jvm.Free.SL1IndexOf.Chr.firstIdx f t k bs.length = hc_ixf x bs k
  | [], k, h1, h2 => rfl
  | b :: bs, k, h1, h2 => by
    show (if f k = t then Int32.ofNat k else Jvm.Free.SL1IndexOf.Chr.firstIdx f t (k + 1) bs.length) = (match decide (Int32.ofNat b = x) with
      | true => Int32.ofNat k
      | false => hc_ixf x bs (k + 1))
    have e : f k = Int32.ofNat b := h1 0 b rfl
    rw [e]
    by_cases hb : Int32.ofNat b = t
    · rw [if_pos hb, decide_eq_true ((h2 b List.mem_cons_self).mp hb)]
    · rw [if_neg hb, decide_eq_false (fun q => hb ((h2 b List.mem_cons_self).mpr q))]
      exact hx_ixf_first bs (k + 1) (fun i c hc => by
        have := h1 (i + 1) c (by simpa using hc)
        rwa [show k + (i + 1) = k + 1 + i by omega] at this) (fun c hc => h2 c (List.mem_cons_of_mem _ hc))
theorem hx_byte : ∀ j, j < 256 → (j < 128 ∧ (nI j).toInt8.toInt32 = nI j) ∨ (128 ≤ j ∧ (nI j).toInt8.toInt32 < 0) := by decide +kernel
theorem hx_ans {arr : Cell} {x : Int32} {k : Nat} (h10 : arr.slots.size = (hc_txt k).length) (h11 : ∀ (i b : Nat), (hc_txt k)[i]? = some b → arr.slots[i]? = some (.int (Int32.ofNat b))) : Jvm.Free.SL1IndexOf.Idx.answer arr x 0 arr.slots.size.toInt32 = hc_ixf x (hc_txt k) 0 := by
  have hlo := hx_lo k
  have hl2 := (hx_len31 k).2
  have hpos := (hx_len31 k).1
  unfold Jvm.Free.SL1IndexOf.Idx.answer Jvm.Free.SL1IndexOf.Can.can
  by_cases hx : 0 ≤ x ∧ x ≤ 255
  · rw [if_pos hx, if_neg (by decide)]
    have e1 : Jvm.Free.SL1IndexOf.Idx.lo 0 = 0 := by simp [Jvm.Free.SL1IndexOf.Idx.lo]
    have e2 : Jvm.Free.SL1IndexOf.Idx.hi arr arr.slots.size.toInt32 = arr.slots.size.toInt32 := by simp [Jvm.Free.SL1IndexOf.Idx.hi]
    have e3 : arr.slots.size.toInt32.toNatClampNeg = (hc_txt k).length := by
      rw [h10]
      exact nI_clamp (by omega)
    have e4 : (0 : Int32) < arr.slots.size.toInt32 := by
      apply Int32.lt_iff_toInt_lt.mpr
      rw [h10]
      show (0 : Int) < (nI (hc_txt k).length).toInt
      rw [nI_toInt (by omega)]
      omega
    rw [e1, e2, if_pos e4, e3]
    obtain ⟨j, hj, hxj⟩ := nI_of2 (n := 255) (by decide) (Int32.not_lt.mpr hx.1) hx.2
    have e5 : (0 : Int32).toNatClampNeg = 0 := by decide
    rw [e5, Nat.sub_zero]
    refine hx_ixf_first (hc_txt k) 0 (fun i b hb => ?_) (fun b hb => ?_)
    · rw [Nat.zero_add]
      unfold Jvm.Lib.StringLatin1.equals.intAt
      rw [h11 i b hb]
    · have hb128 := hlo b hb
      rcases hx_byte j (by omega) with ⟨g1, g2⟩ | ⟨g1, g2⟩
      · rw [hxj, g2]
      · have hbi : (Int32.ofNat b).toInt = b := nI_toInt (by omega)
        constructor
        · intro q
          rw [hxj, ← Int32.toInt_inj, hbi] at q
          have := Int32.lt_iff_toInt_lt.mp g2
          have z : (0 : Int32).toInt = 0 := by decide
          omega
        · intro q
          rw [hxj, ← Int32.toInt_inj, hbi, nI_toInt (by omega)] at q
          omega
  · rw [if_neg hx, if_pos rfl]
    refine (hx_ixf_none _ _ (fun b hb q => hx ?_)).symm
    have hb128 := hlo b hb
    have hbi : (Int32.ofNat b).toInt = b := nI_toInt (by omega)
    subst q
    constructor
    · apply Int32.le_iff_toInt_le.mpr
      rw [hbi]
      show (0 : Int) ≤ b
      omega
    · apply Int32.le_iff_toInt_le.mpr
      rw [hbi]
      show (b : Int) ≤ 255
      omega
theorem hx_idx {k fr lo n : Nat} {x : Int32} {hp : hv_H} (hfr : 4 ≤ fr) (hlo : 200 ≤ lo) : hv_C G hc_gw l ⟨"java/lang/String", "indexOf", "(I)I"⟩ Jvm.Free.StrIndexOf.indexOf1B 2 (some .int) fr lo n hp [.retAddr k, .int x] (some (.int (hc_ixf x (hc_txt k) 0))) n hp 0 0 := by
  refine hx_C (A := { g : Nat × Cell // Jvm.Free.SL1IndexOf.Idx.answer g.2 x 0 g.2.slots.size.toInt32 = hc_ixf x (hc_txt k) 0 }) (S := Jvm.Free.StrIndexOf.S1.spec) (Pg := fun g => Jvm.Free.StrIndexOf.S1.P (G.2.2.2 (1000 + hx_k k)) g.1.1 x 1 g.1.2) (fun g => ?_) (by show 4 ≤ fr; omega) (by show 160 ≤ lo; omega) (Nat.le_refl 0) (Nat.le_refl 0) ?_
  · have hm := Jvm.Free.StrIndexOf.S1.met l (G.2.2.2 (1000 + hx_k k)) g.1.1 x 1 g.1.2
    unfold Jvm.Free.StrIndexOf.S1.Q at hm
    rw [g.2] at hm
    exact hm
  · intro s hw hx
    obtain ⟨⟨z1, fmt, z2, z3⟩, ht⟩ := hx.at
    obtain ⟨d, C, arr, t1, t2, t3, t4, t5, t6, t7, t8, t9, t10, t11⟩ := ht k
    have hl2 := (hx_len31 k).2
    refine ⟨⟨(d, arr), hx_ans t10 t11⟩, ⟨rfl, ?_, rfl, hx_val (rest := [.int x, .int 0]) t5, ?_, ⟨rfl, z1, by decide, hx_val (rest := []) t6⟩, ?_, ⟨rfl, hx_val (rest := []) t5, t7, t8, ?_, rfl, z1, by decide, hx_val (rest := []) t6⟩, t9, by rw [t10]; omega, ?_⟩, ?_⟩
    · simp only [Jvm.Free.StrIndexOf.S2.spec, Jvm.Free.SL1IndexOf.Idx.tab, Jvm.Free.SL1IndexOf.Can.tab, Jvm.Free.SL1IndexOf.Chr.tab, Cond.before_and, Bool.and_eq_true]
      exact ⟨hw _ hl_t_ci2 _, rfl, hx_ex (rest := [.int x, .int 0]) t4, hw _ hl_t_m492 _, hx_decl (hw _ hl_t_cil _) (hw _ hl_t_iil _), hw _ hl_t_sil _, hw _ hl_t_iil _, hw _ hl_t_f9 _, hw _ hl_t_m505 _, hx_decl (hw _ hl_t_cln _) (hw _ hl_t_iln _), hw _ hl_t_sln _, hw _ hl_t_iln _, hw _ hl_t_m637 _, hw _ hl_t_six _, ⟨hw _ hl_t_cix _, hw _ hl_t_m88 _, hw _ hl_t_sce _, hw _ hl_t_cce _, hw _ hl_t_m92 _, hw _ hl_t_smx _, hw _ hl_t_cmx _, hw _ hl_t_m38 _, hw _ hl_t_smn _, hw _ hl_t_cmn _, hw _ hl_t_nmt _, hw _ hl_t_m95 _, hw _ hl_t_sic _, hw _ hl_t_cic _⟩, hw _ hl_t_nsl1 _, hw _ hl_t_nstr _⟩
    · simp only [Jvm.Lib.Cold.isLatin1.spec, Cond.before_and, Bool.and_eq_true]
      exact ⟨hw _ hl_t_cil _, rfl, hw _ hl_t_f38 _, hw _ hl_t_f15 _⟩
    · simp only [Jvm.Lib.Cold.length.spec, Cond.before_and, Bool.and_eq_true]
      exact ⟨hw _ hl_t_cln _, rfl, hx_ex (rest := []) t4, hw _ hl_t_f9 _, hw _ hl_t_m335 _, hx_decl (hw _ hl_t_cco _) (hw _ hl_t_ico _), hw _ hl_t_sco _, hw _ hl_t_ico _, hw _ hl_t_nstr _⟩
    · simp only [Jvm.Lib.Cold.coder.spec, Cond.before_and, Bool.and_eq_true]
      exact ⟨hw _ hl_t_cco _, rfl, hw _ hl_t_f38 _, hw _ hl_t_f15 _⟩
    · intro i hi
      have hi' : i < (hc_txt k).length := by rw [← t10]; exact hi
      have := t11 i _ (List.getElem?_eq_getElem hi')
      exact Jvm.Lib.StringLatin1.equals.intAt_spec ⟨_, this⟩
    · simp only [Jvm.Free.StrIndexOf.S1.spec, Cond.before_and, Bool.and_eq_true]
      exact ⟨hw _ hl_t_ci1 _, rfl, hx_ex (rest := [.int x]) t4, hw _ hl_t_m633 _, hx_decl (hw _ hl_t_ci2 _) (hw _ hl_t_ii2 _), hw _ hl_t_si2 _, hw _ hl_t_ii2 _, hw _ hl_t_nstr _⟩
end HXT
section HXW
variable {G : hv_G} {p : Program} {l : Launch} {e : Env} {R : Room} {s : State} {m : MethodId} {args : Array Value} {below : List Frame} {meth : Method} {c : Code} {nL : Nat} {Q : State → Prop} {n : Nat} {hp : hv_H} {cells slots pc : Nat} {lv : List (Nat × Value)} {st : List Value} {Ts : List Cond} {own : String} {cc : ByteArray}
theorem hx_K.lt {G : hv_G} {U : State} (h : hx_K G U) (k : Nat) : G.2.2.2 (1000 + hx_k k) < G.1.1 := by
  obtain ⟨-, z, hz, -, -, -, ht⟩ := h
  obtain ⟨d, C, arr, t1, -⟩ := ht k
  exact Nat.lt_of_lt_of_le (Array.getElem?_eq_some_iff.mp t1).1 hz
theorem hw_ldcT (X : hv_X G p s m args c Ts "HeardNext$Tokens" cc nL) {k : Nat} (hd : decode cc pc = .ok (.ldc (hx_ix k), 2)) (kk : hv_W G p l e R s m args below meth c nL Q n hp cells slots (pc + 2) lv (.retAddr k :: st)) : hv_W G p l e R s m args below meth c nL Q n hp cells slots pc lv st := by
  intro H locs ls h1 h2 h3 h4
  obtain ⟨hx, hb, hml, hown, hts, hK, hB, hbB, hxK, hX⟩ := X
  obtain ⟨r1, r2⟩ := hxK.1 k
  have r2' : (Term.string "HeardNext$Tokens" (hx_ix k)).eval args s none [] s = some (.ref (G.2.2.2 (1000 + hx_k k))) := (Term.string_eval_of_vm rfl).trans r2
  have k1 := kk H locs ls h1 h2 h3 h4
  intro T hT XX
  obtain ⟨t, a1, b1⟩ := k1 T hT XX
  exact ⟨t, XX.ldcString hx (own := "HeardNext$Tokens") (text := hx_tt k) (index := hx_ix k) (a := G.2.2.2 (1000 + hx_k k)) hown r1 r2' rfl (by rw [hb]; exact hd) t a1, b1⟩
theorem hw_callT (X : hv_X G p s m args c Ts own cc nL) {gw : List Cond} {y : MethodName} {bytes : ByteArray} {maxL : Nat} {ret : Option FieldType} {fr lo mc ms ix na n' k : Nat} {hp' : hv_H} {r : Option Value} {as : List Value} (hM : hv_C G gw l y bytes maxL ret fr lo n hp (.retAddr k :: as) r n' hp' mc ms)
    (hd : decode cc pc = .ok (.invokevirtual ix, 3)) (hgw : ∀ w ∈ gw, w ∈ Ts) (hkp : ∀ w ∈ gw, hv_keep w = true) (hcode : Cond.code y bytes maxL ret ∈ gw) (hini : Cond.initialized y.cls ∈ Ts) (hlink : Cond.methodLink own ix y ∈ Ts) (hinst : Cond.instanceMethod y ∈ Ts) (hsel : Cond.selects "java/lang/String" y y ∈ Ts)
    (hy : y.cls ≠ "java/lang/invoke/MethodHandle" ∧ y.cls ≠ "java/lang/invoke/VarHandle") (hna : (parseMethodDescriptor y.desc).map (fun d => d.parameters.length) = some na) (hal : as.length = na) (hfr : fr + 1 ≤ R.frames) (hlo : 8 + (maxL + 11) + lo ≤ R.locals) (hst : (st.map fun v => v.category).sum ≤ 8) (hcc : cells + mc ≤ R.cells) (hss : slots + ms ≤ R.slots)
    (kk : hv_W G p l e R s m args below meth c nL Q n' hp' (cells + mc) (slots + ms) (pc + 3) lv (r.toList ++ st)) : hv_W G p l e R s m args below meth c nL Q n hp cells slots pc lv (as.reverse ++ .retAddr k :: st) := by
  intro H locs ls h1 h2 h3 h4
  have hB := hv_callB X (mc := mc) (ms := ms) hgw hkp hcode hini hlink hy hna hfr hlo
  have hxK := X.2.2.2.2.2.2.2.2.1
  obtain ⟨d, C, arr, t1, t2, t3, -⟩ := hxK.at.2 k
  have t1' : H[G.2.2.2 (1000 + hx_k k)]? = some C := by rw [h2 _ (hxK.lt k)]; exact t1
  refine hw_back (va_runV (As := as.map (hv_v G)) (b := G.2.2.2 (1000 + hx_k k)) (rest := st.map (hv_v G)) ⟨X.1, X.2.1, X.2.2.1, X.2.2.2.1, X.2.2.2.2.1⟩ hM ⟨hB, X.2.2.2.2.1 _ hinst, X.2.2.2.2.1 _ hsel⟩ ⟨hv_blind G n hp _, ⟨C, t1', t2, t3⟩, hv_pre X h1 h2 (.retAddr k :: as)⟩ rfl (by rw [List.length_map]; exact hal) h4.1 ?_ (lv_room (by rw [hv_cats]; exact hst)) hd ⟨hcc, hss⟩) h2 h3 h4 kk
  show List.map (hv_v G) (as.reverse ++ .retAddr k :: st) = _
  rw [List.map_append, List.map_reverse]
  rfl
end HXW
