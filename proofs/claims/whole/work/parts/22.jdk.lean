/-! THE JDK's methods that are reached: String.length, charAt of the constants; Arrays.fill -/
theorem jM.ofF {l : Launch} {y : MethodName} {cc : ByteArray} {nL : Nat} {ret : Option FieldType} {rm : Room} {D : va_G} {tys : List (ClassId × FieldType)} {X : jX} {av : List Value} {w : va_W} {post : Option Value → va_W → Prop} (L : List (Option Value)) (hL : jle L (jent av)) (hy : plainFor y = true) (hn : (lg_sl av).length ≤ nL)
    (body : ∀ (p : Program) (e : Env) (s : State) (m : MethodId) (args : Array Value) (below : List Frame) (meth : Method) (c : Code) (sz : Nat), jC p s m args meth c cc nL ret y.cls D tys (va_A w sz) X →
      J p l e rm s m args below meth c D (va_A w sz) nL (MQ below (jQ D w sz post) args s 0 0 (va_A w sz)) 0 L [] w) : jM l y cc nL ret rm D tys X av w post := by
  intro sz
  refine va_MetF (cc := cc) (maxL := nL) (ret := ret) hy rfl ?_
  intro p e s m args below meth c s₁ B hml hv
  obtain ⟨rfl, hsz, hP, hK, hD0, hE⟩ := hv
  have hts := atoms_spec (ws := Cond.code y cc nL ret :: al_ws) B.pre
  have hD := hD0.self (sz := sz)
  have hA : ∀ q : Nat, s.heap.size ≤ q → va_A w sz q := fun q h => Or.inr (by rw [← hsz]; exact h)
  have hl := jl_entry av hn
  rw [lg_entry_eq]
  exact body p e s m av.toArray below meth c sz ⟨B.exec, B.bytes, hml, findClass_of_methodNamed B.named, fun w h => hts w (List.mem_cons_of_mem _ h), hK, hA, B.returns, B.notSynchronized, hE⟩ s.heap [] _ (jl_weak hl (jle_at L _ hL)) hP hD va_S.rf
section JX
variable {p : Program} {l : Launch} {e : Env} {R : Room} {s : State} {m : MethodId} {args : Array Value} {below : List Frame} {meth : Method} {c : Code} {D : va_G} {A : Nat → Prop} {nL : Nat} {Q : State → Prop} {pc : Nat} {L : List (Option Value)} {S : List Value} {w : va_W}
variable {cc : ByteArray} {ret : Option FieldType} {own : String} {tys : List (ClassId × FieldType)} {X : jX}
variable {y : MethodName} {bytes : ByteArray} {maxL idx n : Nat} {ret' : Option FieldType} {rm : Room} {As : List Value} {post : Option Value → va_W → Prop}
/-- a call on a String constant -/
theorem j_callStr {i : Nat} (hC : jC p s m args meth c cc nL ret own D tys A X) (hi : i < 6) (hy : y.cls = "java/lang/String") (hw : jwV own idx y bytes maxL ret' n) (hR : jroom rm R maxL) (hn : As.length = n) (hroom : (S.map fun v => v.category).sum ≤ 8) (hd : decode cc pc = .ok (.invokevirtual idx, 3))
    (hM : jM l y bytes maxL ret' rm D tys X (.ref (X.2.1 i) :: As) w post)
    (kk : ∀ (v : Option Value) (w' : va_W), post v w' → J p l e R s m args below meth c D A nL Q (pc + 3) L (v.toList ++ S) w') : J p l e R s m args below meth c D A nL Q pc L (As.reverse ++ .ref (X.2.1 i) :: S) w := by
  intro H locs ls hl hP hD hS
  have hts := hC.2.2.2.2.1
  have hrec := vk_recv hC.2.2.2.2.2.2.2.2.2.2.2.2.1 hi hS
  rw [← hy] at hrec
  have run := va_runV (p := p) (l := l) (e := e) (R := R) (s := s) (m := m) (args := args) (below := below) (meth := meth) (c := c) (H := H) (locs := locs) (cells := 0) (slots := 0) (As := As) (rest := S) (C := y.cls) (b := X.2.1 i) (g := F0 m pc ls (As.reverse ++ .ref (X.2.1 i) :: S)) ⟨hC.1, hC.2.1, hC.2.2.1, hC.2.2.2.1, hts⟩ (hM H.size) ⟨j_callB hC hw.1 hR, hts _ hw.2.1, hts _ hw.2.2⟩ ⟨j_blind, hrec, j_pre (av := .ref (X.2.1 i) :: As) hC hP hD hS⟩ rfl hn hl.1 rfl (lv_room hroom) hd ⟨Nat.zero_le _, Nat.zero_le _⟩
  exact j_back hC hl hD hS run kk
theorem j_Str0 {i : Nat} {q : Int32 → va_W → Prop} (hC : jC p s m args meth c cc nL ret own D tys A X) (hi : i < 6) (hy : y.cls = "java/lang/String") (hw : jwV own idx y bytes maxL ret' 0) (hR : jroom rm R maxL) (hroom : (S.map fun v => v.category).sum ≤ 8) (hd : decode cc pc = .ok (.invokevirtual idx, 3)) (hM : jM l y bytes maxL ret' rm D tys X [.ref (X.2.1 i)] w (jPi q)) (kk : ∀ (r : Int32) (w2 : va_W), q r w2 → J p l e R s m args below meth c D A nL Q (pc + 3) L (.int r :: S) w2) : J p l e R s m args below meth c D A nL Q pc L (.ref (X.2.1 i) :: S) w := j_callStr (As := []) hC hi hy hw hR rfl hroom hd hM (fun v w2 h => by obtain ⟨r, rfl, h⟩ := h; exact kk r w2 h)
theorem j_Str1 {i : Nat} {v0 : Value} {q : Int32 → va_W → Prop} (hC : jC p s m args meth c cc nL ret own D tys A X) (hi : i < 6) (hy : y.cls = "java/lang/String") (hw : jwV own idx y bytes maxL ret' 1) (hR : jroom rm R maxL) (hroom : (S.map fun v => v.category).sum ≤ 8) (hd : decode cc pc = .ok (.invokevirtual idx, 3)) (hM : jM l y bytes maxL ret' rm D tys X [.ref (X.2.1 i), v0] w (jPi q)) (kk : ∀ (r : Int32) (w2 : va_W), q r w2 → J p l e R s m args below meth c D A nL Q (pc + 3) L (.int r :: S) w2) : J p l e R s m args below meth c D A nL Q pc L (v0 :: .ref (X.2.1 i) :: S) w := j_callStr (As := [v0]) hC hi hy hw hR rfl hroom hd hM (fun v w2 h => by obtain ⟨r, rfl, h⟩ := h; exact kk r w2 h)
/-- String's own fields and bytes -/
theorem js_compact (hC : jC p s m args meth c cc nL ret "java/lang/String" D tys A X) (hd : decode cc pc = .ok (.getstatic 38, 3)) (k : J p l e R s m args below meth c D A nL Q (pc + 3) L (.int 1 :: S) w) : J p l e R s m args below meth c D A nL Q pc L S w := fun H locs ls hl hP hD hS =>
  va_gets hC.1 hC.2.1 hC.2.2.2.2.2.2.2.2.2.2.2.1 hS hC.2.2.2.1 (hC.2.2.2.2.1 (.fieldLink "java/lang/String" 38 "java/lang/String" "COMPACT_STRINGS" "Z") (by decide +kernel)) (fun _ h => h) hd (k H locs ls hl hP hD hS)
theorem js_value {i : Nat} (hC : jC p s m args meth c cc nL ret "java/lang/String" D tys A X) (hi : i < 6) (hd : decode cc pc = .ok (.getfield 9, 3)) (k : J p l e R s m args below meth c D A nL Q (pc + 3) L (.ref (X.2.2 i) :: S) w) : J p l e R s m args below meth c D A nL Q pc L (.ref (X.2.1 i) :: S) w := fun H locs ls hl hP hD hS =>
  vk_getf hC.1 hC.2.1 (hC.2.2.2.2.2.2.2.2.2.2.2.2.1.1 i hi).2.2.1 hS hC.2.2.2.1 (hC.2.2.2.2.1 (.fieldLink "java/lang/String" 9 "java/lang/String" "value" "[B") (by decide +kernel)) (fun _ h => h) hd (k H locs ls hl hP hD hS)
theorem js_coder {i : Nat} (hC : jC p s m args meth c cc nL ret "java/lang/String" D tys A X) (hi : i < 6) (hd : decode cc pc = .ok (.getfield 15, 3)) (k : J p l e R s m args below meth c D A nL Q (pc + 3) L (.int 0 :: S) w) : J p l e R s m args below meth c D A nL Q pc L (.ref (X.2.1 i) :: S) w := fun H locs ls hl hP hD hS =>
  vk_getf hC.1 hC.2.1 (hC.2.2.2.2.2.2.2.2.2.2.2.2.1.1 i hi).2.1 hS hC.2.2.2.1 (hC.2.2.2.2.1 (.fieldLink "java/lang/String" 15 "java/lang/String" "coder" "B") (by decide +kernel)) (fun _ h => h) hd (k H locs ls hl hP hD hS)
theorem js_blen {i : Nat} (hC : jC p s m args meth c cc nL ret own D tys A X) (hi : i < 6) (hd : decode cc pc = .ok (.arraylength, 1)) (k : J p l e R s m args below meth c D A nL Q (pc + 1) L (.int (nI (st_len.getD i 0)) :: S) w) : J p l e R s m args below meth c D A nL Q pc L (.ref (X.2.2 i) :: S) w := fun H locs ls hl hP hD hS =>
  va_tlen hC.1 hC.2.1 (hC.2.2.2.2.2.2.2.2.2.2.2.2.1.1 i hi).2.2.2 hS rfl hd (k H locs ls hl hP hD hS)
theorem js_bald {i j : Nat} (hC : jC p s m args meth c cc nL ret own D tys A X) (hi : i < 6) (hj : j < st_len.getD i 0) (hj2 : j < 100) (hd : decode cc pc = .ok (.baload, 1)) (k : J p l e R s m args below meth c D A nL Q (pc + 1) L (.int ((st_byt.getD i []).getD j 0) :: S) w) : J p l e R s m args below meth c D A nL Q pc L (.int (nI j) :: .ref (X.2.2 i) :: S) w := fun H locs ls hl hP hD hS =>
  va_tb hC.1 hC.2.1 (hC.2.2.2.2.2.2.2.2.2.2.2.2.1.1 i hi).2.2.2 hS (by
    have hc : (nI j).toNatClampNeg = j := nI_clamp (by omega)
    intro q
    rcases q with q | q
    · exact absurd q (nI_pos (by omega))
    · rw [hc] at q; omega) (by show Value.int ((st_byt.getD i []).getD (nI j).toNatClampNeg 0) = _; rw [nI_clamp (by omega)]) hd (k H locs ls hl hP hD hS)
theorem js_sioobe (hC : jC p s m args meth c cc nL ret "java/lang/String" D tys A X) (hd : decode cc pc = .ok (.getstatic 1053, 3)) (k : ∀ v : Value, v.category = 1 → J p l e R s m args below meth c D A nL Q (pc + 3) L (v :: S) w) : J p l e R s m args below meth c D A nL Q pc L S w := fun H locs ls hl hP hD hS => by
  have hlink := hC.2.2.2.2.1 (.fieldLink "java/lang/String" 1053 "jdk/internal/util/Preconditions" "SIOOBE_FORMATTER" "Ljava/util/function/BiFunction;") (by decide +kernel)
  rcases hC.2.2.2.2.2.2.2.2.2.2.2.2.2.1.1 with h | ⟨t, h⟩
  · exact va_gets hC.1 hC.2.1 h hS hC.2.2.2.1 hlink (fun _ h => h) hd (k .null rfl H locs ls hl hP hD hS)
  · exact va_gets hC.1 hC.2.1 h hS hC.2.2.2.1 hlink (fun _ h => h) hd (k (.ref t) rfl H locs ls hl hP hD hS)
theorem j_alen {q0 t0 : Nat} {cA : ClassId} {a : Nat} {x : vp_A} {ty : FieldType} (hC : jC p s m args meth c cc nL ret own D tys A X) (ha : w[q0]? = some (a, .inl (cA, x))) (ht : tys[t0]? = some (cA, ty)) (hd : decode cc pc = .ok (.arraylength, 1)) (k : J p l e R s m args below meth c D A nL Q (pc + 1) L (.int (Int32.ofNat x.1) :: S) w) : J p l e R s m args below meth c D A nL Q pc L (.ref a :: S) w := fun H locs ls hl hP hD hS => va_alen (q0 := q0) (t0 := t0) hC.1 hC.2.1 hC.2.2.2.2.2.1 hP ha ht rfl hd (k H locs ls hl hP hD hS)
end JX
abbrev b_s_length : ByteArray := prog_14_method_54_code
def y_s_length : MethodName := ⟨"java/lang/String", "length", "()I"⟩
abbrev b_s_charAt : ByteArray := prog_14_method_56_code
def y_s_charAt : MethodName := ⟨"java/lang/String", "charAt", "(I)C"⟩
abbrev b_s_coder : ByteArray := prog_14_method_152_code
def y_s_coder : MethodName := ⟨"java/lang/String", "coder", "()B"⟩
abbrev b_s_isLatin1 : ByteArray := prog_14_method_154_code
def y_s_isLatin1 : MethodName := ⟨"java/lang/String", "isLatin1", "()Z"⟩
abbrev b_s_checkIndex : ByteArray := prog_14_method_155_code
def y_s_checkIndex : MethodName := ⟨"java/lang/String", "checkIndex", "(II)V"⟩
abbrev b_t_charAt : ByteArray := prog_15_method_2_code
def y_t_charAt : MethodName := ⟨"java/lang/StringLatin1", "charAt", "([BI)C"⟩
abbrev b_p_checkIndex : ByteArray := prog_20_method_11_code
def y_p_checkIndex : MethodName := ⟨"jdk/internal/util/Preconditions", "checkIndex", "(IILjava/util/function/BiFunction;)I"⟩
abbrev b_a_fill : ByteArray := prog_19_method_103_code
def y_a_fill : MethodName := ⟨"java/util/Arrays", "fill", "([II)V"⟩
theorem d_s_length_0 : decode b_s_length 0 = .ok (.aload_n 0, 1) := by decide +kernel
theorem d_s_length_1 : decode b_s_length 1 = .ok (.getfield 9, 3) := by decide +kernel
theorem d_s_length_4 : decode b_s_length 4 = .ok (.arraylength, 1) := by decide +kernel
theorem d_s_length_5 : decode b_s_length 5 = .ok (.aload_n 0, 1) := by decide +kernel
theorem d_s_length_6 : decode b_s_length 6 = .ok (.invokevirtual 335, 3) := by decide +kernel
theorem d_s_length_9 : decode b_s_length 9 = .ok (.ishr, 1) := by decide +kernel
theorem d_s_length_10 : decode b_s_length 10 = .ok (.ireturn, 1) := by decide +kernel
theorem d_s_charAt_0 : decode b_s_charAt 0 = .ok (.aload_n 0, 1) := by decide +kernel
theorem d_s_charAt_1 : decode b_s_charAt 1 = .ok (.invokevirtual 492, 3) := by decide +kernel
theorem d_s_charAt_4 : decode b_s_charAt 4 = .ok (.ifCond .eq 12, 3) := by decide +kernel
theorem d_s_charAt_7 : decode b_s_charAt 7 = .ok (.aload_n 0, 1) := by decide +kernel
theorem d_s_charAt_8 : decode b_s_charAt 8 = .ok (.getfield 9, 3) := by decide +kernel
theorem d_s_charAt_11 : decode b_s_charAt 11 = .ok (.iload_n 1, 1) := by decide +kernel
theorem d_s_charAt_12 : decode b_s_charAt 12 = .ok (.invokestatic 495, 3) := by decide +kernel
theorem d_s_charAt_15 : decode b_s_charAt 15 = .ok (.ireturn, 1) := by decide +kernel
theorem d_s_coder_0 : decode b_s_coder 0 = .ok (.getstatic 38, 3) := by decide +kernel
theorem d_s_coder_3 : decode b_s_coder 3 = .ok (.ifCond .eq 10, 3) := by decide +kernel
theorem d_s_coder_6 : decode b_s_coder 6 = .ok (.aload_n 0, 1) := by decide +kernel
theorem d_s_coder_7 : decode b_s_coder 7 = .ok (.getfield 15, 3) := by decide +kernel
theorem d_s_coder_10 : decode b_s_coder 10 = .ok (.goto 4, 3) := by decide +kernel
theorem d_s_coder_13 : decode b_s_coder 13 = .ok (.iconst 1, 1) := by decide +kernel
theorem d_s_coder_14 : decode b_s_coder 14 = .ok (.ireturn, 1) := by decide +kernel
theorem d_s_isLatin1_0 : decode b_s_isLatin1 0 = .ok (.getstatic 38, 3) := by decide +kernel
theorem d_s_isLatin1_3 : decode b_s_isLatin1 3 = .ok (.ifCond .eq 14, 3) := by decide +kernel
theorem d_s_isLatin1_6 : decode b_s_isLatin1 6 = .ok (.aload_n 0, 1) := by decide +kernel
theorem d_s_isLatin1_7 : decode b_s_isLatin1 7 = .ok (.getfield 15, 3) := by decide +kernel
theorem d_s_isLatin1_10 : decode b_s_isLatin1 10 = .ok (.ifCond .ne 7, 3) := by decide +kernel
theorem d_s_isLatin1_13 : decode b_s_isLatin1 13 = .ok (.iconst 1, 1) := by decide +kernel
theorem d_s_isLatin1_14 : decode b_s_isLatin1 14 = .ok (.goto 4, 3) := by decide +kernel
theorem d_s_isLatin1_17 : decode b_s_isLatin1 17 = .ok (.iconst 0, 1) := by decide +kernel
theorem d_s_isLatin1_18 : decode b_s_isLatin1 18 = .ok (.ireturn, 1) := by decide +kernel
theorem d_s_checkIndex_0 : decode b_s_checkIndex 0 = .ok (.iload_n 0, 1) := by decide +kernel
theorem d_s_checkIndex_1 : decode b_s_checkIndex 1 = .ok (.iload_n 1, 1) := by decide +kernel
theorem d_s_checkIndex_2 : decode b_s_checkIndex 2 = .ok (.getstatic 1053, 3) := by decide +kernel
theorem d_s_checkIndex_5 : decode b_s_checkIndex 5 = .ok (.invokestatic 1059, 3) := by decide +kernel
theorem d_s_checkIndex_8 : decode b_s_checkIndex 8 = .ok (.pop, 1) := by decide +kernel
theorem d_s_checkIndex_9 : decode b_s_checkIndex 9 = .ok (.return_, 1) := by decide +kernel
theorem d_t_charAt_0 : decode b_t_charAt 0 = .ok (.iload_n 1, 1) := by decide +kernel
theorem d_t_charAt_1 : decode b_t_charAt 1 = .ok (.aload_n 0, 1) := by decide +kernel
theorem d_t_charAt_2 : decode b_t_charAt 2 = .ok (.arraylength, 1) := by decide +kernel
theorem d_t_charAt_3 : decode b_t_charAt 3 = .ok (.invokestatic 9, 3) := by decide +kernel
theorem d_t_charAt_6 : decode b_t_charAt 6 = .ok (.aload_n 0, 1) := by decide +kernel
theorem d_t_charAt_7 : decode b_t_charAt 7 = .ok (.iload_n 1, 1) := by decide +kernel
theorem d_t_charAt_8 : decode b_t_charAt 8 = .ok (.baload, 1) := by decide +kernel
theorem d_t_charAt_9 : decode b_t_charAt 9 = .ok (.sipush 255, 3) := by decide +kernel
theorem d_t_charAt_12 : decode b_t_charAt 12 = .ok (.iand, 1) := by decide +kernel
theorem d_t_charAt_13 : decode b_t_charAt 13 = .ok (.i2c, 1) := by decide +kernel
theorem d_t_charAt_14 : decode b_t_charAt 14 = .ok (.ireturn, 1) := by decide +kernel
theorem d_p_checkIndex_0 : decode b_p_checkIndex 0 = .ok (.iload_n 0, 1) := by decide +kernel
theorem d_p_checkIndex_1 : decode b_p_checkIndex 1 = .ok (.ifCond .lt 8, 3) := by decide +kernel
theorem d_p_checkIndex_4 : decode b_p_checkIndex 4 = .ok (.iload_n 0, 1) := by decide +kernel
theorem d_p_checkIndex_5 : decode b_p_checkIndex 5 = .ok (.iload_n 1, 1) := by decide +kernel
theorem d_p_checkIndex_6 : decode b_p_checkIndex 6 = .ok (.if_icmp .lt 10, 3) := by decide +kernel
theorem d_p_checkIndex_16 : decode b_p_checkIndex 16 = .ok (.iload_n 0, 1) := by decide +kernel
theorem d_p_checkIndex_17 : decode b_p_checkIndex 17 = .ok (.ireturn, 1) := by decide +kernel
theorem d_a_fill_0 : decode b_a_fill 0 = .ok (.iconst 0, 1) := by decide +kernel
theorem d_a_fill_1 : decode b_a_fill 1 = .ok (.istore_n 2, 1) := by decide +kernel
theorem d_a_fill_2 : decode b_a_fill 2 = .ok (.aload_n 0, 1) := by decide +kernel
theorem d_a_fill_3 : decode b_a_fill 3 = .ok (.arraylength, 1) := by decide +kernel
theorem d_a_fill_4 : decode b_a_fill 4 = .ok (.istore_n 3, 1) := by decide +kernel
theorem d_a_fill_5 : decode b_a_fill 5 = .ok (.iload_n 2, 1) := by decide +kernel
theorem d_a_fill_6 : decode b_a_fill 6 = .ok (.iload_n 3, 1) := by decide +kernel
theorem d_a_fill_7 : decode b_a_fill 7 = .ok (.if_icmp .ge 13, 3) := by decide +kernel
theorem d_a_fill_10 : decode b_a_fill 10 = .ok (.aload_n 0, 1) := by decide +kernel
theorem d_a_fill_11 : decode b_a_fill 11 = .ok (.iload_n 2, 1) := by decide +kernel
theorem d_a_fill_12 : decode b_a_fill 12 = .ok (.iload_n 1, 1) := by decide +kernel
theorem d_a_fill_13 : decode b_a_fill 13 = .ok (.iastore, 1) := by decide +kernel
theorem d_a_fill_14 : decode b_a_fill 14 = .ok (.iinc 2 1, 3) := by decide +kernel
theorem d_a_fill_17 : decode b_a_fill 17 = .ok (.goto (-12), 3) := by decide +kernel
theorem d_a_fill_20 : decode b_a_fill 20 = .ok (.return_, 1) := by decide +kernel
theorem cw_S_335 : jwV "java/lang/String" 335 y_s_coder b_s_coder 1 (some .byte) 0 := ⟨⟨by decide +kernel, by decide +kernel, by decide +kernel, ⟨by decide, by decide⟩, by decide +kernel⟩, by decide +kernel, by decide +kernel⟩
theorem cw_S_492 : jwV "java/lang/String" 492 y_s_isLatin1 b_s_isLatin1 1 (some .boolean) 0 := ⟨⟨by decide +kernel, by decide +kernel, by decide +kernel, ⟨by decide, by decide⟩, by decide +kernel⟩, by decide +kernel, by decide +kernel⟩
theorem cw_S_495 : jwS "java/lang/String" 495 y_t_charAt b_t_charAt 2 (some .char) 2 := ⟨⟨by decide +kernel, by decide +kernel, by decide +kernel, ⟨by decide, by decide⟩, by decide +kernel⟩, by decide +kernel⟩
theorem cw_S_1059 : jwS "java/lang/String" 1059 y_p_checkIndex b_p_checkIndex 3 (some .int) 3 := ⟨⟨by decide +kernel, by decide +kernel, by decide +kernel, ⟨by decide, by decide⟩, by decide +kernel⟩, by decide +kernel⟩
theorem cw_T_9 : jwS "java/lang/StringLatin1" 9 y_s_checkIndex b_s_checkIndex 2 none 2 := ⟨⟨by decide +kernel, by decide +kernel, by decide +kernel, ⟨by decide, by decide⟩, by decide +kernel⟩, by decide +kernel⟩
theorem cw_R_160 : jwV R_DecimalReader 160 y_s_length b_s_length 1 (some .int) 0 := ⟨⟨by decide +kernel, by decide +kernel, by decide +kernel, ⟨by decide, by decide⟩, by decide +kernel⟩, by decide +kernel, by decide +kernel⟩
theorem cw_R_165 : jwV R_DecimalReader 165 y_s_charAt b_s_charAt 2 (some .char) 1 := ⟨⟨by decide +kernel, by decide +kernel, by decide +kernel, ⟨by decide, by decide⟩, by decide +kernel⟩, by decide +kernel, by decide +kernel⟩
theorem cw_M_100 : jwV R_Model 100 y_s_length b_s_length 1 (some .int) 0 := ⟨⟨by decide +kernel, by decide +kernel, by decide +kernel, ⟨by decide, by decide⟩, by decide +kernel⟩, by decide +kernel, by decide +kernel⟩
theorem cw_M_106 : jwV R_Model 106 y_s_charAt b_s_charAt 2 (some .char) 1 := ⟨⟨by decide +kernel, by decide +kernel, by decide +kernel, ⟨by decide, by decide⟩, by decide +kernel⟩, by decide +kernel, by decide +kernel⟩
theorem cw_V_23 : jwS R_Value 23 y_a_fill b_a_fill 4 none 2 := ⟨⟨by decide +kernel, by decide +kernel, by decide +kernel, ⟨by decide, by decide⟩, by decide +kernel⟩, by decide +kernel⟩
section JDK
variable {l : Launch} {D : va_G} {X : jX} {tys : List (ClassId × FieldType)} {w : va_W}
theorem c_s_coder (i : Nat) (hi : i < 6) : jM l y_s_coder b_s_coder 1 (some .byte) (rmD 0) D tys X [.ref (X.2.1 i)] w (jPi fun r w2 => r = 0 ∧ w2 = w) := by
  refine jM.ofF [some (.ref (X.2.1 i))] (by simp [jle, jent, Value.category]) rfl (Nat.le_of_ble_eq_true rfl) ?_
  intro p e s m args below meth c sz hC
  refine js_compact (pc := 0) hC d_s_coder_0 ?_
  refine j_if_eq (pc := 3) hC 13 d_s_coder_3 (by decide) (fun h => ?_) (fun h => ?_)
  · exact absurd h (by decide)
  · refine j_aloadn0 (pc := 6) hC d_s_coder_6 ?_
    refine js_coder (pc := 7) hC hi d_s_coder_7 ?_
    refine j_goto (pc := 10) hC 14 d_s_coder_10 (by decide) ?_
    exact j_zret hC rfl d_s_coder_14 ⟨0, rfl, rfl, rfl⟩
theorem c_s_isLatin1 (i : Nat) (hi : i < 6) : jM l y_s_isLatin1 b_s_isLatin1 1 (some .boolean) (rmD 0) D tys X [.ref (X.2.1 i)] w (jPi fun r w2 => r = 1 ∧ w2 = w) := by
  refine jM.ofF [some (.ref (X.2.1 i))] (by simp [jle, jent, Value.category]) rfl (Nat.le_of_ble_eq_true rfl) ?_
  intro p e s m args below meth c sz hC
  refine js_compact (pc := 0) hC d_s_isLatin1_0 ?_
  refine j_if_eq (pc := 3) hC 17 d_s_isLatin1_3 (by decide) (fun h => ?_) (fun h => ?_)
  · exact absurd h (by decide)
  · refine j_aloadn0 (pc := 6) hC d_s_isLatin1_6 ?_
    refine js_coder (pc := 7) hC hi d_s_isLatin1_7 ?_
    refine j_if_ne (pc := 10) hC 17 d_s_isLatin1_10 (by decide) (fun h => ?_) (fun h => ?_)
    · exact absurd rfl h
    · refine j_iconst (pc := 13) (v := 1) hC d_s_isLatin1_13 (by decide) ?_
      refine j_goto (pc := 14) hC 18 d_s_isLatin1_14 (by decide) ?_
      exact j_zret hC rfl d_s_isLatin1_18 ⟨1, rfl, rfl, rfl⟩
theorem c_s_length (i : Nat) (hi : i < 6) : jM l y_s_length b_s_length 1 (some .int) (rmD 1) D tys X [.ref (X.2.1 i)] w (jPi fun r w2 => r = nI (st_len.getD i 0) ∧ w2 = w) := by
  refine jM.ofF [some (.ref (X.2.1 i))] (by simp [jle, jent, Value.category]) rfl (Nat.le_of_ble_eq_true rfl) ?_
  intro p e s m args below meth c sz hC
  refine j_aloadn0 (pc := 0) hC d_s_length_0 ?_
  refine js_value (pc := 1) hC hi d_s_length_1 ?_
  refine js_blen (pc := 4) hC hi d_s_length_4 ?_
  refine j_aloadn0 (pc := 5) hC d_s_length_5 ?_
  refine j_Str0 (pc := 6) hC hi rfl cw_S_335 (rmD_in (by decide)) (Nat.le_of_ble_eq_true rfl) d_s_length_6 (c_s_coder i hi) (fun r w2 h => ?_)
  obtain ⟨rfl, rfl⟩ := h
  refine j_ishr (pc := 9) hC d_s_length_9 ?_
  refine j_iret hC d_s_length_10 ⟨_, rfl, ?_, rfl⟩
  exact sb_shr0 _
theorem cat_int (x : Int32) : (Value.int x).category = 1 := rfl
theorem c_p_checkIndex (a n : Nat) (v : Value) (hv : v.category = 1) (ha : a < n) (hn : n < 1000) : jM l y_p_checkIndex b_p_checkIndex 3 (some .int) (rmD 0) D tys X [.int (nI a), .int (nI n), v] w (jPi fun r w2 => r = nI a ∧ w2 = w) := by
  refine jM.ofF [some (.int (nI a)), some (.int (nI n)), some v] (by simp [jle, jent, hv, cat_int]) rfl (by simp [lg_sl, hv, cat_int]) ?_
  intro p e s m args below meth c sz hC
  refine j_iloadn0 (pc := 0) hC d_p_checkIndex_0 ?_
  refine j_if_lt (pc := 1) hC 9 d_p_checkIndex_1 (by decide) (fun h => ?_) (fun h => ?_)
  · exact absurd h (nI_pos (by omega))
  · refine j_iloadn0 (pc := 4) hC d_p_checkIndex_4 ?_
    refine j_iloadn1 (pc := 5) hC d_p_checkIndex_5 ?_
    refine j_icmp_lt (pc := 6) hC 16 d_p_checkIndex_6 (by decide) (fun h => ?_) (fun h => ?_)
    · refine j_iloadn0 (pc := 16) hC d_p_checkIndex_16 ?_
      exact j_iret hC d_p_checkIndex_17 ⟨_, rfl, rfl, rfl⟩
    · exact absurd (nI_lt ha (by omega)) h
theorem c_s_checkIndex (a n : Nat) (ha : a < n) (hn : n < 1000) : jM l y_s_checkIndex b_s_checkIndex 2 none (rmD 1) D tys X [.int (nI a), .int (nI n)] w (jPv fun w2 => w2 = w) := by
  refine jM.ofF [some (.int (nI a)), some (.int (nI n))] (by simp [jle, jent, Value.category]) rfl (Nat.le_of_ble_eq_true rfl) ?_
  intro p e s m args below meth c sz hC
  refine j_iloadn0 (pc := 0) hC d_s_checkIndex_0 ?_
  refine j_iloadn1 (pc := 1) hC d_s_checkIndex_1 ?_
  refine js_sioobe (pc := 2) hC d_s_checkIndex_2 (fun v hv => ?_)
  refine j_S3i (pc := 5) hC cw_S_1059 (rmD_in (by decide)) (Nat.le_of_ble_eq_true rfl) d_s_checkIndex_5 (c_p_checkIndex a n v hv ha hn) (fun r w2 h => ?_)
  obtain ⟨rfl, rfl⟩ := h
  refine j_pop (pc := 8) hC d_s_checkIndex_8 rfl ?_
  exact j_vret hC d_s_checkIndex_9 ⟨rfl, rfl⟩
theorem sch_ok : ∀ i, i < 6 → ∀ j, j < st_len.getD i 0 → ((((st_byt.getD i []).getD j 0) &&& 255).toUInt32 % 65536).toInt32 = (st_byt.getD i []).getD j 0 ∧ narrow .char (.int ((st_byt.getD i []).getD j 0)) = .int ((st_byt.getD i []).getD j 0) := by decide +kernel
theorem st_small : ∀ i, i < 6 → st_len.getD i 0 < 100 := by decide +kernel
theorem c_t_charAt (i j : Nat) (hi : i < 6) (hj : j < st_len.getD i 0) : jM l y_t_charAt b_t_charAt 2 (some .char) (rmD 2) D tys X [.ref (X.2.2 i), .int (nI j)] w (jPi fun r w2 => r = (st_byt.getD i []).getD j 0 ∧ w2 = w) := by
  refine jM.ofF [some (.ref (X.2.2 i)), some (.int (nI j))] (by simp [jle, jent, Value.category]) rfl (Nat.le_of_ble_eq_true rfl) ?_
  intro p e s m args below meth c sz hC
  have hs := st_small i hi
  refine j_iloadn1 (pc := 0) hC d_t_charAt_0 ?_
  refine j_aloadn0 (pc := 1) hC d_t_charAt_1 ?_
  refine js_blen (pc := 2) hC hi d_t_charAt_2 ?_
  refine j_S2v (pc := 3) hC cw_T_9 (rmD_in (by decide)) (Nat.le_of_ble_eq_true rfl) d_t_charAt_3 (c_s_checkIndex j _ hj (by omega)) (fun w2 h => ?_)
  obtain rfl := h
  refine j_aloadn0 (pc := 6) hC d_t_charAt_6 ?_
  refine j_iloadn1 (pc := 7) hC d_t_charAt_7 ?_
  refine js_bald (pc := 8) hC hi hj (by omega) d_t_charAt_8 ?_
  refine j_sipush (pc := 9) (v := 255) hC d_t_charAt_9 (by decide) ?_
  refine j_iand (pc := 12) hC d_t_charAt_12 ?_
  refine j_i2c (pc := 13) hC d_t_charAt_13 ?_
  refine J.topi (sch_ok i hi j hj).1 ?_
  exact j_zret hC (sch_ok i hi j hj).2 d_t_charAt_14 ⟨_, rfl, rfl, rfl⟩
theorem c_s_charAt (i j : Nat) (hi : i < 6) (hj : j < st_len.getD i 0) : jM l y_s_charAt b_s_charAt 2 (some .char) (rmD 3) D tys X [.ref (X.2.1 i), .int (nI j)] w (jPi fun r w2 => r = (st_byt.getD i []).getD j 0 ∧ w2 = w) := by
  refine jM.ofF [some (.ref (X.2.1 i)), some (.int (nI j))] (by simp [jle, jent, Value.category]) rfl (Nat.le_of_ble_eq_true rfl) ?_
  intro p e s m args below meth c sz hC
  refine j_aloadn0 (pc := 0) hC d_s_charAt_0 ?_
  refine j_Str0 (pc := 1) hC hi rfl cw_S_492 (rmD_in (by decide)) (Nat.le_of_ble_eq_true rfl) d_s_charAt_1 (c_s_isLatin1 i hi) (fun r w2 h => ?_)
  obtain ⟨rfl, rfl⟩ := h
  refine j_if_eq (pc := 4) hC 16 d_s_charAt_4 (by decide) (fun h => ?_) (fun h => ?_)
  · exact absurd h (by decide)
  · refine j_aloadn0 (pc := 7) hC d_s_charAt_7 ?_
    refine js_value (pc := 8) hC hi d_s_charAt_8 ?_
    refine j_iloadn1 (pc := 11) hC d_s_charAt_11 ?_
    refine j_S2i (pc := 12) hC cw_S_495 (rmD_in (by decide)) (Nat.le_of_ble_eq_true rfl) d_s_charAt_12 (c_t_charAt i j hi hj) (fun r w2 h => ?_)
    obtain ⟨rfl, rfl⟩ := h
    exact j_zret hC (sch_ok i hi j hj).2 d_s_charAt_15 ⟨_, rfl, rfl, rfl⟩
end JDK

