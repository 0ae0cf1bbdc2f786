/-! THE LAW: the words of its calls -/
theorem cw_L_40 : jwV "DecimalReaderLaw" 40 y_m_feed b_m_feed 6 (some .int) 5 := ⟨⟨by decide +kernel, by decide +kernel, by decide +kernel, ⟨by decide, by decide⟩, by decide +kernel⟩, by decide +kernel, by decide +kernel⟩
theorem cw_L_41 : jwV "DecimalReaderLaw" 41 y_m_thrown b_m_thrown 1 (some .int) 0 := ⟨⟨by decide +kernel, by decide +kernel, by decide +kernel, ⟨by decide, by decide⟩, by decide +kernel⟩, by decide +kernel, by decide +kernel⟩
theorem cw_L_47 : jwV "DecimalReaderLaw" 47 y_m_end b_m_end 2 (some .int) 1 := ⟨⟨by decide +kernel, by decide +kernel, by decide +kernel, ⟨by decide, by decide⟩, by decide +kernel⟩, by decide +kernel, by decide +kernel⟩
theorem cw_L_51 : jwV "DecimalReaderLaw" 51 y_m_parse b_m_parse 1 (some .long) 0 := ⟨⟨by decide +kernel, by decide +kernel, by decide +kernel, ⟨by decide, by decide⟩, by decide +kernel⟩, by decide +kernel, by decide +kernel⟩
theorem cw_L_54 : jwV "DecimalReaderLaw" 54 y_m_parseFloat b_m_parseFloat 1 (some .int) 0 := ⟨⟨by decide +kernel, by decide +kernel, by decide +kernel, ⟨by decide, by decide⟩, by decide +kernel⟩, by decide +kernel, by decide +kernel⟩
/-- the words of a helper's call -/
def jwH (idx : Nat) (y : MethodName) (bytes : ByteArray) (maxL : Nat) (hh : List (Nat × Nat × Nat × Nat)) (n : Nat) : Prop := Cond.codeWith y bytes maxL (some .int) hh ∈ al_ws ∧ Cond.initialized y.cls ∈ al_ws ∧ Cond.methodLink "DecimalReaderLaw" idx y ∈ al_ws ∧ Cond.static y ∈ al_ws ∧ (y.cls ≠ "java/lang/invoke/MethodHandle" ∧ y.cls ≠ "java/lang/invoke/VarHandle") ∧ (parseMethodDescriptor y.desc).map (fun d => d.parameters.length) = some n
theorem cw_L_35 : jwH 35 y_l_feed b_l_feed 8 [(0, 16, 19, 13)] 7 := ⟨by decide +kernel, by decide +kernel, by decide +kernel, by decide +kernel, ⟨by decide, by decide⟩, by decide +kernel⟩
theorem cw_L_44 : jwH 44 y_l_end b_l_end 4 [(0, 9, 12, 19)] 3 := ⟨by decide +kernel, by decide +kernel, by decide +kernel, by decide +kernel, ⟨by decide, by decide⟩, by decide +kernel⟩
theorem cw_L_48 : jwH 48 y_l_parse b_l_parse 3 [(0, 7, 10, 25)] 2 := ⟨by decide +kernel, by decide +kernel, by decide +kernel, by decide +kernel, ⟨by decide, by decide⟩, by decide +kernel⟩
theorem cw_L_52 : jwH 52 y_l_parseFloat b_l_parseFloat 3 [(0, 8, 11, 25)] 2 := ⟨by decide +kernel, by decide +kernel, by decide +kernel, by decide +kernel, ⟨by decide, by decide⟩, by decide +kernel⟩
theorem cw_L_31 : jwB "DecimalReaderLaw" 31 y_init b_init 1 none 0 := ⟨by decide +kernel, by decide +kernel, by decide +kernel, ⟨by decide, by decide⟩, by decide +kernel⟩
theorem cw_L_34 : jwB "DecimalReaderLaw" 34 y_m_init b_m_init 1 none 0 := ⟨by decide +kernel, by decide +kernel, by decide +kernel, ⟨by decide, by decide⟩, by decide +kernel⟩
theorem im_d : Cond.instanceMethod y_init ∈ al_ws := by decide +kernel
theorem im_m : Cond.instanceMethod y_m_init ∈ al_ws := by decide +kernel
theorem nc_d : Cond.classLink "DecimalReaderLaw" 8 R_DecimalReader ∈ al_ws ∧ Cond.instantiable R_DecimalReader 13 ∈ al_ws ∧ Cond.initialized R_DecimalReader ∈ al_ws := by decide +kernel
theorem nc_m : Cond.classLink "DecimalReaderLaw" 32 R_Model ∈ al_ws ∧ Cond.instantiable R_Model 14 ∈ al_ws ∧ Cond.initialized R_Model ∈ al_ws := by decide +kernel
theorem df_d : ∀ j, j < 13 → defaultValue (t_DecimalReader j) = vp_V [.null, .null, .null, .null, .int 0, .int 0, .int 0, .int 0, .int 0, .int 0, .int 0, .int 0, .int 0] j := by decide +kernel
theorem df_m : ∀ j, j < 14 → defaultValue (t_Model j) = vp_V [.null, .int 0, .int 0, .int 0, .int 0, .null, .int 0, .null, .null, .null, .int 0, .long 0, .int 0, .int 0] j := by decide +kernel
section LP
variable {p : Program} {l : Launch} {e : Env} {R : Room} {s : State} {m : MethodId} {args : Array Value} {below : List Frame} {meth : Method} {c : Code} {D : va_G} {A : Nat → Prop} {nL : Nat} {Q : State → Prop} {pc : Nat} {L : List (Option Value)} {S : List Value} {w : va_W} {kc ks : Nat}
/-- the world in another order -/
theorem JC.perm {w' : va_W} (is : List Nat) (h1 : is.filterMap (fun i => w[i]?) = w') (h2 : va_nd is = true) (h3 : is.map (fun i => w[i]?) = w'.map some) (k : JC p l e R s m args below meth c D A nL Q kc ks pc L S w') : JC p l e R s m args below meth c D A nL Q kc ks pc L S w := fun H locs ls hl hP hD hS => k H locs ls hl (hP.sub is h1) (hD.sub is h2 h3) hS
theorem JC.more {kc' ks' : Nat} (h1 : kc ≤ kc') (h2 : ks ≤ ks') (k : JC p l e R s m args below meth c D A nL Q kc' ks' pc L S w) : JC p l e R s m args below meth c D A nL Q kc ks pc L S w := fun H locs ls hl hP hD hS => W.widen h1 h2 (k H locs ls hl hP hD hS)
end LP
theorem no_traces {l : Launch} (hf : l.flags = flags0) : l.stackTraces = false := by
  unfold Launch.stackTraces
  rw [hf]
  decide
theorem d_l_law_39 : decode b_l_law 39 = .ok (.tableswitch 276 0 3 #[29, 133, 189, 232], 29) := by decide +kernel
