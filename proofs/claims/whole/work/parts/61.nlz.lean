/-! THE JDK: numberOfLeadingZeros -/
abbrev b_i_nlz : ByteArray := prog_10_method_47_code
def y_i_nlz : MethodName := ⟨"java/lang/Integer", "numberOfLeadingZeros", "(I)I"⟩
abbrev b_n_nlz : ByteArray := prog_11_method_48_code
def y_n_nlz : MethodName := ⟨"java/lang/Long", "numberOfLeadingZeros", "(J)I"⟩
theorem d_i_nlz_0 : decode b_i_nlz 0 = .ok (.iload_n 0, 1) := by decide +kernel
theorem d_i_nlz_1 : decode b_i_nlz 1 = .ok (.ifCond .gt 14, 3) := by decide +kernel
theorem d_i_nlz_4 : decode b_i_nlz 4 = .ok (.iload_n 0, 1) := by decide +kernel
theorem d_i_nlz_5 : decode b_i_nlz 5 = .ok (.ifCond .ne 8, 3) := by decide +kernel
theorem d_i_nlz_8 : decode b_i_nlz 8 = .ok (.bipush 32, 2) := by decide +kernel
theorem d_i_nlz_10 : decode b_i_nlz 10 = .ok (.goto 4, 3) := by decide +kernel
theorem d_i_nlz_13 : decode b_i_nlz 13 = .ok (.iconst 0, 1) := by decide +kernel
theorem d_i_nlz_14 : decode b_i_nlz 14 = .ok (.ireturn, 1) := by decide +kernel
theorem d_i_nlz_15 : decode b_i_nlz 15 = .ok (.bipush 31, 2) := by decide +kernel
theorem d_i_nlz_17 : decode b_i_nlz 17 = .ok (.istore_n 1, 1) := by decide +kernel
theorem d_i_nlz_18 : decode b_i_nlz 18 = .ok (.iload_n 0, 1) := by decide +kernel
theorem d_i_nlz_19 : decode b_i_nlz 19 = .ok (.ldc_w 264, 3) := by decide +kernel
theorem d_i_nlz_22 : decode b_i_nlz 22 = .ok (.if_icmp .lt 11, 3) := by decide +kernel
theorem d_i_nlz_25 : decode b_i_nlz 25 = .ok (.iinc 1 (-16), 3) := by decide +kernel
theorem d_i_nlz_28 : decode b_i_nlz 28 = .ok (.iload_n 0, 1) := by decide +kernel
theorem d_i_nlz_29 : decode b_i_nlz 29 = .ok (.bipush 16, 2) := by decide +kernel
theorem d_i_nlz_31 : decode b_i_nlz 31 = .ok (.iushr, 1) := by decide +kernel
theorem d_i_nlz_32 : decode b_i_nlz 32 = .ok (.istore_n 0, 1) := by decide +kernel
theorem d_i_nlz_33 : decode b_i_nlz 33 = .ok (.iload_n 0, 1) := by decide +kernel
theorem d_i_nlz_34 : decode b_i_nlz 34 = .ok (.sipush 256, 3) := by decide +kernel
theorem d_i_nlz_37 : decode b_i_nlz 37 = .ok (.if_icmp .lt 11, 3) := by decide +kernel
theorem d_i_nlz_40 : decode b_i_nlz 40 = .ok (.iinc 1 (-8), 3) := by decide +kernel
theorem d_i_nlz_43 : decode b_i_nlz 43 = .ok (.iload_n 0, 1) := by decide +kernel
theorem d_i_nlz_44 : decode b_i_nlz 44 = .ok (.bipush 8, 2) := by decide +kernel
theorem d_i_nlz_46 : decode b_i_nlz 46 = .ok (.iushr, 1) := by decide +kernel
theorem d_i_nlz_47 : decode b_i_nlz 47 = .ok (.istore_n 0, 1) := by decide +kernel
theorem d_i_nlz_48 : decode b_i_nlz 48 = .ok (.iload_n 0, 1) := by decide +kernel
theorem d_i_nlz_49 : decode b_i_nlz 49 = .ok (.bipush 16, 2) := by decide +kernel
theorem d_i_nlz_51 : decode b_i_nlz 51 = .ok (.if_icmp .lt 10, 3) := by decide +kernel
theorem d_i_nlz_54 : decode b_i_nlz 54 = .ok (.iinc 1 (-4), 3) := by decide +kernel
theorem d_i_nlz_57 : decode b_i_nlz 57 = .ok (.iload_n 0, 1) := by decide +kernel
theorem d_i_nlz_58 : decode b_i_nlz 58 = .ok (.iconst 4, 1) := by decide +kernel
theorem d_i_nlz_59 : decode b_i_nlz 59 = .ok (.iushr, 1) := by decide +kernel
theorem d_i_nlz_60 : decode b_i_nlz 60 = .ok (.istore_n 0, 1) := by decide +kernel
theorem d_i_nlz_61 : decode b_i_nlz 61 = .ok (.iload_n 0, 1) := by decide +kernel
theorem d_i_nlz_62 : decode b_i_nlz 62 = .ok (.iconst 4, 1) := by decide +kernel
theorem d_i_nlz_63 : decode b_i_nlz 63 = .ok (.if_icmp .lt 10, 3) := by decide +kernel
theorem d_i_nlz_66 : decode b_i_nlz 66 = .ok (.iinc 1 (-2), 3) := by decide +kernel
theorem d_i_nlz_69 : decode b_i_nlz 69 = .ok (.iload_n 0, 1) := by decide +kernel
theorem d_i_nlz_70 : decode b_i_nlz 70 = .ok (.iconst 2, 1) := by decide +kernel
theorem d_i_nlz_71 : decode b_i_nlz 71 = .ok (.iushr, 1) := by decide +kernel
theorem d_i_nlz_72 : decode b_i_nlz 72 = .ok (.istore_n 0, 1) := by decide +kernel
theorem d_i_nlz_73 : decode b_i_nlz 73 = .ok (.iload_n 1, 1) := by decide +kernel
theorem d_i_nlz_74 : decode b_i_nlz 74 = .ok (.iload_n 0, 1) := by decide +kernel
theorem d_i_nlz_75 : decode b_i_nlz 75 = .ok (.iconst 1, 1) := by decide +kernel
theorem d_i_nlz_76 : decode b_i_nlz 76 = .ok (.iushr, 1) := by decide +kernel
theorem d_i_nlz_77 : decode b_i_nlz 77 = .ok (.isub, 1) := by decide +kernel
theorem d_i_nlz_78 : decode b_i_nlz 78 = .ok (.ireturn, 1) := by decide +kernel
theorem d_n_nlz_0 : decode b_n_nlz 0 = .ok (.lload_n 0, 1) := by decide +kernel
theorem d_n_nlz_1 : decode b_n_nlz 1 = .ok (.bipush 32, 2) := by decide +kernel
theorem d_n_nlz_3 : decode b_n_nlz 3 = .ok (.lushr, 1) := by decide +kernel
theorem d_n_nlz_4 : decode b_n_nlz 4 = .ok (.l2i, 1) := by decide +kernel
theorem d_n_nlz_5 : decode b_n_nlz 5 = .ok (.istore_n 2, 1) := by decide +kernel
theorem d_n_nlz_6 : decode b_n_nlz 6 = .ok (.iload_n 2, 1) := by decide +kernel
theorem d_n_nlz_7 : decode b_n_nlz 7 = .ok (.ifCond .ne 14, 3) := by decide +kernel
theorem d_n_nlz_10 : decode b_n_nlz 10 = .ok (.bipush 32, 2) := by decide +kernel
theorem d_n_nlz_12 : decode b_n_nlz 12 = .ok (.lload_n 0, 1) := by decide +kernel
theorem d_n_nlz_13 : decode b_n_nlz 13 = .ok (.l2i, 1) := by decide +kernel
theorem d_n_nlz_14 : decode b_n_nlz 14 = .ok (.invokestatic 308, 3) := by decide +kernel
theorem d_n_nlz_17 : decode b_n_nlz 17 = .ok (.iadd, 1) := by decide +kernel
theorem d_n_nlz_18 : decode b_n_nlz 18 = .ok (.goto 7, 3) := by decide +kernel
theorem d_n_nlz_21 : decode b_n_nlz 21 = .ok (.iload_n 2, 1) := by decide +kernel
theorem d_n_nlz_22 : decode b_n_nlz 22 = .ok (.invokestatic 308, 3) := by decide +kernel
theorem d_n_nlz_25 : decode b_n_nlz 25 = .ok (.ireturn, 1) := by decide +kernel
theorem mk_I_264 : Cond.constant "java/lang/Integer" 264 65536 ∈ al_ws := by decide +kernel
theorem cw_N_308 : jwS "java/lang/Long" 308 y_i_nlz b_i_nlz 2 (some .int) 1 := ⟨⟨by decide +kernel, by decide +kernel, by decide +kernel, ⟨by decide, by decide⟩, by decide +kernel⟩, by decide +kernel⟩
theorem cw_M_190 : jwS R_Model 190 y_n_nlz b_n_nlz 3 (some .int) 1 := ⟨⟨by decide +kernel, by decide +kernel, by decide +kernel, ⟨by decide, by decide⟩, by decide +kernel⟩, by decide +kernel⟩
/-- v has nb bits -/
def nbR (v nb : Nat) : Prop := v < 2 ^ nb ∧ (0 < nb → 2 ^ (nb - 1) ≤ v)
theorem nI_neg {v : Nat} (h1 : 2147483648 ≤ v) (h2 : v < 4294967296) : nI v < 0 := by
  rw [i32lt]
  show (Int32.ofNat v).toInt < 0
  rw [Int32.toInt_ofNat']
  unfold Int.bmod
  have e : ((Int32.size : Nat) : Int) = 4294967296 := rfl
  rw [e, show (v : Int) % 4294967296 = v by omega]
  show (if (v : Int) < (4294967296 + 1) / 2 then (v : Int) else v - 4294967296) < 0
  rw [if_neg (by omega)]
  omega
theorem i_mk (x : Int32) (k : Int32) : x + -k = x - k := by rw [Int32.sub_eq_add_neg]
theorem shr32 {v k : Nat} (hv : v < 4294967296) (hk : k < 32) : ((nI v).toUInt32 >>> ((nI k).toUInt32 &&& Int32.toUInt32 31)).toInt32 = nI (v / 2 ^ k) := pk_ushrN hv (nI k) k (su32 k hk)
section NL
variable {l : Launch} {D : va_G} {X : jX} {w : va_W} {tys : List (ClassId × FieldType)}
section LW
variable {p : Program} {e : Env} {R : Room} {s : State} {m : MethodId} {args : Array Value} {below : List Frame} {meth : Method} {c : Code} {A : Nat → Prop} {nL : Nat} {Q : State → Prop} {pc : Nat} {L : List (Option Value)} {S : List Value} {cc : ByteArray} {ret : Option FieldType} {own : String}
theorem j_ldcw (hC : jC p s m args meth c cc nL ret own D tys A X) {index : Nat} {v : Int32} (hc : Cond.constant own index v ∈ al_ws) (hd : decode cc pc = .ok (.ldc_w index, 3)) (k : J p l e R s m args below meth c D A nL Q (pc + 3) L (.int v :: S) w) : J p l e R s m args below meth c D A nL Q pc L S w := fun H locs ls hl hP hD hS => lv_ldcw hC.1 hC.2.1 hC.2.2.2.1 (hC.2.2.2.2.1 _ hc) hd (k H locs ls hl hP hD hS)
end LW
set_option maxHeartbeats 1000000 in
theorem c_i_nlz (v : Nat) (hv : v < 4294967296) : jM l y_i_nlz b_i_nlz 2 (some .int) (rmD 0) D tys X [.int (nI v)] w (jPi fun r w2 => (∃ nb, nb ≤ 32 ∧ nbR v nb ∧ r = nI (32 - nb)) ∧ w2 = w) := by
  refine jM.ofF [some (.int (nI v)), none] (by simp [jle, jent, Value.category]) rfl (Nat.le_of_ble_eq_true rfl) ?_
  intro p e s m args below meth c sz hC
  refine j_iloadn0 (pc := 0) hC d_i_nlz_0 ?_
  refine j_if_gt (pc := 1) hC 15 d_i_nlz_1 (by decide) (fun h1 => ?_) (fun h1 => ?_)
  · have hv31 : v < 2147483648 := by
      rcases Nat.lt_or_ge v 2147483648 with y | y
      · exact y
      · have h2 := nI_neg y hv
        rw [i32lt] at h1 h2
        omega
    have hv0 : 0 < v := by
      rcases Nat.eq_zero_or_pos v with y | y
      · rw [y] at h1
        exact absurd h1 (by decide)
      · exact y
    have last : ∀ k y : Nat, k ≤ 30 → y = v / 2 ^ k → y < 4 → 0 < y → J p l e (rmD 0) s m args below meth c D (va_A w sz) 2 (MQ below (jQ D w sz (jPi fun r w2 => (∃ nb, nb ≤ 32 ∧ nbR v nb ∧ r = nI (32 - nb)) ∧ w2 = w)) args s 0 0 (va_A w sz)) 73 [some (.int (nI y)), some (.int (nI (31 - k)))] [] w := by
      intro k y hk hy h4 h0
      refine j_iloadn1 (pc := 73) hC d_i_nlz_73 ?_
      refine j_iloadn0 (pc := 74) hC d_i_nlz_74 ?_
      refine j_iconst (pc := 75) (v := 1) hC d_i_nlz_75 (by decide) ?_
      refine j_iushr (pc := 76) hC d_i_nlz_76 ?_
      refine J.topi (shr32 (k := 1) (by omega) (by omega)) ?_
      refine j_isub (pc := 77) hC d_i_nlz_77 ?_
      have hd := Nat.div_add_mod v (2 ^ k)
      have hm := Nat.mod_lt v (Nat.two_pow_pos k)
      rw [← hy] at hd
      have hp1 : 2 ^ (k + 1) = 2 ^ k * 2 := Nat.pow_succ 2 k
      have hp2 : 2 ^ (k + 2) = 2 ^ (k + 1) * 2 := Nat.pow_succ 2 (k + 1)
      have hmul : 2 ^ k * y = y * 2 ^ k := Nat.mul_comm _ _
      rcases (show y = 1 ∨ y = 2 ∨ y = 3 by omega) with h | h | h
      · subst h
        refine j_iret hC d_i_nlz_78 ⟨_, rfl, ⟨k + 1, by omega, ⟨by omega, fun _ => ?_⟩, ?_⟩, rfl⟩
        · rw [Nat.add_sub_cancel]; omega
        · rw [pk_sub (by omega)]
          congr 1
          omega
      · subst h
        refine j_iret hC d_i_nlz_78 ⟨_, rfl, ⟨k + 2, by omega, ⟨by omega, fun _ => ?_⟩, ?_⟩, rfl⟩
        · rw [show k + 2 - 1 = k + 1 by omega]; omega
        · rw [pk_sub (by omega)]
          congr 1
          omega
      · subst h
        refine j_iret hC d_i_nlz_78 ⟨_, rfl, ⟨k + 2, by omega, ⟨by omega, fun _ => ?_⟩, ?_⟩, rfl⟩
        · rw [show k + 2 - 1 = k + 1 by omega]; omega
        · rw [pk_sub (by omega)]
          congr 1
          omega
    have dv : ∀ k j y : Nat, y = v / 2 ^ k → y / 2 ^ j = v / 2 ^ (k + j) := by
      intro k j y hy
      rw [hy, Nat.div_div_eq_div_mul, Nat.pow_add]
    have k61 : ∀ k y : Nat, k ≤ 28 → y = v / 2 ^ k → y < 16 → 0 < y → J p l e (rmD 0) s m args below meth c D (va_A w sz) 2 (MQ below (jQ D w sz (jPi fun r w2 => (∃ nb, nb ≤ 32 ∧ nbR v nb ∧ r = nI (32 - nb)) ∧ w2 = w)) args s 0 0 (va_A w sz)) 61 [some (.int (nI y)), some (.int (nI (31 - k)))] [] w := by
      intro k y hk hy h4 h0
      refine j_iloadn0 (pc := 61) hC d_i_nlz_61 ?_
      refine j_iconst (pc := 62) (v := 4) hC d_i_nlz_62 (by decide) ?_
      refine j_icmp_lt (pc := 63) hC 73 d_i_nlz_63 (by decide) (fun h2 => ?_) (fun h2 => ?_)
      · have h2 := (nI_ltI (b := 4) (by omega) (by omega)).mp h2
        exact last k y (by omega) hy h2 h0
      · have h2 : ¬ y < 4 := fun q => h2 ((nI_ltI (b := 4) (by omega) (by omega)).mpr q)
        refine j_iinc1 (pc := 66) hC d_i_nlz_66 (by decide) (by first | exact trivial | exact rfl) ?_
        refine j_iloadn0 (pc := 69) hC d_i_nlz_69 ?_
        refine j_iconst (pc := 70) (v := 2) hC d_i_nlz_70 (by decide) ?_
        refine j_iushr (pc := 71) hC d_i_nlz_71 ?_
        refine J.topi (shr32 (k := 2) (by omega) (by omega)) ?_
        refine j_istoren0 (pc := 72) hC d_i_nlz_72 (by decide) (by first | exact trivial | exact rfl) ?_
        refine J.to rfl ?_ rfl rfl (last (k + 2) (y / 2 ^ 2) (by omega) (dv k 2 y hy) (by omega) (by omega))
        rw [show 31 - (k + 2) = 31 - k - 2 by omega, ← pk_sub (by omega), ← i_mk]
        rfl
    have k48 : ∀ k y : Nat, k ≤ 24 → y = v / 2 ^ k → y < 256 → 0 < y → J p l e (rmD 0) s m args below meth c D (va_A w sz) 2 (MQ below (jQ D w sz (jPi fun r w2 => (∃ nb, nb ≤ 32 ∧ nbR v nb ∧ r = nI (32 - nb)) ∧ w2 = w)) args s 0 0 (va_A w sz)) 48 [some (.int (nI y)), some (.int (nI (31 - k)))] [] w := by
      intro k y hk hy h4 h0
      refine j_iloadn0 (pc := 48) hC d_i_nlz_48 ?_
      refine j_bipush (pc := 49) (v := 16) hC d_i_nlz_49 (by decide) ?_
      refine j_icmp_lt (pc := 51) hC 61 d_i_nlz_51 (by decide) (fun h2 => ?_) (fun h2 => ?_)
      · have h2 := (nI_ltI (b := 16) (by omega) (by omega)).mp h2
        exact k61 k y (by omega) hy h2 h0
      · have h2 : ¬ y < 16 := fun q => h2 ((nI_ltI (b := 16) (by omega) (by omega)).mpr q)
        refine j_iinc1 (pc := 54) hC d_i_nlz_54 (by decide) (by first | exact trivial | exact rfl) ?_
        refine j_iloadn0 (pc := 57) hC d_i_nlz_57 ?_
        refine j_iconst (pc := 58) (v := 4) hC d_i_nlz_58 (by decide) ?_
        refine j_iushr (pc := 59) hC d_i_nlz_59 ?_
        refine J.topi (shr32 (k := 4) (by omega) (by omega)) ?_
        refine j_istoren0 (pc := 60) hC d_i_nlz_60 (by decide) (by first | exact trivial | exact rfl) ?_
        refine J.to rfl ?_ rfl rfl (k61 (k + 4) (y / 2 ^ 4) (by omega) (dv k 4 y hy) (by omega) (by omega))
        rw [show 31 - (k + 4) = 31 - k - 4 by omega, ← pk_sub (by omega), ← i_mk]
        rfl
    have k33 : ∀ k y : Nat, k ≤ 16 → y = v / 2 ^ k → y < 65536 → 0 < y → J p l e (rmD 0) s m args below meth c D (va_A w sz) 2 (MQ below (jQ D w sz (jPi fun r w2 => (∃ nb, nb ≤ 32 ∧ nbR v nb ∧ r = nI (32 - nb)) ∧ w2 = w)) args s 0 0 (va_A w sz)) 33 [some (.int (nI y)), some (.int (nI (31 - k)))] [] w := by
      intro k y hk hy h4 h0
      refine j_iloadn0 (pc := 33) hC d_i_nlz_33 ?_
      refine j_sipush (pc := 34) (v := 256) hC d_i_nlz_34 (by decide) ?_
      refine j_icmp_lt (pc := 37) hC 48 d_i_nlz_37 (by decide) (fun h2 => ?_) (fun h2 => ?_)
      · have h2 := (nI_ltI (b := 256) (by omega) (by omega)).mp h2
        exact k48 k y (by omega) hy h2 h0
      · have h2 : ¬ y < 256 := fun q => h2 ((nI_ltI (b := 256) (by omega) (by omega)).mpr q)
        refine j_iinc1 (pc := 40) hC d_i_nlz_40 (by decide) (by first | exact trivial | exact rfl) ?_
        refine j_iloadn0 (pc := 43) hC d_i_nlz_43 ?_
        refine j_bipush (pc := 44) (v := 8) hC d_i_nlz_44 (by decide) ?_
        refine j_iushr (pc := 46) hC d_i_nlz_46 ?_
        refine J.topi (shr32 (k := 8) (by omega) (by omega)) ?_
        refine j_istoren0 (pc := 47) hC d_i_nlz_47 (by decide) (by first | exact trivial | exact rfl) ?_
        refine J.to rfl ?_ rfl rfl (k48 (k + 8) (y / 2 ^ 8) (by omega) (dv k 8 y hy) (by omega) (by omega))
        rw [show 31 - (k + 8) = 31 - k - 8 by omega, ← pk_sub (by omega), ← i_mk]
        rfl
    refine j_bipush (pc := 15) (v := 31) hC d_i_nlz_15 (by decide) ?_
    refine j_istoren1 (pc := 17) hC d_i_nlz_17 (by decide) (by first | exact trivial | exact rfl) ?_
    refine j_iloadn0 (pc := 18) hC d_i_nlz_18 ?_
    refine j_ldcw (pc := 19) (v := 65536) hC mk_I_264 d_i_nlz_19 ?_
    refine j_icmp_lt (pc := 22) hC 33 d_i_nlz_22 (by decide) (fun h2 => ?_) (fun h2 => ?_)
    · have h2 := (nI_ltI (b := 65536) (by omega) (by omega)).mp h2
      exact k33 0 v (by omega) (by rw [Nat.pow_zero, Nat.div_one]) h2 hv0
    · have h2 : ¬ v < 65536 := fun q => h2 ((nI_ltI (b := 65536) (by omega) (by omega)).mpr q)
      refine j_iinc1 (pc := 25) hC d_i_nlz_25 (by decide) (by first | exact trivial | exact rfl) ?_
      refine j_iloadn0 (pc := 28) hC d_i_nlz_28 ?_
      refine j_bipush (pc := 29) (v := 16) hC d_i_nlz_29 (by decide) ?_
      refine j_iushr (pc := 31) hC d_i_nlz_31 ?_
      refine J.topi (shr32 (k := 16) (by omega) (by omega)) ?_
      refine j_istoren0 (pc := 32) hC d_i_nlz_32 (by decide) (by first | exact trivial | exact rfl) ?_
      exact k33 16 (v / 2 ^ 16) (by omega) rfl (by omega) (by omega)
  · refine j_iloadn0 (pc := 4) hC d_i_nlz_4 ?_
    refine j_if_ne (pc := 5) hC 13 d_i_nlz_5 (by decide) (fun h2 => ?_) (fun h2 => ?_)
    · have hv31 : 2147483648 ≤ v := by
        rcases Nat.lt_or_ge v 2147483648 with y | y
        · have : 0 < v := Nat.pos_of_ne_zero (fun q => h2 (by rw [q]; rfl))
          exact absurd ((nI_ltI (a := 0) (by omega) (by omega)).mpr this) h1
        · exact y
      refine j_iconst (pc := 13) (v := 0) hC d_i_nlz_13 (by decide) ?_
      exact j_iret hC d_i_nlz_14 ⟨_, rfl, ⟨32, by omega, ⟨hv, fun _ => hv31⟩, rfl⟩, rfl⟩
    · have hv0 : v = 0 := by
        rcases Nat.lt_or_ge v 2147483648 with y | y
        · exact (nI_eq (b := 0) (by omega) (by omega)).mp h2
        · have h3 := nI_neg y hv
          rw [h2] at h3
          exact absurd h3 (by decide)
      refine j_bipush (pc := 8) (v := 32) hC d_i_nlz_8 (by decide) ?_
      refine j_goto (pc := 10) hC 14 d_i_nlz_10 (by decide) ?_
      exact j_iret hC d_i_nlz_14 ⟨_, rfl, ⟨0, by omega, ⟨by rw [hv0]; decide, fun q => absurd q (by decide)⟩, rfl⟩, rfl⟩
set_option maxHeartbeats 1000000 in
theorem c_n_nlz (v : Nat) (hv : v < 2 ^ 62) : jM l y_n_nlz b_n_nlz 3 (some .int) (rmD 1) D tys X [.long (lN v)] w (jPi fun r w2 => (∃ nb, nb ≤ 64 ∧ nbR v nb ∧ r = nI (64 - nb)) ∧ w2 = w) := by
  refine jM.ofF [some (.long (lN v)), none, none] (by simp [jle, jent, Value.category]) rfl (Nat.le_of_ble_eq_true rfl) ?_
  intro p e s m args below meth c sz hC
  refine j_lloadn0 (pc := 0) hC d_n_nlz_0 ?_
  refine j_bipush (pc := 1) (v := 32) hC d_n_nlz_1 (by decide) ?_
  refine j_lushr (pc := 3) hC d_n_nlz_3 ?_
  refine J.topl (wb_shr (k := 32) (by omega) (by omega)) ?_
  refine j_l2i (pc := 4) hC d_n_nlz_4 ?_
  refine J.topi (lN_i _) ?_
  have hp : (2 : Nat) ^ 32 = 4294967296 := rfl
  refine j_istoren2 (pc := 5) hC d_n_nlz_5 (by decide) (by first | exact trivial | exact rfl) ?_
  refine j_iloadn2 (pc := 6) hC d_n_nlz_6 ?_
  refine j_if_ne (pc := 7) hC 21 d_n_nlz_7 (by decide) (fun h1 => ?_) (fun h1 => ?_)
  · have h0 : 0 < v / 2 ^ 32 := Nat.pos_of_ne_zero (fun q => h1 (by rw [q]; rfl))
    refine j_iloadn2 (pc := 21) hC d_n_nlz_21 ?_
    refine j_S1i (pc := 22) hC cw_N_308 (rmD_in (by decide)) (Nat.le_of_ble_eq_true rfl) d_n_nlz_22 (c_i_nlz (v / 2 ^ 32) (by omega)) (fun r w2 h2 => ?_)
    obtain ⟨⟨nb, hb1, hb2, rfl⟩, rfl⟩ := h2
    have hnb : 0 < nb := by
      rcases Nat.eq_zero_or_pos nb with q | q
      · have := hb2.1
        rw [q, Nat.pow_zero] at this
        omega
      · exact q
    refine j_iret hC d_n_nlz_25 ⟨_, rfl, ⟨nb + 32, by omega, ⟨?_, fun _ => ?_⟩, by congr 1; omega⟩, rfl⟩
    · rw [Nat.pow_add, ← Nat.div_lt_iff_lt_mul (Nat.two_pow_pos 32)]
      exact hb2.1
    · rw [show nb + 32 - 1 = nb - 1 + 32 by omega, Nat.pow_add, ← Nat.le_div_iff_mul_le (Nat.two_pow_pos 32)]
      exact hb2.2 hnb
  · have h0 : v / 2 ^ 32 = 0 := (nI_eq (b := 0) (by omega) (by omega)).mp h1
    refine j_bipush (pc := 10) (v := 32) hC d_n_nlz_10 (by decide) ?_
    refine j_lloadn0 (pc := 12) hC d_n_nlz_12 ?_
    refine j_l2i (pc := 13) hC d_n_nlz_13 ?_
    refine J.topi (lN_i _) ?_
    refine j_S1i (pc := 14) hC cw_N_308 (rmD_in (by decide)) (Nat.le_of_ble_eq_true rfl) d_n_nlz_14 (c_i_nlz v (by omega)) (fun r w2 h2 => ?_)
    obtain ⟨⟨nb, hb1, hb2, rfl⟩, rfl⟩ := h2
    refine j_iadd (pc := 17) hC d_n_nlz_17 ?_
    refine j_goto (pc := 18) hC 25 d_n_nlz_18 (by decide) ?_
    refine j_iret hC d_n_nlz_25 ⟨_, rfl, ⟨nb, by omega, hb2, ?_⟩, rfl⟩
    rw [show (32 : Int32) = nI 32 from rfl, nI_add]
    congr 1
    omega
end NL

