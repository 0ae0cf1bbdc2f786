/-! CONSTRUCTORS: Kind -/
section CKI
variable {l : Launch} {D : va_G} {X : jX}
set_option maxHeartbeats 2000000 in
theorem c_k_init_f (q : Nat) : jMI l y_k_init b_k_init 4 (rmI 2 0 0) D X [.ref q, .int 24, .int (-149), .int 104] [(q, .inr (1, [.int 0, .int 0, .int 0, .long 0, .long 0, .long 0, .long 0]))] (fun u => u = ([(q, .inr (1, [.int 24, .int (-149), .int 104, .long 8388608, .long 2139095040, .long 2143289344, .long 2147483648]))], [])) 0 0 := by
  refine jMI.of [some (.ref q), some (.int 24), some (.int (-149)), some (.int 104)] (by simp [jle, jent, Value.category]) rfl rfl (Nat.le_of_ble_eq_true rfl) ?_
  intro p e s m args below meth c sz hC hi
  refine k_aloadn0 (pc := 0) hC d_k_init_0 ?_
  refine k_objI (pc := 1) hC ob_K ob_I ob_C d_k_init_1 (by decide) (Nat.le_of_ble_eq_true rfl) ?_
  refine k_aloadn0 (pc := 4) hC d_k_init_4 ?_
  refine k_iloadn1 (pc := 5) hC d_k_init_5 ?_
  refine k_putF (pc := 6) (q0 := 0) (ci := 1) hC 0 i_Kind t_Kind t_Kind_ok n_Kind rfl rfl (by decide) ml_K_7 rfl rfl hi (t_Kind_ok 0 (by decide)) rfl rfl (Nat.le_of_ble_eq_true rfl) rfl d_k_init_6 ?_
  refine k_aloadn0 (pc := 9) hC d_k_init_9 ?_
  refine k_iloadn2 (pc := 10) hC d_k_init_10 ?_
  refine k_putF (pc := 11) (q0 := 0) (ci := 1) hC 1 i_Kind t_Kind t_Kind_ok n_Kind rfl rfl (by decide) (by decide +kernel) rfl rfl hi (t_Kind_ok 1 (by decide)) rfl rfl (Nat.le_of_ble_eq_true rfl) rfl d_k_init_11 ?_
  refine k_aloadn0 (pc := 14) hC d_k_init_14 ?_
  refine k_iloadn3 (pc := 15) hC d_k_init_15 ?_
  refine k_putF (pc := 16) (q0 := 0) (ci := 1) hC 2 i_Kind t_Kind t_Kind_ok n_Kind rfl rfl (by decide) (by decide +kernel) rfl rfl hi (t_Kind_ok 2 (by decide)) rfl rfl (Nat.le_of_ble_eq_true rfl) rfl d_k_init_16 ?_
  refine k_aloadn0 (pc := 19) hC d_k_init_19 ?_
  refine k_lconst (pc := 20) (v := 1) hC d_k_init_20 (by decide) ?_
  refine k_iloadn1 (pc := 21) hC d_k_init_21 ?_
  refine k_iconst (pc := 22) (v := 1) hC d_k_init_22 (by decide) ?_
  refine k_isub (pc := 23) hC d_k_init_23 ?_
  refine k_lshl (pc := 24) hC d_k_init_24 ?_
  refine JC.topl (y := 8388608) (by decide +kernel) ?_
  refine k_putF (pc := 25) (q0 := 0) (ci := 1) hC 3 i_Kind t_Kind t_Kind_ok n_Kind rfl rfl (by decide) ml_K_19 rfl rfl hi (t_Kind_ok 3 (by decide)) rfl rfl (Nat.le_of_ble_eq_true rfl) rfl d_k_init_25 ?_
  refine k_aloadn0 (pc := 28) hC d_k_init_28 ?_
  refine k_iloadn3 (pc := 29) hC d_k_init_29 ?_
  refine k_iloadn2 (pc := 30) hC d_k_init_30 ?_
  refine k_isub (pc := 31) hC d_k_init_31 ?_
  refine k_iconst (pc := 32) (v := 2) hC d_k_init_32 (by decide) ?_
  refine k_iadd (pc := 33) hC d_k_init_33 ?_
  refine k_i2l (pc := 34) hC d_k_init_34 ?_
  refine k_aloadn0 (pc := 35) hC d_k_init_35 ?_
  refine k_get (pc := 36) (q0 := 0) (ci := 1) hC 3 i_Kind rfl rfl (by decide) ml_K_19 rfl rfl d_k_init_36 ?_
  refine k_lmul (pc := 39) hC d_k_init_39 ?_
  refine JC.topl (y := 2139095040) (by decide +kernel) ?_
  refine k_putF (pc := 40) (q0 := 0) (ci := 1) hC 4 i_Kind t_Kind t_Kind_ok n_Kind rfl rfl (by decide) (by decide +kernel) rfl rfl hi (t_Kind_ok 4 (by decide)) rfl rfl (Nat.le_of_ble_eq_true rfl) rfl d_k_init_40 ?_
  refine k_aloadn0 (pc := 43) hC d_k_init_43 ?_
  refine k_aloadn0 (pc := 44) hC d_k_init_44 ?_
  refine k_get (pc := 45) (q0 := 0) (ci := 1) hC 4 i_Kind rfl rfl (by decide) (by decide +kernel) rfl rfl d_k_init_45 ?_
  refine k_aloadn0 (pc := 48) hC d_k_init_48 ?_
  refine k_get (pc := 49) (q0 := 0) (ci := 1) hC 3 i_Kind rfl rfl (by decide) ml_K_19 rfl rfl d_k_init_49 ?_
  refine k_ldc2 (pc := 52) (v := 2) hC mk_K_26 d_k_init_52 ?_
  refine k_ldiv (pc := 55) hC d_k_init_55 (by decide) ?_
  refine k_ladd (pc := 56) hC d_k_init_56 ?_
  refine JC.topl (y := 2143289344) (by decide +kernel) ?_
  refine k_putF (pc := 57) (q0 := 0) (ci := 1) hC 5 i_Kind t_Kind t_Kind_ok n_Kind rfl rfl (by decide) (by decide +kernel) rfl rfl hi (t_Kind_ok 5 (by decide)) rfl rfl (Nat.le_of_ble_eq_true rfl) rfl d_k_init_57 ?_
  refine k_aloadn0 (pc := 60) hC d_k_init_60 ?_
  refine k_aloadn0 (pc := 61) hC d_k_init_61 ?_
  refine k_get (pc := 62) (q0 := 0) (ci := 1) hC 4 i_Kind rfl rfl (by decide) (by decide +kernel) rfl rfl d_k_init_62 ?_
  refine k_aloadn0 (pc := 65) hC d_k_init_65 ?_
  refine k_get (pc := 66) (q0 := 0) (ci := 1) hC 3 i_Kind rfl rfl (by decide) ml_K_19 rfl rfl d_k_init_66 ?_
  refine k_ladd (pc := 69) hC d_k_init_69 ?_
  refine JC.topl (y := 2147483648) (by decide +kernel) ?_
  refine k_putF (pc := 70) (q0 := 0) (ci := 1) hC 6 i_Kind t_Kind t_Kind_ok n_Kind rfl rfl (by decide) (by decide +kernel) rfl rfl hi (t_Kind_ok 6 (by decide)) rfl rfl (Nat.le_of_ble_eq_true rfl) rfl d_k_init_70 ?_
  exact k_vretI [0] hC (by decide) (by decide) d_k_init_73 rfl rfl (by decide) rfl
end CKI

