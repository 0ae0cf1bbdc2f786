/-! CONSTRUCTORS: DecimalReader, Model -/
theorem cw_R_9 : jwB R_DecimalReader 9 y_k_init b_k_init 4 none 3 := ⟨by decide +kernel, by decide +kernel, by decide +kernel, ⟨by decide, by decide⟩, by decide +kernel⟩
theorem cw_R_23 : jwB R_DecimalReader 23 y_v_init b_v_init 1 none 0 := ⟨by decide +kernel, by decide +kernel, by decide +kernel, ⟨by decide, by decide⟩, by decide +kernel⟩
theorem im_k : Cond.instanceMethod y_k_init ∈ al_ws := by decide +kernel
theorem im_v : Cond.instanceMethod y_v_init ∈ al_ws := by decide +kernel
theorem im_r : Cond.instanceMethod y_r_init ∈ al_ws := by decide +kernel
theorem nc_k : Cond.classLink R_DecimalReader 7 R_Kind ∈ al_ws ∧ Cond.instantiable R_Kind 7 ∈ al_ws ∧ Cond.initialized R_Kind ∈ al_ws := by decide +kernel
theorem nc_v : Cond.classLink R_DecimalReader 21 R_Value ∈ al_ws ∧ Cond.instantiable R_Value 4 ∈ al_ws ∧ Cond.initialized R_Value ∈ al_ws := by decide +kernel
theorem nc_r : Cond.classLink R_Model 17 R_Row ∈ al_ws ∧ Cond.instantiable R_Row 3 ∈ al_ws ∧ Cond.initialized R_Row ∈ al_ws := by decide +kernel
theorem df_k : ∀ j, j < 7 → defaultValue (t_Kind j) = vp_V [.int 0, .int 0, .int 0, .long 0, .long 0, .long 0, .long 0] j := by decide +kernel
theorem df_v : ∀ j, j < 4 → defaultValue (t_Value j) = vp_V [.null, .null, .int 0, .int 0] j := by decide +kernel
theorem df_r : ∀ j, j < 3 → defaultValue (t_Row j) = vp_V [.null, .int 0, .int 0] j := by decide +kernel
section CI
variable {l : Launch} {D : va_G} {X : jX}
set_option maxHeartbeats 4000000 in
theorem c_init (q : Nat) : jMI l y_init b_init 1 (rmI 4 6 8432) D X [.ref q] [(q, .inr (0, [.null, .null, .null, .null, .int 0, .int 0, .int 0, .int 0, .int 0, .int 0, .int 0, .int 0, .int 0]))] (fun u => ∃ (k1 k2 v d1 d2 t : Nat) (c1 c2 ct : ClassId), u = ([(q, .inr (0, [.ref k1, .ref k2, .ref v, .ref t, .int 0, .int 0, .int 0, .int 0, .int 0, .int 0, .int 0, .int 0, .int 0])), (k1, .inr (1, [.int 53, .int (-1074), .int 971, .long 4503599627370496, .long 9218868437227405312, .long 9221120237041090560, .long (-9223372036854775808)])), (k2, .inr (1, [.int 24, .int (-149), .int 104, .long 8388608, .long 2139095040, .long 2143289344, .long 2147483648])), (v, .inr (2, [.ref d1, .ref d2, .int 0, .int 0])), (t, .inl (ct, 8192, .inl (fun _ => 0))), (d1, .inl (c1, 155, .inl (fun _ => 0))), (d2, .inl (c2, 67, .inl (fun _ => 0)))], [(c1, .int), (c2, .int), (ct, .byte)])) 6 8432 := by
  refine jMI.of [some (.ref q)] (by simp [jle, jent, Value.category]) rfl rfl (Nat.le_of_ble_eq_true rfl) ?_
  intro p e s m args below meth c sz hC hi
  refine k_aloadn0 (pc := 0) hC d_init_0 ?_
  refine k_objI (pc := 1) hC ob_R ob_I ob_C d_init_1 (by decide) (Nat.le_of_ble_eq_true rfl) ?_
  refine k_aloadn0 (pc := 4) hC d_init_4 ?_
  refine k_new (pc := 5) (ci := 1) hC i_Kind t_Kind t_Kind_ok nc_k.1 nc_k.2.1 nc_k.2.2 rfl df_k (Nat.le_of_ble_eq_true rfl) (Nat.le_of_ble_eq_true rfl) d_init_5 (fun k1 => ?_)
  refine k_dup (pc := 8) hC d_init_8 rfl ?_
  refine k_bipush (pc := 9) (v := 53) hC d_init_9 (by decide) ?_
  refine k_sipush (pc := 11) (v := -1074) hC d_init_11 (by decide) ?_
  refine k_sipush (pc := 14) (v := 971) hC d_init_14 (by decide) ?_
  refine k_callI (pc := 17) (As := [.int 53, .int (-1074), .int 971]) _ hC cw_R_9 im_k rfl ⟨rfl, rfl, Nat.le_of_ble_eq_true rfl, Nat.le_of_ble_eq_true rfl⟩ rfl (Nat.le_of_ble_eq_true rfl) d_init_17 (c_k_init_d k1) ⟨Nat.le_of_ble_eq_true rfl, Nat.le_of_ble_eq_true rfl⟩ (fun u hu hC => ?_)
  subst hu
  refine k_putF (pc := 20) (q0 := 0) (ci := 0) hC 0 i_DecimalReader t_DecimalReader t_DecimalReader_ok n_DecimalReader rfl rfl (by decide) ml_R_12 rfl rfl hi (t_DecimalReader_ok 0 (by decide)) rfl rfl (Nat.le_of_ble_eq_true rfl) rfl d_init_20 ?_
  refine k_aloadn0 (pc := 23) hC d_init_23 ?_
  refine k_new (pc := 24) (ci := 1) hC i_Kind t_Kind t_Kind_ok nc_k.1 nc_k.2.1 nc_k.2.2 rfl df_k (Nat.le_of_ble_eq_true rfl) (Nat.le_of_ble_eq_true rfl) d_init_24 (fun k2 => ?_)
  refine k_dup (pc := 27) hC d_init_27 rfl ?_
  refine k_bipush (pc := 28) (v := 24) hC d_init_28 (by decide) ?_
  refine k_sipush (pc := 30) (v := -149) hC d_init_30 (by decide) ?_
  refine k_bipush (pc := 33) (v := 104) hC d_init_33 (by decide) ?_
  refine k_callI (pc := 35) (As := [.int 24, .int (-149), .int 104]) _ hC cw_R_9 im_k rfl ⟨rfl, rfl, Nat.le_of_ble_eq_true rfl, Nat.le_of_ble_eq_true rfl⟩ rfl (Nat.le_of_ble_eq_true rfl) d_init_35 (c_k_init_f k2) ⟨Nat.le_of_ble_eq_true rfl, Nat.le_of_ble_eq_true rfl⟩ (fun u hu hC => ?_)
  subst hu
  refine k_putF (pc := 38) (q0 := 0) (ci := 0) hC 1 i_DecimalReader t_DecimalReader t_DecimalReader_ok n_DecimalReader rfl rfl (by decide) ml_R_18 rfl rfl hi (t_DecimalReader_ok 1 (by decide)) rfl rfl (Nat.le_of_ble_eq_true rfl) rfl d_init_38 ?_
  refine k_aloadn0 (pc := 41) hC d_init_41 ?_
  refine k_new (pc := 42) (ci := 2) hC i_Value t_Value t_Value_ok nc_v.1 nc_v.2.1 nc_v.2.2 rfl df_v (Nat.le_of_ble_eq_true rfl) (Nat.le_of_ble_eq_true rfl) d_init_42 (fun v => ?_)
  refine k_dup (pc := 45) hC d_init_45 rfl ?_
  refine k_callI (pc := 46) (As := []) _ hC cw_R_23 im_v rfl ⟨rfl, rfl, Nat.le_of_ble_eq_true rfl, Nat.le_of_ble_eq_true rfl⟩ rfl (Nat.le_of_ble_eq_true rfl) d_init_46 (c_v_init v) ⟨Nat.le_of_ble_eq_true rfl, Nat.le_of_ble_eq_true rfl⟩ (fun u hu hC => ?_)
  obtain ⟨d1, c1, d2, c2, rfl⟩ := hu
  refine k_putF (pc := 49) (q0 := 0) (ci := 0) hC 2 i_DecimalReader t_DecimalReader t_DecimalReader_ok n_DecimalReader rfl rfl (by decide) (by decide +kernel) rfl rfl hi (t_DecimalReader_ok 2 (by decide)) rfl rfl (Nat.le_of_ble_eq_true rfl) rfl d_init_49 ?_
  refine k_aloadn0 (pc := 52) hC d_init_52 ?_
  refine k_sipush (pc := 53) (v := 8192) hC d_init_53 (by decide) ?_
  refine k_newa (pc := 56) (atype := .byte) (ty := .byte) (N' := 8192) (a0 := (8192, .inl (fun _ => 0))) hC ar_b rfl (fun _ => rfl) (by decide) rfl (by decide) (Nat.le_of_ble_eq_true rfl) (Nat.le_of_ble_eq_true rfl) d_init_56 (fun t ct hC => ?_)
  refine k_putF (pc := 58) (q0 := 0) (ci := 0) hC 3 i_DecimalReader t_DecimalReader t_DecimalReader_ok n_DecimalReader rfl rfl (by decide) (by decide +kernel) rfl rfl hi (t_DecimalReader_ok 3 (by decide)) rfl rfl (Nat.le_of_ble_eq_true rfl) rfl d_init_58 ?_
  refine k_aloadn0 (pc := 61) hC d_init_61 ?_
  refine k_iconst (pc := 62) (v := 0) hC d_init_62 (by decide) ?_
  refine k_put (pc := 63) (q0 := 0) (ci := 0) hC 4 i_DecimalReader t_DecimalReader t_DecimalReader_ok n_DecimalReader rfl rfl (by decide) ml_R_32 rfl rfl (t_DecimalReader_ok 4 (by decide)) rfl rfl (Nat.le_of_ble_eq_true rfl) rfl d_init_63 ?_
  exact k_vretI [0, 1, 2, 3, 6, 4, 5] hC (Nat.le_of_ble_eq_true rfl) (Nat.le_of_ble_eq_true rfl) d_init_66 ⟨k1, k2, v, d1, d2, t, c1, c2, ct, rfl⟩ rfl (by decide) rfl
end CI

