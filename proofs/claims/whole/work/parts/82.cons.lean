/-! CONSTRUCTORS: Row, Value -/
def rmI (d mc ms : Nat) : Room := { frames := d, cells := mc, slots := ms, locals := 40 * d }
theorem ob_I : Cond.instanceMethod Lib.objectInit ∈ al_ws := by decide +kernel
theorem ob_C : Cond.code Lib.objectInit { data := #[177] } 1 none ∈ al_ws := by decide +kernel
theorem ob_W : Cond.methodLink R_Row 1 Lib.objectInit ∈ al_ws := by decide +kernel
theorem ob_V : Cond.methodLink R_Value 3 Lib.objectInit ∈ al_ws := by decide +kernel
theorem ob_K : Cond.methodLink R_Kind 1 Lib.objectInit ∈ al_ws := by decide +kernel
theorem ob_R : Cond.methodLink R_DecimalReader 1 Lib.objectInit ∈ al_ws := by decide +kernel
theorem ob_M : Cond.methodLink R_Model 1 Lib.objectInit ∈ al_ws := by decide +kernel
theorem ar_b : Cond.arrayClass .byte ∈ al_ws := by decide +kernel
theorem ar_i : Cond.arrayClass .int ∈ al_ws := by decide +kernel
theorem ar_l : Cond.arrayClass .long ∈ al_ws := by decide +kernel
section CN
variable {l : Launch} {D : va_G} {X : jX}
set_option maxHeartbeats 2000000 in
theorem c_r_init (q : Nat) : jMI l y_r_init b_r_init 1 (rmI 2 1 1300) D X [.ref q] [(q, .inr (4, [.null, .int 0, .int 0]))] (fun u => ∃ (d : Nat) (cA : ClassId), u = ([(q, .inr (4, [.ref d, .int 0, .int 0])), (d, .inl (cA, 1300, .inl (fun _ => 0)))], [(cA, .byte)])) 1 1300 := by
  refine jMI.of [some (.ref q)] (by simp [jle, jent, Value.category]) rfl rfl (Nat.le_of_ble_eq_true rfl) ?_
  intro p e s m args below meth c sz hC hi
  refine k_aloadn0 (pc := 0) hC d_r_init_0 ?_
  refine k_objI (pc := 1) hC ob_W ob_I ob_C d_r_init_1 (by decide) (Nat.le_of_ble_eq_true rfl) ?_
  refine k_aloadn0 (pc := 4) hC d_r_init_4 ?_
  refine k_sipush (pc := 5) (v := 1300) hC d_r_init_5 (by decide) ?_
  refine k_newa (pc := 8) (atype := .byte) (ty := .byte) (N' := 1300) (a0 := (1300, .inl (fun _ => 0))) hC ar_b rfl (fun _ => rfl) (by decide) rfl (by decide) (Nat.le_of_ble_eq_true rfl) (Nat.le_of_ble_eq_true rfl) d_r_init_8 (fun d cA hC => ?_)
  refine k_putF (pc := 10) (q0 := 0) (ci := 4) hC 0 i_Row t_Row t_Row_ok n_Row rfl rfl (by decide) (by decide +kernel) rfl rfl hi (t_Row_ok 0 (by decide)) rfl rfl (Nat.le_of_ble_eq_true rfl) rfl d_r_init_10 ?_
  exact k_vretI [0, 1] hC (by decide) (by decide) d_r_init_13 ⟨d, cA, rfl⟩ rfl (by decide) rfl
set_option maxHeartbeats 2000000 in
theorem c_v_init (q : Nat) : jMI l y_v_init b_v_init 1 (rmI 2 2 222) D X [.ref q] [(q, .inr (2, [.null, .null, .int 0, .int 0]))] (fun u => ∃ (d1 : Nat) (c1 : ClassId) (d2 : Nat) (c2 : ClassId), u = ([(q, .inr (2, [.ref d1, .ref d2, .int 0, .int 0])), (d1, .inl (c1, 155, .inl (fun _ => 0))), (d2, .inl (c2, 67, .inl (fun _ => 0)))], [(c1, .int), (c2, .int)])) 2 222 := by
  refine jMI.of [some (.ref q)] (by simp [jle, jent, Value.category]) rfl rfl (Nat.le_of_ble_eq_true rfl) ?_
  intro p e s m args below meth c sz hC hi
  refine k_aloadn0 (pc := 0) hC d_v_init_0 ?_
  refine k_objI (pc := 1) hC ob_V ob_I ob_C d_v_init_1 (by decide) (Nat.le_of_ble_eq_true rfl) ?_
  refine k_aloadn0 (pc := 4) hC d_v_init_4 ?_
  refine k_sipush (pc := 5) (v := 155) hC d_v_init_5 (by decide) ?_
  refine k_newa (pc := 8) (atype := .int) (ty := .int) (N' := 155) (a0 := (155, .inl (fun _ => 0))) hC ar_i rfl (fun _ => rfl) (by decide) rfl (by decide) (Nat.le_of_ble_eq_true rfl) (Nat.le_of_ble_eq_true rfl) d_v_init_8 (fun d1 c1 hC => ?_)
  refine k_putF (pc := 10) (q0 := 0) (ci := 2) hC 0 i_Value t_Value t_Value_ok n_Value rfl rfl (by decide) (by decide +kernel) rfl rfl hi (t_Value_ok 0 (by decide)) rfl rfl (Nat.le_of_ble_eq_true rfl) rfl d_v_init_10 ?_
  refine k_aloadn0 (pc := 13) hC d_v_init_13 ?_
  refine k_bipush (pc := 14) (v := 67) hC d_v_init_14 (by decide) ?_
  refine k_newa (pc := 16) (atype := .int) (ty := .int) (N' := 67) (a0 := (67, .inl (fun _ => 0))) hC ar_i rfl (fun _ => rfl) (by decide) rfl (by decide) (Nat.le_of_ble_eq_true rfl) (Nat.le_of_ble_eq_true rfl) d_v_init_16 (fun d2 c2 hC => ?_)
  refine k_putF (pc := 18) (q0 := 0) (ci := 2) hC 1 i_Value t_Value t_Value_ok n_Value rfl rfl (by decide) (by decide +kernel) rfl rfl hi (t_Value_ok 1 (by decide)) rfl rfl (Nat.le_of_ble_eq_true rfl) rfl d_v_init_18 ?_
  refine k_aloadn0 (pc := 21) hC d_v_init_21 ?_
  refine k_iconst (pc := 22) (v := 0) hC d_v_init_22 (by decide) ?_
  refine k_put (pc := 23) (q0 := 0) (ci := 2) hC 2 i_Value t_Value t_Value_ok n_Value rfl rfl (by decide) (by decide +kernel) rfl rfl (t_Value_ok 2 (by decide)) rfl rfl (Nat.le_of_ble_eq_true rfl) rfl d_v_init_23 ?_
  refine k_aloadn0 (pc := 26) hC d_v_init_26 ?_
  refine k_iconst (pc := 27) (v := 0) hC d_v_init_27 (by decide) ?_
  refine k_put (pc := 28) (q0 := 0) (ci := 2) hC 3 i_Value t_Value t_Value_ok n_Value rfl rfl (by decide) (by decide +kernel) rfl rfl (t_Value_ok 3 (by decide)) rfl rfl (Nat.le_of_ble_eq_true rfl) rfl d_v_init_28 ?_
  exact k_vretI [0, 1, 2] hC (by decide) (by decide) d_v_init_31 ⟨d1, c1, d2, c2, rfl⟩ rfl (by decide) rfl
end CN

