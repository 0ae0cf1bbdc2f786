section MK
variable {l : Launch} {D : va_G} {X : jX} {g : Nat → Nat} {ca : Nat → ClassId} {td cd us dc : Int32} {pt : Int64} {ps sp en ep hn hp : Int32} {tp : Nat → Int32} {lm : Nat → Int64} {dd xd yd : Nat → Int32}
set_option maxHeartbeats 1000000 in
theorem c_m_infinity_f : jM l y_m_infinity b_m_infinity 1 (some .long) (rmD 0) D (tyM ca) X [.ref (g 10)] (wm g ca td cd (24) (-149) us dc pt ps sp en ep hn hp tp lm dd xd yd) (jPl fun r w => r = lN 2139095040 ∧ w = wm g ca td cd (24) (-149) us dc pt ps sp en ep hn hp tp lm dd xd yd) := by
  refine jM.of [some (.ref (g 10))] (by simp [jle, jent, Value.category]) rfl (Nat.le_of_ble_eq_true rfl) ?_
  intro p e s m args below meth c sz hC
  refine j_aloadn0 (pc := 0) hC d_m_infinity_0 ?_
  refine jg_M_45 (pc := 1) hC d_m_infinity_1 ?_
  refine j_bipush (pc := 4) (v := 53) hC d_m_infinity_4 (by decide) ?_
  refine j_icmp_ne (pc := 6) hC 15 d_m_infinity_6 (by decide) (fun q => ?_) (fun q => ?_)
  · refine j_ldc2 (pc := 15) (v := 2139095040) hC mk_M_53 d_m_infinity_15 ?_
    exact j_lret hC d_m_infinity_18 ⟨_, rfl, rfl, rfl⟩
  · exact absurd q (by decide)
set_option maxHeartbeats 1000000 in
theorem c_m_sign_f : jM l y_m_sign b_m_sign 1 (some .long) (rmD 0) D (tyM ca) X [.ref (g 10)] (wm g ca td cd (24) (-149) us dc pt ps sp en ep hn hp tp lm dd xd yd) (jPl fun r w => r = 2147483648 ∧ w = wm g ca td cd (24) (-149) us dc pt ps sp en ep hn hp tp lm dd xd yd) := by
  refine jM.of [some (.ref (g 10))] (by simp [jle, jent, Value.category]) rfl (Nat.le_of_ble_eq_true rfl) ?_
  intro p e s m args below meth c sz hC
  refine j_aloadn0 (pc := 0) hC d_m_sign_0 ?_
  refine jg_M_45 (pc := 1) hC d_m_sign_1 ?_
  refine j_bipush (pc := 4) (v := 53) hC d_m_sign_4 (by decide) ?_
  refine j_icmp_ne (pc := 6) hC 15 d_m_sign_6 (by decide) (fun q => ?_) (fun q => ?_)
  · refine j_ldc2 (pc := 15) (v := 2147483648) hC mk_M_57 d_m_sign_15 ?_
    exact j_lret hC d_m_sign_18 ⟨_, rfl, rfl, rfl⟩
  · exact absurd q (by decide)
set_option maxHeartbeats 1000000 in
theorem c_m_fraction_f : jM l y_m_fraction b_m_fraction 1 (some .long) (rmD 0) D (tyM ca) X [.ref (g 10)] (wm g ca td cd (24) (-149) us dc pt ps sp en ep hn hp tp lm dd xd yd) (jPl fun r w => r = lN (2 ^ 23 - 1) ∧ w = wm g ca td cd (24) (-149) us dc pt ps sp en ep hn hp tp lm dd xd yd) := by
  refine jM.of [some (.ref (g 10))] (by simp [jle, jent, Value.category]) rfl (Nat.le_of_ble_eq_true rfl) ?_
  intro p e s m args below meth c sz hC
  refine j_lconst (pc := 0) (v := 1) hC d_m_fraction_0 (by decide) ?_
  refine j_aloadn0 (pc := 1) hC d_m_fraction_1 ?_
  refine jg_M_45 (pc := 2) hC d_m_fraction_2 ?_
  refine j_iconst (pc := 5) (v := 1) hC d_m_fraction_5 (by decide) ?_
  refine j_isub (pc := 6) hC d_m_fraction_6 ?_
  refine j_lshl (pc := 7) hC d_m_fraction_7 ?_
  refine j_lconst (pc := 8) (v := 1) hC d_m_fraction_8 (by decide) ?_
  refine j_lsub (pc := 9) hC d_m_fraction_9 ?_
  exact j_lret hC d_m_fraction_10 ⟨_, rfl, by decide +kernel, rfl⟩
set_option maxHeartbeats 1000000 in
theorem c_m_none_f : jM l y_m_none b_m_none 1 (some .long) (rmD 1) D (tyM ca) X [.ref (g 10)] (wm g ca td cd (24) (-149) us dc pt ps sp en ep hn hp tp lm dd xd yd) (jPl fun r w => r = 2143289344 ∧ w = wm g ca td cd (24) (-149) us dc pt ps sp en ep hn hp tp lm dd xd yd) := by
  refine jM.of [some (.ref (g 10))] (by simp [jle, jent, Value.category]) rfl (Nat.le_of_ble_eq_true rfl) ?_
  intro p e s m args below meth c sz hC
  refine j_aloadn0 (pc := 0) hC d_m_none_0 ?_
  refine j_V0l (pc := 1) (q0 := 0) (ci := 3) hC cw_M_59 (rmD_in (by decide)) (Nat.le_of_ble_eq_true rfl) rfl rfl d_m_none_1 (c_m_infinity_f) (fun r w2 h1 => ?_)
  obtain ⟨rfl, rfl⟩ := h1
  refine j_lconst (pc := 4) (v := 1) hC d_m_none_4 (by decide) ?_
  refine j_aloadn0 (pc := 5) hC d_m_none_5 ?_
  refine jg_M_45 (pc := 6) hC d_m_none_6 ?_
  refine j_iconst (pc := 9) (v := 2) hC d_m_none_9 (by decide) ?_
  refine j_isub (pc := 10) hC d_m_none_10 ?_
  refine j_lshl (pc := 11) hC d_m_none_11 ?_
  refine j_lor (pc := 12) hC d_m_none_12 ?_
  exact j_lret hC d_m_none_13 ⟨_, rfl, by decide +kernel, rfl⟩
set_option maxHeartbeats 1000000 in
theorem c_m_c_f (a : Nat) (ha : a < 2 ^ 63) : jM l y_m_c b_m_c 5 (some .long) (rmD 1) D (tyM ca) X [.ref (g 10), .long (lN a)] (wm g ca td cd (24) (-149) us dc pt ps sp en ep hn hp tp lm dd xd yd) (jPl fun r w => r = lN (kc 23 a) ∧ w = wm g ca td cd (24) (-149) us dc pt ps sp en ep hn hp tp lm dd xd yd) := by
  refine jM.of [some (.ref (g 10)), some (.long (lN a)), none, none, none] (by simp [jle, jent, Value.category]) rfl (Nat.le_of_ble_eq_true rfl) ?_
  intro p e s m args below meth c sz hC
  have hm := Nat.mod_lt a (Nat.two_pow_pos 23)
  refine j_lloadn1 (pc := 0) hC d_m_c_0 ?_
  refine j_aloadn0 (pc := 1) hC d_m_c_1 ?_
  refine j_V0l (pc := 2) (q0 := 0) (ci := 3) hC cw_M_63 (rmD_in (by decide)) (Nat.le_of_ble_eq_true rfl) rfl rfl d_m_c_2 (c_m_fraction_f) (fun r w2 h1 => ?_)
  obtain ⟨rfl, rfl⟩ := h1
  refine j_land (pc := 5) hC d_m_c_5 ?_
  refine J.topl (wb_mask (by omega) (by decide)) ?_
  refine j_lstoren3 (pc := 6) hC d_m_c_6 (by decide) (by first | exact trivial | exact rfl) ?_
  refine j_lloadn1 (pc := 7) hC d_m_c_7 ?_
  refine j_aloadn0 (pc := 8) hC d_m_c_8 ?_
  refine j_V0l (pc := 9) (q0 := 0) (ci := 3) hC cw_M_63 (rmD_in (by decide)) (Nat.le_of_ble_eq_true rfl) rfl rfl d_m_c_9 (c_m_fraction_f) (fun r w2 h1 => ?_)
  obtain ⟨rfl, rfl⟩ := h1
  refine j_lcmp (pc := 12) hC d_m_c_12 ?_
  refine j_if_le (pc := 13) hC 27 d_m_c_13 (by decide) (fun h2 => ?_) (fun h2 => ?_)
  · have h2 := (pk_lLE (by omega) (by omega)).mp ((lg_cmp_le _ _).mp h2)
    refine j_lloadn3 (pc := 27) hC d_m_c_27 ?_
    refine j_lret hC d_m_c_28 ⟨_, rfl, ?_, rfl⟩
    unfold kc
    rw [if_pos (Nat.div_eq_of_lt (by omega)), Nat.mod_eq_of_lt (by omega)]
  · have h2 : ¬ a ≤ 2 ^ 23 - 1 := fun y => h2 ((lg_cmp_le _ _).mpr ((pk_lLE (by omega) (by omega)).mpr y))
    refine j_lloadn3 (pc := 16) hC d_m_c_16 ?_
    refine j_aloadn0 (pc := 17) hC d_m_c_17 ?_
    refine j_V0l (pc := 18) (q0 := 0) (ci := 3) hC cw_M_63 (rmD_in (by decide)) (Nat.le_of_ble_eq_true rfl) rfl rfl d_m_c_18 (c_m_fraction_f) (fun r w2 h1 => ?_)
    obtain ⟨rfl, rfl⟩ := h1
    refine j_lconst (pc := 21) (v := 1) hC d_m_c_21 (by decide) ?_
    refine j_ladd (pc := 22) hC d_m_c_22 ?_
    refine j_lor (pc := 23) hC d_m_c_23 ?_
    refine j_goto (pc := 24) hC 28 d_m_c_24 (by decide) ?_
    refine j_lret hC d_m_c_28 ⟨_, rfl, ?_, rfl⟩
    unfold kc
    rw [if_neg (by have : 0 < a / 2 ^ 23 := Nat.div_pos (by omega) (Nat.two_pow_pos 23)
                   omega)]
    have h3 := g_or' (k := 23) (b := 1) rfl hm (by omega)
    rw [Nat.one_mul] at h3
    exact h3
set_option maxHeartbeats 1000000 in
theorem c_m_q_f (a : Nat) (ha : a ≤ 2139095040) : jM l y_m_q b_m_q 5 (some .int) (rmD 0) D (tyM ca) X [.ref (g 10), .long (lN a)] (wm g ca td cd (24) (-149) us dc pt ps sp en ep hn hp tp lm dd xd yd) (jPi fun r w => r.toInt = -149 + ((a / 2 ^ 23 - 1 : Nat) : Int) ∧ w = wm g ca td cd (24) (-149) us dc pt ps sp en ep hn hp tp lm dd xd yd) := by
  refine jM.of [some (.ref (g 10)), some (.long (lN a)), none, none, none] (by simp [jle, jent, Value.category]) rfl (Nat.le_of_ble_eq_true rfl) ?_
  intro p e s m args below meth c sz hC
  have hq : a / 2 ^ 23 ≤ 2047 := by
    have := Nat.div_le_div_right (c := 2 ^ 23) ha
    omega
  refine j_lloadn1 (pc := 0) hC d_m_q_0 ?_
  refine j_aloadn0 (pc := 1) hC d_m_q_1 ?_
  refine jg_M_45 (pc := 2) hC d_m_q_2 ?_
  refine j_iconst (pc := 5) (v := 1) hC d_m_q_5 (by decide) ?_
  refine j_isub (pc := 6) hC d_m_q_6 ?_
  refine J.topi (y := nI 23) (by decide) ?_
  refine j_lushr (pc := 7) hC d_m_q_7 ?_
  refine J.topl (wb_shr (by omega) (by decide)) ?_
  refine j_lstoren3 (pc := 8) hC d_m_q_8 (by decide) (by first | exact trivial | exact rfl) ?_
  refine j_lloadn3 (pc := 9) hC d_m_q_9 ?_
  refine j_lconst (pc := 10) (v := 0) hC d_m_q_10 (by decide) ?_
  refine j_lcmp (pc := 11) hC d_m_q_11 ?_
  refine j_if_ne (pc := 12) hC 22 d_m_q_12 (by decide) (fun h2 => ?_) (fun h2 => ?_)
  · have h2 : ¬ a / 2 ^ 23 = 0 := fun y => h2 ((lg_cmp_eq _ _).mpr (by rw [y]; rfl))
    refine j_aloadn0 (pc := 22) hC d_m_q_22 ?_
    refine jg_M_48 (pc := 23) hC d_m_q_23 ?_
    refine j_lloadn3 (pc := 26) hC d_m_q_26 ?_
    refine j_l2i (pc := 27) hC d_m_q_27 ?_
    refine j_iadd (pc := 28) hC d_m_q_28 ?_
    refine j_iconst (pc := 29) (v := 1) hC d_m_q_29 (by decide) ?_
    refine j_isub (pc := 30) hC d_m_q_30 ?_
    refine j_iret hC d_m_q_31 ⟨_, rfl, ?_, rfl⟩
    rw [lN_i]
    have e1 : (nI (a / 2 ^ 23)).toInt = ((a / 2 ^ 23 : Nat) : Int) := nI_toInt (by omega)
    have e2 : (-149 : Int32).toInt = -149 := rfl
    have e3 : (1 : Int32).toInt = 1 := rfl
    have e4 := tadd (x := -149) (y := nI (a / 2 ^ 23)) (by rw [e1, e2]; omega) (by rw [e1, e2]; omega)
    rw [tsub (by rw [e4, e1, e2, e3]; omega) (by rw [e4, e1, e2, e3]; omega), e4, e1, e2, e3]
    omega
  · have h2 := (lg_cmp_eq _ _).mp h2
    have h2 : a / 2 ^ 23 = 0 := (pk_lEQ (by omega) (by decide)).mp h2
    refine j_aloadn0 (pc := 15) hC d_m_q_15 ?_
    refine jg_M_48 (pc := 16) hC d_m_q_16 ?_
    refine j_goto (pc := 19) hC 31 d_m_q_19 (by decide) ?_
    refine j_iret hC d_m_q_31 ⟨_, rfl, ?_, rfl⟩
    rw [h2]
    rfl
set_option maxHeartbeats 1000000 in
theorem c_m_kind_f {bi ls : Int32} : jM l y_m_kind b_m_kind 2 none (rmD 0) D (tyM ca) X [.ref (g 10), .int 0] (wm g ca td cd bi ls us dc pt ps sp en ep hn hp tp lm dd xd yd) (jPv fun w => w = wm g ca td cd (24) (-149) us dc pt ps sp en ep hn hp tp lm dd xd yd) := by
  refine jM.of [some (.ref (g 10)), some (.int 0)] (by simp [jle, jent, Value.category]) rfl (Nat.le_of_ble_eq_true rfl) ?_
  intro p e s m args below meth c sz hC
  refine j_aloadn0 (pc := 0) hC d_m_kind_0 ?_
  refine j_iloadn1 (pc := 1) hC d_m_kind_1 ?_
  refine j_if_eq (pc := 2) hC 10 d_m_kind_2 (by decide) (fun q => ?_) (fun q => ?_)
  · refine j_bipush (pc := 10) (v := 24) hC d_m_kind_10 (by decide) ?_
    refine jp_M_45 (pc := 12) hC d_m_kind_12 ?_
    refine j_aloadn0 (pc := 15) hC d_m_kind_15 ?_
    refine j_iloadn1 (pc := 16) hC d_m_kind_16 ?_
    refine j_if_eq (pc := 17) hC 26 d_m_kind_17 (by decide) (fun q2 => ?_) (fun q2 => ?_)
    · refine j_sipush (pc := 26) (v := -149) hC d_m_kind_26 (by decide) ?_
      refine jp_M_48 (pc := 29) hC d_m_kind_29 ?_
      exact j_vret hC d_m_kind_32 ⟨rfl, rfl⟩
    · exact absurd rfl q2
  · exact absurd rfl q
end MK

