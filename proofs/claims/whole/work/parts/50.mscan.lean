/-! THE REFERENCE: its small methods -/
theorem dg10 {x : Int32} : dg x < 10 ↔ 48 ≤ x.toInt ∧ x.toInt ≤ 57 := by
  unfold dg
  split
  · omega
  · split
    · omega
    · split <;> omega
section MS
variable {l : Launch} {D : va_G} {X : jX} {g : Nat → Nat} {ca : Nat → ClassId} {td cd bi ls us dc : Int32} {pt : Int64} {ps sp en ep hn hp : Int32} {tp : Nat → Int32} {lm : Nat → Int64} {dd xd yd : Nat → Int32}
set_option maxHeartbeats 1000000 in
theorem c_m_thrown : jM l y_m_thrown b_m_thrown 1 (some .int) (rmD 0) D (tyM ca) X [.ref (g 10)] (wm g ca td cd bi ls us dc pt ps sp en ep hn hp tp lm dd xd yd) (jPi fun r w => r = cd ∧ w = wm g ca td cd bi ls us dc pt ps sp en ep hn hp tp lm dd xd yd) := by
  refine jM.of [some (.ref (g 10))] (by simp [jle, jent, Value.category]) rfl (Nat.le_of_ble_eq_true rfl) ?_
  intro p e s m args below meth c sz hC
  refine j_aloadn0 (pc := 0) hC d_m_thrown_0 ?_
  refine jg_M_30 (pc := 1) hC d_m_thrown_1 ?_
  exact j_iret hC d_m_thrown_4 ⟨_, rfl, rfl, rfl⟩
set_option maxHeartbeats 1000000 in
theorem c_m_good (y : Bool) (x : Int32) : jM l y_m_good b_m_good 3 (some .boolean) (rmD 0) D (tyM ca) X [.ref (g 10), .int (if y then 1 else 0), .int x] (wm g ca td cd bi ls us dc pt ps sp en ep hn hp tp lm dd xd yd) (jPi fun r w => r = (if y then 1 else 0) ∧ w = wm g ca td (if y then 0 else x) bi ls us dc pt ps sp en ep hn hp tp lm dd xd yd) := by
  cases y with
  | true =>
    refine jM.of [some (.ref (g 10)), some (.int 1), some (.int x)] (by simp [jle, jent, Value.category]) rfl (Nat.le_of_ble_eq_true rfl) ?_
    intro p e s m args below meth c sz hC
    refine j_aloadn0 (pc := 0) hC d_m_good_0 ?_
    refine j_iloadn1 (pc := 1) hC d_m_good_1 ?_
    refine j_if_eq (pc := 2) hC 9 d_m_good_2 (by decide) (fun h1 => ?_) (fun h1 => ?_)
    · exact absurd h1 (by decide)
    · refine j_iconst (pc := 5) (v := 0) hC d_m_good_5 (by decide) ?_
      refine j_goto (pc := 6) hC 10 d_m_good_6 (by decide) ?_
      refine jp_M_30 (pc := 10) hC d_m_good_10 ?_
      refine j_iloadn1 (pc := 13) hC d_m_good_13 ?_
      exact j_zret hC rfl d_m_good_14 ⟨1, rfl, rfl, rfl⟩
  | false =>
    refine jM.of [some (.ref (g 10)), some (.int 0), some (.int x)] (by simp [jle, jent, Value.category]) rfl (Nat.le_of_ble_eq_true rfl) ?_
    intro p e s m args below meth c sz hC
    refine j_aloadn0 (pc := 0) hC d_m_good_0 ?_
    refine j_iloadn1 (pc := 1) hC d_m_good_1 ?_
    refine j_if_eq (pc := 2) hC 9 d_m_good_2 (by decide) (fun h1 => ?_) (fun h1 => ?_)
    · refine j_iloadn2 (pc := 9) hC d_m_good_9 ?_
      refine jp_M_30 (pc := 10) hC d_m_good_10 ?_
      refine j_iloadn1 (pc := 13) hC d_m_good_13 ?_
      exact j_zret hC rfl d_m_good_14 ⟨0, rfl, rfl, rfl⟩
    · exact absurd rfl h1
set_option maxHeartbeats 1000000 in
theorem c_m_is (x : Int32) (a z : Nat) (hz : z ≤ 8192) (ha : a ≤ z) : jM l y_m_is b_m_is 2 (some .boolean) (rmD 0) D (tyM ca) X [.ref (g 10), .int x] (wm g ca td cd bi ls us dc pt (nI a) (nI z) en ep hn hp tp lm dd xd yd) (jPi fun r w => ((isc tp a z x ∧ r = 1) ∨ (¬ isc tp a z x ∧ r = 0)) ∧ w = wm g ca td cd bi ls us dc pt (nI a) (nI z) en ep hn hp tp lm dd xd yd) := by
  refine jM.of [some (.ref (g 10)), some (.int x)] (by simp [jle, jent, Value.category]) rfl (Nat.le_of_ble_eq_true rfl) ?_
  intro p e s m args below meth c sz hC
  refine j_aloadn0 (pc := 0) hC d_m_is_0 ?_
  refine jg_M_94 (pc := 1) hC d_m_is_1 ?_
  refine j_aloadn0 (pc := 4) hC d_m_is_4 ?_
  refine jg_M_97 (pc := 5) hC d_m_is_5 ?_
  refine j_icmp_ge (pc := 8) hC 28 d_m_is_8 (by decide) (fun h1 => ?_) (fun h1 => ?_)
  · refine j_iconst (pc := 28) (v := 0) hC d_m_is_28 (by decide) ?_
    rw [nI_leI (by omega) (by omega)] at h1
    exact j_zret hC rfl d_m_is_29 ⟨0, rfl, Or.inr ⟨fun q => by have := q.1; omega, rfl⟩, rfl⟩
  · rw [nI_leI (by omega) (by omega)] at h1
    have hcl : (nI a).toNatClampNeg = a := nI_clamp (by omega)
    refine j_aloadn0 (pc := 11) hC d_m_is_11 ?_
    refine jg_M_9 (pc := 12) hC d_m_is_12 ?_
    refine j_aloadn0 (pc := 15) hC d_m_is_15 ?_
    refine jg_M_94 (pc := 16) hC d_m_is_16 ?_
    refine ja_mtape_baload (pc := 19) hC (vp_in_nI (by omega) (by decide)) d_m_is_19 ?_
    refine j_iloadn1 (pc := 20) hC d_m_is_20 ?_
    refine j_icmp_ne (pc := 21) hC 28 d_m_is_21 (by decide) (fun h2 => ?_) (fun h2 => ?_)
    · rw [hcl] at h2
      refine j_iconst (pc := 28) (v := 0) hC d_m_is_28 (by decide) ?_
      exact j_zret hC rfl d_m_is_29 ⟨0, rfl, Or.inr ⟨fun q => h2 q.2, rfl⟩, rfl⟩
    · rw [hcl] at h2
      refine j_iconst (pc := 24) (v := 1) hC d_m_is_24 (by decide) ?_
      refine j_goto (pc := 25) hC 29 d_m_is_25 (by decide) ?_
      exact j_zret hC rfl d_m_is_29 ⟨1, rfl, Or.inl ⟨⟨by omega, h2⟩, rfl⟩, rfl⟩
set_option maxHeartbeats 1000000 in
theorem c_m_isDigit (a z : Nat) (hz : z ≤ 8192) (ha : a ≤ z) : jM l y_m_isDigit b_m_isDigit 1 (some .boolean) (rmD 0) D (tyM ca) X [.ref (g 10)] (wm g ca td cd bi ls us dc pt (nI a) (nI z) en ep hn hp tp lm dd xd yd) (jPi fun r w => ((a < z ∧ dg (tp a) < 10) ∧ r = 1 ∨ ¬ (a < z ∧ dg (tp a) < 10) ∧ r = 0) ∧ w = wm g ca td cd bi ls us dc pt (nI a) (nI z) en ep hn hp tp lm dd xd yd) := by
  refine jM.of [some (.ref (g 10))] (by simp [jle, jent, Value.category]) rfl (Nat.le_of_ble_eq_true rfl) ?_
  intro p e s m args below meth c sz hC
  rw [dg10]
  refine j_aloadn0 (pc := 0) hC d_m_isDigit_0 ?_
  refine jg_M_94 (pc := 1) hC d_m_isDigit_1 ?_
  refine j_aloadn0 (pc := 4) hC d_m_isDigit_4 ?_
  refine jg_M_97 (pc := 5) hC d_m_isDigit_5 ?_
  refine j_icmp_ge (pc := 8) hC 43 d_m_isDigit_8 (by decide) (fun h1 => ?_) (fun h1 => ?_)
  · refine j_iconst (pc := 43) (v := 0) hC d_m_isDigit_43 (by decide) ?_
    rw [nI_leI (by omega) (by omega)] at h1
    exact j_zret hC rfl d_m_isDigit_44 ⟨0, rfl, Or.inr ⟨fun q => by have := q.1; omega, rfl⟩, rfl⟩
  · rw [nI_leI (by omega) (by omega)] at h1
    have hcl : (nI a).toNatClampNeg = a := nI_clamp (by omega)
    refine j_aloadn0 (pc := 11) hC d_m_isDigit_11 ?_
    refine jg_M_9 (pc := 12) hC d_m_isDigit_12 ?_
    refine j_aloadn0 (pc := 15) hC d_m_isDigit_15 ?_
    refine jg_M_94 (pc := 16) hC d_m_isDigit_16 ?_
    refine ja_mtape_baload (pc := 19) hC (vp_in_nI (by omega) (by decide)) d_m_isDigit_19 ?_
    refine j_bipush (pc := 20) (v := 48) hC d_m_isDigit_20 (by decide) ?_
    refine j_icmp_lt (pc := 22) hC 43 d_m_isDigit_22 (by decide) (fun h2 => ?_) (fun h2 => ?_)
    · rw [hcl, i32lt, tl48] at h2
      refine j_iconst (pc := 43) (v := 0) hC d_m_isDigit_43 (by decide) ?_
      exact j_zret hC rfl d_m_isDigit_44 ⟨0, rfl, Or.inr ⟨fun q => by omega, rfl⟩, rfl⟩
    · rw [hcl, i32lt, tl48] at h2
      refine j_aloadn0 (pc := 25) hC d_m_isDigit_25 ?_
      refine jg_M_9 (pc := 26) hC d_m_isDigit_26 ?_
      refine j_aloadn0 (pc := 29) hC d_m_isDigit_29 ?_
      refine jg_M_94 (pc := 30) hC d_m_isDigit_30 ?_
      refine ja_mtape_baload (pc := 33) hC (vp_in_nI (by omega) (by decide)) d_m_isDigit_33 ?_
      refine j_bipush (pc := 34) (v := 57) hC d_m_isDigit_34 (by decide) ?_
      refine j_icmp_gt (pc := 36) hC 43 d_m_isDigit_36 (by decide) (fun h3 => ?_) (fun h3 => ?_)
      · rw [hcl, i32lt, tl57] at h3
        refine j_iconst (pc := 43) (v := 0) hC d_m_isDigit_43 (by decide) ?_
        exact j_zret hC rfl d_m_isDigit_44 ⟨0, rfl, Or.inr ⟨fun q => by omega, rfl⟩, rfl⟩
      · rw [hcl, i32lt, tl57] at h3
        refine j_iconst (pc := 39) (v := 1) hC d_m_isDigit_39 (by decide) ?_
        refine j_goto (pc := 40) hC 44 d_m_isDigit_40 (by decide) ?_
        exact j_zret hC rfl d_m_isDigit_44 ⟨1, rfl, Or.inl ⟨by omega, rfl⟩, rfl⟩
theorem dg_16lt {x : Int32} (h : (48 ≤ x.toInt ∧ x.toInt ≤ 57) ∨ (97 ≤ x.toInt ∧ x.toInt ≤ 102) ∨ (65 ≤ x.toInt ∧ x.toInt ≤ 70)) : dg x < 16 := by
  unfold dg
  split
  · omega
  · split
    · omega
    · split <;> omega
set_option maxHeartbeats 1000000 in
theorem c_m_hexDigit (a z : Nat) (hz : z ≤ 8192) (ha : a ≤ z) : jM l y_m_hexDigit b_m_hexDigit 2 (some .int) (rmD 0) D (tyM ca) X [.ref (g 10)] (wm g ca td cd bi ls us dc pt (nI a) (nI z) en ep hn hp tp lm dd xd yd) (jPi fun r w => ((a < z ∧ dg (tp a) < 16) ∧ r = nI (dg (tp a)) ∨ ¬ (a < z ∧ dg (tp a) < 16) ∧ r = -1) ∧ w = wm g ca td cd bi ls us dc pt (nI a) (nI z) en ep hn hp tp lm dd xd yd) := by
  refine jM.of [some (.ref (g 10)), none] (by simp [jle, jent, Value.category]) rfl (Nat.le_of_ble_eq_true rfl) ?_
  intro p e s m args below meth c sz hC
  refine j_aloadn0 (pc := 0) hC d_m_hexDigit_0 ?_
  refine jg_M_94 (pc := 1) hC d_m_hexDigit_1 ?_
  refine j_aloadn0 (pc := 4) hC d_m_hexDigit_4 ?_
  refine jg_M_97 (pc := 5) hC d_m_hexDigit_5 ?_
  refine j_icmp_lt (pc := 8) hC 13 d_m_hexDigit_8 (by decide) (fun h1 => ?_) (fun h1 => ?_)
  · rw [nI_ltI (by omega) (by omega)] at h1
    have hcl : (nI a).toNatClampNeg = a := nI_clamp (by omega)
    refine j_aloadn0 (pc := 13) hC d_m_hexDigit_13 ?_
    refine jg_M_9 (pc := 14) hC d_m_hexDigit_14 ?_
    refine j_aloadn0 (pc := 17) hC d_m_hexDigit_17 ?_
    refine jg_M_94 (pc := 18) hC d_m_hexDigit_18 ?_
    refine ja_mtape_baload (pc := 21) hC (vp_in_nI (by omega) (by decide)) d_m_hexDigit_21 ?_
    refine j_istoren1 (pc := 22) hC d_m_hexDigit_22 (by decide) (by first | exact trivial | exact rfl) ?_
    rw [hcl]
    have kno : ¬ dg (tp a) < 16 → J p l e (rmD 0) s m args below meth c D (va_A (wm g ca td cd bi ls us dc pt (nI a) (nI z) en ep hn hp tp lm dd xd yd) sz) 2 (MQ below (jQ D (wm g ca td cd bi ls us dc pt (nI a) (nI z) en ep hn hp tp lm dd xd yd) sz (jPi fun r w => ((a < z ∧ dg (tp a) < 16) ∧ r = nI (dg (tp a)) ∨ ¬ (a < z ∧ dg (tp a) < 16) ∧ r = -1) ∧ w = wm g ca td cd bi ls us dc pt (nI a) (nI z) en ep hn hp tp lm dd xd yd)) args s 0 0 (va_A (wm g ca td cd bi ls us dc pt (nI a) (nI z) en ep hn hp tp lm dd xd yd) sz)) 86 [some (.ref (g 10)), some (.int (tp a))] [] (wm g ca td cd bi ls us dc pt (nI a) (nI z) en ep hn hp tp lm dd xd yd) := by
      intro hn
      refine j_iconst (pc := 86) (v := -1) hC d_m_hexDigit_86 (by decide) ?_
      exact j_iret hC d_m_hexDigit_87 ⟨_, rfl, Or.inr ⟨fun q => hn (q.2), rfl⟩, rfl⟩
    have k64 : ¬ (48 ≤ (tp a).toInt ∧ (tp a).toInt ≤ 57) → ¬ (97 ≤ (tp a).toInt ∧ (tp a).toInt ≤ 102) → J p l e (rmD 0) s m args below meth c D (va_A (wm g ca td cd bi ls us dc pt (nI a) (nI z) en ep hn hp tp lm dd xd yd) sz) 2 (MQ below (jQ D (wm g ca td cd bi ls us dc pt (nI a) (nI z) en ep hn hp tp lm dd xd yd) sz (jPi fun r w => ((a < z ∧ dg (tp a) < 16) ∧ r = nI (dg (tp a)) ∨ ¬ (a < z ∧ dg (tp a) < 16) ∧ r = -1) ∧ w = wm g ca td cd bi ls us dc pt (nI a) (nI z) en ep hn hp tp lm dd xd yd)) args s 0 0 (va_A (wm g ca td cd bi ls us dc pt (nI a) (nI z) en ep hn hp tp lm dd xd yd) sz)) 64 [some (.ref (g 10)), some (.int (tp a))] [] (wm g ca td cd bi ls us dc pt (nI a) (nI z) en ep hn hp tp lm dd xd yd) := by
      intro n1 n2
      have hn : ¬ (65 ≤ (tp a).toInt ∧ (tp a).toInt ≤ 70) → ¬ dg (tp a) < 16 := by
        intro n3
        unfold dg
        rw [if_neg n1, if_neg n2, if_neg n3]
        omega
      refine j_iloadn1 (pc := 64) hC d_m_hexDigit_64 ?_
      refine j_bipush (pc := 65) (v := 65) hC d_m_hexDigit_65 (by decide) ?_
      refine j_icmp_lt (pc := 67) hC 86 d_m_hexDigit_67 (by decide) (fun h1 => ?_) (fun h1 => ?_)
      · exact kno (hn (by rw [i32lt, tl65] at h1; omega))
      · refine j_iloadn1 (pc := 70) hC d_m_hexDigit_70 ?_
        refine j_bipush (pc := 71) (v := 70) hC d_m_hexDigit_71 (by decide) ?_
        refine j_icmp_gt (pc := 73) hC 86 d_m_hexDigit_73 (by decide) (fun h2 => ?_) (fun h2 => ?_)
        · exact kno (hn (by rw [i32lt, tl70] at h2; omega))
        · refine j_iloadn1 (pc := 76) hC d_m_hexDigit_76 ?_
          refine j_bipush (pc := 77) (v := 65) hC d_m_hexDigit_77 (by decide) ?_
          refine j_isub (pc := 79) hC d_m_hexDigit_79 ?_
          refine j_bipush (pc := 80) (v := 10) hC d_m_hexDigit_80 (by decide) ?_
          refine j_iadd (pc := 82) hC d_m_hexDigit_82 ?_
          refine j_goto (pc := 83) hC 87 d_m_hexDigit_83 (by decide) ?_
          rw [i32lt, tl65] at h1
          rw [i32lt, tl70] at h2
          exact j_iret hC d_m_hexDigit_87 ⟨_, rfl, Or.inl ⟨⟨by assumption, dg_16lt (by omega)⟩, dg_65 (by omega) (by omega)⟩, rfl⟩
    have k42 : ¬ (48 ≤ (tp a).toInt ∧ (tp a).toInt ≤ 57) → J p l e (rmD 0) s m args below meth c D (va_A (wm g ca td cd bi ls us dc pt (nI a) (nI z) en ep hn hp tp lm dd xd yd) sz) 2 (MQ below (jQ D (wm g ca td cd bi ls us dc pt (nI a) (nI z) en ep hn hp tp lm dd xd yd) sz (jPi fun r w => ((a < z ∧ dg (tp a) < 16) ∧ r = nI (dg (tp a)) ∨ ¬ (a < z ∧ dg (tp a) < 16) ∧ r = -1) ∧ w = wm g ca td cd bi ls us dc pt (nI a) (nI z) en ep hn hp tp lm dd xd yd)) args s 0 0 (va_A (wm g ca td cd bi ls us dc pt (nI a) (nI z) en ep hn hp tp lm dd xd yd) sz)) 42 [some (.ref (g 10)), some (.int (tp a))] [] (wm g ca td cd bi ls us dc pt (nI a) (nI z) en ep hn hp tp lm dd xd yd) := by
      intro n1
      refine j_iloadn1 (pc := 42) hC d_m_hexDigit_42 ?_
      refine j_bipush (pc := 43) (v := 97) hC d_m_hexDigit_43 (by decide) ?_
      refine j_icmp_lt (pc := 45) hC 64 d_m_hexDigit_45 (by decide) (fun h1 => ?_) (fun h1 => ?_)
      · exact k64 n1 (by rw [i32lt, tl97] at h1; omega)
      · refine j_iloadn1 (pc := 48) hC d_m_hexDigit_48 ?_
        refine j_bipush (pc := 49) (v := 102) hC d_m_hexDigit_49 (by decide) ?_
        refine j_icmp_gt (pc := 51) hC 64 d_m_hexDigit_51 (by decide) (fun h2 => ?_) (fun h2 => ?_)
        · exact k64 n1 (by rw [i32lt, tl102] at h2; omega)
        · refine j_iloadn1 (pc := 54) hC d_m_hexDigit_54 ?_
          refine j_bipush (pc := 55) (v := 97) hC d_m_hexDigit_55 (by decide) ?_
          refine j_isub (pc := 57) hC d_m_hexDigit_57 ?_
          refine j_bipush (pc := 58) (v := 10) hC d_m_hexDigit_58 (by decide) ?_
          refine j_iadd (pc := 60) hC d_m_hexDigit_60 ?_
          refine j_goto (pc := 61) hC 87 d_m_hexDigit_61 (by decide) ?_
          rw [i32lt, tl97] at h1
          rw [i32lt, tl102] at h2
          exact j_iret hC d_m_hexDigit_87 ⟨_, rfl, Or.inl ⟨⟨by assumption, dg_16lt (by omega)⟩, dg_97 (by omega) (by omega)⟩, rfl⟩
    refine j_iloadn1 (pc := 23) hC d_m_hexDigit_23 ?_
    refine j_bipush (pc := 24) (v := 48) hC d_m_hexDigit_24 (by decide) ?_
    refine j_icmp_lt (pc := 26) hC 42 d_m_hexDigit_26 (by decide) (fun h2 => ?_) (fun h2 => ?_)
    · exact k42 (by rw [i32lt, tl48] at h2; omega)
    · refine j_iloadn1 (pc := 29) hC d_m_hexDigit_29 ?_
      refine j_bipush (pc := 30) (v := 57) hC d_m_hexDigit_30 (by decide) ?_
      refine j_icmp_gt (pc := 32) hC 42 d_m_hexDigit_32 (by decide) (fun h3 => ?_) (fun h3 => ?_)
      · exact k42 (by rw [i32lt, tl57] at h3; omega)
      · refine j_iloadn1 (pc := 35) hC d_m_hexDigit_35 ?_
        refine j_bipush (pc := 36) (v := 48) hC d_m_hexDigit_36 (by decide) ?_
        refine j_isub (pc := 38) hC d_m_hexDigit_38 ?_
        refine j_goto (pc := 39) hC 87 d_m_hexDigit_39 (by decide) ?_
        rw [i32lt, tl48] at h2
        rw [i32lt, tl57] at h3
        exact j_iret hC d_m_hexDigit_87 ⟨_, rfl, Or.inl ⟨⟨by assumption, dg_16lt (by omega)⟩, dg_48 (by omega) (by omega)⟩, rfl⟩
  · rw [nI_ltI (by omega) (by omega)] at h1
    refine j_iconst (pc := 11) (v := -1) hC d_m_hexDigit_11 (by decide) ?_
    exact j_iret hC d_m_hexDigit_12 ⟨_, rfl, Or.inr ⟨fun q => h1 q.1, rfl⟩, rfl⟩
theorem st_i2b : ∀ i, i < 6 → ∀ j, j < st_len.getD i 0 → ((st_byt.getD i []).getD j 0).toInt8.toInt32 = (st_byt.getD i []).getD j 0 := by decide +kernel
set_option maxHeartbeats 1000000 in
theorem c_m_word (i a z : Nat) (hi : i < 6) (hz : z ≤ 8192) (ha : a ≤ z) : jM l y_m_word b_m_word 3 (some .boolean) (rmD 4) D (tyM ca) X [.ref (g 10), .ref (X.2.1 i)] (wm g ca td cd bi ls us dc pt (nI a) (nI z) en ep hn hp tp lm dd xd yd) (jPi fun r w => (isW tp a z i ∧ r = 1 ∨ ¬ isW tp a z i ∧ r = 0) ∧ w = wm g ca td cd bi ls us dc pt (nI a) (nI z) en ep hn hp tp lm dd xd yd) := by
  refine jM.of [some (.ref (g 10)), some (.ref (X.2.1 i)), none] (by simp [jle, jent, Value.category]) rfl (Nat.le_of_ble_eq_true rfl) ?_
  intro p e s m args below meth c sz hC
  have hs := st_small i hi
  have loop : ∀ (n j : Nat), j + n = st_len.getD i 0 → z - a = st_len.getD i 0 → (∀ q, q < j → tp (a + q) = (st_byt.getD i []).getD q 0) → J p l e (rmD 4) s m args below meth c D (va_A (wm g ca td cd bi ls us dc pt (nI a) (nI z) en ep hn hp tp lm dd xd yd) sz) 3 (MQ below (jQ D (wm g ca td cd bi ls us dc pt (nI a) (nI z) en ep hn hp tp lm dd xd yd) sz (jPi fun r w => (isW tp a z i ∧ r = 1 ∨ ¬ isW tp a z i ∧ r = 0) ∧ w = wm g ca td cd bi ls us dc pt (nI a) (nI z) en ep hn hp tp lm dd xd yd)) args s 0 0 (va_A (wm g ca td cd bi ls us dc pt (nI a) (nI z) en ep hn hp tp lm dd xd yd) sz)) 20 [some (.ref (g 10)), some (.ref (X.2.1 i)), some (.int (nI j))] [] (wm g ca td cd bi ls us dc pt (nI a) (nI z) en ep hn hp tp lm dd xd yd) := by
    intro n
    induction n with
    | zero =>
      intro j hj hl hd
      refine j_iloadn2 (pc := 20) hC d_m_word_20 ?_
      refine j_aloadn1 (pc := 21) hC d_m_word_21 ?_
      refine j_Str0 (pc := 22) hC hi rfl cw_M_100 (rmD_in (by decide)) (Nat.le_of_ble_eq_true rfl) d_m_word_22 (c_s_length i hi) (fun r w2 h => ?_)
      obtain ⟨rfl, rfl⟩ := h
      refine j_icmp_ge (pc := 25) hC 56 d_m_word_25 (by decide) (fun h1 => ?_) (fun h1 => ?_)
      · refine j_iconst (pc := 56) (v := 1) hC d_m_word_56 (by decide) ?_
        exact j_zret hC rfl d_m_word_57 ⟨1, rfl, Or.inl ⟨⟨hl, fun q hq => hd q (by omega)⟩, rfl⟩, rfl⟩
      · rw [nI_leI (by omega) (by omega)] at h1
        omega
    | succ n ih =>
      intro j hj hl hd
      refine j_iloadn2 (pc := 20) hC d_m_word_20 ?_
      refine j_aloadn1 (pc := 21) hC d_m_word_21 ?_
      refine j_Str0 (pc := 22) hC hi rfl cw_M_100 (rmD_in (by decide)) (Nat.le_of_ble_eq_true rfl) d_m_word_22 (c_s_length i hi) (fun r w2 h => ?_)
      obtain ⟨rfl, rfl⟩ := h
      refine j_icmp_ge (pc := 25) hC 56 d_m_word_25 (by decide) (fun h1 => ?_) (fun h1 => ?_)
      · rw [nI_leI (by omega) (by omega)] at h1
        omega
      · refine j_aloadn0 (pc := 28) hC d_m_word_28 ?_
        refine jg_M_9 (pc := 29) hC d_m_word_29 ?_
        refine j_aloadn0 (pc := 32) hC d_m_word_32 ?_
        refine jg_M_94 (pc := 33) hC d_m_word_33 ?_
        refine j_iloadn2 (pc := 36) hC d_m_word_36 ?_
        refine j_iadd (pc := 37) hC d_m_word_37 ?_
        refine J.topi (nI_add a j) ?_
        refine ja_mtape_baload (pc := 38) hC (vp_in_nI (by omega) (by decide)) d_m_word_38 ?_
        refine j_aloadn1 (pc := 39) hC d_m_word_39 ?_
        refine j_iloadn2 (pc := 40) hC d_m_word_40 ?_
        rw [nI_clamp (show a + j < 2 ^ 31 by omega)]
        refine j_Str1 (pc := 41) hC hi rfl cw_M_106 (rmD_in (by decide)) (Nat.le_of_ble_eq_true rfl) d_m_word_41 (c_s_charAt i j hi (by omega)) (fun r w2 h => ?_)
        obtain ⟨rfl, rfl⟩ := h
        refine j_i2b (pc := 44) hC d_m_word_44 ?_
        refine J.topi (st_i2b i hi j (by omega)) ?_
        refine j_icmp_eq (pc := 45) hC 50 d_m_word_45 (by decide) (fun h2 => ?_) (fun h2 => ?_)
        · refine j_iinc2 (pc := 50) hC d_m_word_50 (by decide) (by first | exact trivial | exact rfl) ?_
          refine j_goto (pc := 53) hC 20 d_m_word_53 (by decide) ?_
          refine J.to rfl ?_ rfl rfl (ih (j + 1) (by omega) hl (fun q hq => ?_))
          · rw [← nI_1]
            rfl
          · rcases Nat.lt_or_eq_of_le (Nat.le_of_lt_succ hq) with h | h
            · exact hd q h
            · rw [h]; exact h2
        · refine j_iconst (pc := 48) (v := 0) hC d_m_word_48 (by decide) ?_
          exact j_zret hC rfl d_m_word_49 ⟨0, rfl, Or.inr ⟨fun q => h2 (q.2 j (by omega)), rfl⟩, rfl⟩
  refine j_aloadn0 (pc := 0) hC d_m_word_0 ?_
  refine jg_M_97 (pc := 1) hC d_m_word_1 ?_
  refine j_aloadn0 (pc := 4) hC d_m_word_4 ?_
  refine jg_M_94 (pc := 5) hC d_m_word_5 ?_
  refine j_isub (pc := 8) hC d_m_word_8 ?_
  refine J.topi (y := nI (z - a)) (pk_sub ha) ?_
  refine j_aloadn1 (pc := 9) hC d_m_word_9 ?_
  refine j_Str0 (pc := 10) hC hi rfl cw_M_100 (rmD_in (by decide)) (Nat.le_of_ble_eq_true rfl) d_m_word_10 (c_s_length i hi) (fun r w2 h => ?_)
  obtain ⟨rfl, rfl⟩ := h
  refine j_icmp_eq (pc := 13) hC 18 d_m_word_13 (by decide) (fun h1 => ?_) (fun h1 => ?_)
  · rw [nI_eq (by omega) (by omega)] at h1
    refine j_iconst (pc := 18) (v := 0) hC d_m_word_18 (by decide) ?_
    refine j_istoren2 (pc := 19) hC d_m_word_19 (by decide) (by first | exact trivial | exact rfl) ?_
    exact loop (st_len.getD i 0) 0 (by omega) h1 (fun q hq => absurd hq (by omega))
  · rw [nI_eq (by omega) (by omega)] at h1
    refine j_iconst (pc := 16) (v := 0) hC d_m_word_16 (by decide) ?_
    exact j_zret hC rfl d_m_word_17 ⟨0, rfl, Or.inr ⟨fun q => h1 q.1, rfl⟩, rfl⟩
theorem dgl {x : Int32} {v : Nat} (h : dg x < 10) : 10 * lN v + x.toInt64 - 48 = lN (10 * v + dg x) := by
  have h1 := dg10.mp h
  have e := dg_48 h1.1 h1.2
  have e2 : x = nI (dg x + 48) := by
    rw [← nI_add, ← e, show nI 48 = (48 : Int32) from rfl]
    simp
  generalize dg x = k at *
  subst e2
  rw [nI_l (by omega), show (10 : Int64) = lN 10 from rfl, lN_mul, lN_add, show (48 : Int64) = lN 48 from rfl, lN_sub (by omega)]
  congr 1
set_option maxHeartbeats 2000000 in
theorem c_m_exponent (a z : Nat) (hz : z ≤ 8192) (ha : a ≤ z) : jM l y_m_exponent b_m_exponent 4 (some .long) (rmD 1) D (tyM ca) X [.ref (g 10)] (wm g ca td cd bi ls us dc pt (nI a) (nI z) en ep hn hp tp lm dd xd yd) (jPl fun r w => ∃ (me : Bool) (b n : Nat), (me = true ↔ sgM tp a z) ∧ (sgP tp a z ∧ b = a + 1 ∨ ¬ sgP tp a z ∧ b = a) ∧ n = rn tp 10 b (z - b) ∧ (n = 0 ∧ r = -9223372036854775808 ∨ 0 < n ∧ r = (if me then -lN (xC tp b 10000000 n) else lN (xC tp b 10000000 n))) ∧ w = wm g ca td cd bi ls us dc pt (nI (b + n)) (nI z) en ep hn hp tp lm dd xd yd) := by
  refine jM.of [some (.ref (g 10)), none, none, none] (by simp [jle, jent, Value.category]) rfl (Nat.le_of_ble_eq_true rfl) ?_
  intro p e s m args below meth c sz hC
  have loop : ∀ (me : Bool) (b : Nat), (me = true ↔ sgM tp a z) → (sgP tp a z ∧ b = a + 1 ∨ ¬ sgP tp a z ∧ b = a) → ∀ (k j : Nat), b + j + k = z → 0 < rn tp 10 b (z - b) → (∀ i, i < j → dg (tp (b + i)) < 10) → J p l e (rmD 1) s m args below meth c D (va_A (wm g ca td cd bi ls us dc pt (nI a) (nI z) en ep hn hp tp lm dd xd yd) sz) 4 (MQ below (jQ D (wm g ca td cd bi ls us dc pt (nI a) (nI z) en ep hn hp tp lm dd xd yd) sz (jPl fun r w => ∃ (me : Bool) (b n : Nat), (me = true ↔ sgM tp a z) ∧ (sgP tp a z ∧ b = a + 1 ∨ ¬ sgP tp a z ∧ b = a) ∧ n = rn tp 10 b (z - b) ∧ (n = 0 ∧ r = -9223372036854775808 ∨ 0 < n ∧ r = (if me then -lN (xC tp b 10000000 n) else lN (xC tp b 10000000 n))) ∧ w = wm g ca td cd bi ls us dc pt (nI (b + n)) (nI z) en ep hn hp tp lm dd xd yd)) args s 0 0 (va_A (wm g ca td cd bi ls us dc pt (nI a) (nI z) en ep hn hp tp lm dd xd yd) sz)) 43 [some (.ref (g 10)), some (.int (if me then 1 else 0)), some (.long (lN (xC tp b 10000000 j))), none] [] (wm g ca td cd bi ls us dc pt (nI (b + j)) (nI z) en ep hn hp tp lm dd xd yd) := by
    intro me b hm hb k
    induction k with
    | zero =>
      intro j hj h0 hd
      have hr : rn tp 10 b (z - b) = j := rn_eq (by omega) hd (Or.inl (by omega))
      refine j_aloadn0 (pc := 43) hC d_m_exponent_43 ?_
      refine j_V0i (pc := 44) (q0 := 0) (ci := 3) hC cw_M_134 (rmD_in (by decide)) (Nat.le_of_ble_eq_true rfl) rfl rfl d_m_exponent_44 (c_m_isDigit (b + j) z hz (by omega)) (fun r w2 h1 => ?_)
      obtain ⟨h1, rfl⟩ := h1
      rcases h1 with ⟨h1, rfl⟩ | ⟨h1, rfl⟩
      · omega
      · refine j_if_eq (pc := 47) hC 92 d_m_exponent_47 (by decide) (fun q => ?_) (fun q => ?_)
        · cases me with
          | true =>
            refine j_iloadn1 (pc := 92) hC d_m_exponent_92 ?_
            refine j_if_eq (pc := 93) hC 101 d_m_exponent_93 (by decide) (fun q2 => ?_) (fun q2 => ?_)
            · exact absurd q2 (by decide)
            · refine j_lloadn2 (pc := 96) hC d_m_exponent_96 ?_
              refine j_lneg (pc := 97) hC d_m_exponent_97 ?_
              refine j_goto (pc := 98) hC 102 d_m_exponent_98 (by decide) ?_
              exact j_lret hC d_m_exponent_102 ⟨_, rfl, true, b, j, hm, hb, hr.symm, Or.inr ⟨by omega, rfl⟩, rfl⟩
          | false =>
            refine j_iloadn1 (pc := 92) hC d_m_exponent_92 ?_
            refine j_if_eq (pc := 93) hC 101 d_m_exponent_93 (by decide) (fun q2 => ?_) (fun q2 => ?_)
            · refine j_lloadn2 (pc := 101) hC d_m_exponent_101 ?_
              exact j_lret hC d_m_exponent_102 ⟨_, rfl, false, b, j, hm, hb, hr.symm, Or.inr ⟨by omega, rfl⟩, rfl⟩
            · exact absurd rfl q2
        · exact absurd rfl q
    | succ k ih =>
      intro j hj h0 hd
      refine j_aloadn0 (pc := 43) hC d_m_exponent_43 ?_
      refine j_V0i (pc := 44) (q0 := 0) (ci := 3) hC cw_M_134 (rmD_in (by decide)) (Nat.le_of_ble_eq_true rfl) rfl rfl d_m_exponent_44 (c_m_isDigit (b + j) z hz (by omega)) (fun r w2 h1 => ?_)
      obtain ⟨h1, rfl⟩ := h1
      rcases h1 with ⟨h1, rfl⟩ | ⟨h1, rfl⟩
      · have hx := xC_lt (t := tp) (c := b) (lim := 10000000) j hd (by omega)
        have hd' : ∀ i, i < j + 1 → dg (tp (b + i)) < 10 := by
          intro i hi
          rcases Nat.lt_or_eq_of_le (Nat.le_of_lt_succ hi) with h | h
          · exact hd i h
          · rw [h]; exact h1.2
        have hcl : (nI (b + j)).toNatClampNeg = b + j := nI_clamp (by omega)
        refine j_if_eq (pc := 47) hC 92 d_m_exponent_47 (by decide) (fun q => ?_) (fun q => ?_)
        · exact absurd q (by decide)
        · refine j_lloadn2 (pc := 50) hC d_m_exponent_50 ?_
          refine j_ldc2 (pc := 51) (v := 10000000) hC mk_M_140 d_m_exponent_51 ?_
          refine j_lcmp (pc := 54) hC d_m_exponent_54 ?_
          refine j_if_ge (pc := 55) hC 79 d_m_exponent_55 (by decide) (fun h2 => ?_) (fun h2 => ?_)
          · have h2 := (lg_cmp_ge _ _).mp h2
            rw [show (10000000 : Int64) = lN 10000000 from rfl, pk_lLE (by omega) (by omega)] at h2
            refine j_aloadn0 (pc := 79) hC d_m_exponent_79 ?_
            refine j_dup (pc := 80) hC d_m_exponent_80 rfl ?_
            refine jg_M_94 (pc := 81) hC d_m_exponent_81 ?_
            refine j_iconst (pc := 84) (v := 1) hC d_m_exponent_84 (by decide) ?_
            refine j_iadd (pc := 85) hC d_m_exponent_85 ?_
            refine jp_M_94 (pc := 86) hC d_m_exponent_86 ?_
            refine j_goto (pc := 89) hC 43 d_m_exponent_89 (by decide) ?_
            refine J.to rfl ?_ rfl ?_ (ih (j + 1) (by omega) h0 hd')
            · rw [show xC tp b 10000000 (j + 1) = xC tp b 10000000 j by rw [xC, if_neg (by omega)]]
            · rw [nI_1]; rfl
          · have h2 : ¬ 10000000 ≤ xC tp b 10000000 j := fun y => h2 ((lg_cmp_ge _ _).mpr ((pk_lLE (a := 10000000) (by omega) (by omega)).mpr y))
            refine j_ldc2 (pc := 58) (v := 10) hC mk_M_86 d_m_exponent_58 ?_
            refine j_lloadn2 (pc := 61) hC d_m_exponent_61 ?_
            refine j_lmul (pc := 62) hC d_m_exponent_62 ?_
            refine j_aloadn0 (pc := 63) hC d_m_exponent_63 ?_
            refine jg_M_9 (pc := 64) hC d_m_exponent_64 ?_
            refine j_aloadn0 (pc := 67) hC d_m_exponent_67 ?_
            refine jg_M_94 (pc := 68) hC d_m_exponent_68 ?_
            refine ja_mtape_baload (pc := 71) hC (vp_in_nI (by omega) (by decide)) d_m_exponent_71 ?_
            refine j_i2l (pc := 72) hC d_m_exponent_72 ?_
            refine j_ladd (pc := 73) hC d_m_exponent_73 ?_
            refine j_ldc2 (pc := 74) (v := 48) hC mk_M_142 d_m_exponent_74 ?_
            refine j_lsub (pc := 77) hC d_m_exponent_77 ?_
            refine j_lstoren2 (pc := 78) hC d_m_exponent_78 (by decide) (by first | exact trivial | exact rfl) ?_
            refine j_aloadn0 (pc := 79) hC d_m_exponent_79 ?_
            refine j_dup (pc := 80) hC d_m_exponent_80 rfl ?_
            refine jg_M_94 (pc := 81) hC d_m_exponent_81 ?_
            refine j_iconst (pc := 84) (v := 1) hC d_m_exponent_84 (by decide) ?_
            refine j_iadd (pc := 85) hC d_m_exponent_85 ?_
            refine jp_M_94 (pc := 86) hC d_m_exponent_86 ?_
            refine j_goto (pc := 89) hC 43 d_m_exponent_89 (by decide) ?_
            refine J.to rfl ?_ rfl ?_ (ih (j + 1) (by omega) h0 hd')
            · rw [hcl, dgl h1.2, show xC tp b 10000000 (j + 1) = 10 * xC tp b 10000000 j + dg (tp (b + j)) by rw [xC, if_pos (by omega)]]
            · rw [nI_1]; rfl
      · have hr : rn tp 10 b (z - b) = j := rn_eq (by omega) hd (Or.inr (by omega))
        refine j_if_eq (pc := 47) hC 92 d_m_exponent_47 (by decide) (fun q => ?_) (fun q => ?_)
        · cases me with
          | true =>
            refine j_iloadn1 (pc := 92) hC d_m_exponent_92 ?_
            refine j_if_eq (pc := 93) hC 101 d_m_exponent_93 (by decide) (fun q2 => ?_) (fun q2 => ?_)
            · exact absurd q2 (by decide)
            · refine j_lloadn2 (pc := 96) hC d_m_exponent_96 ?_
              refine j_lneg (pc := 97) hC d_m_exponent_97 ?_
              refine j_goto (pc := 98) hC 102 d_m_exponent_98 (by decide) ?_
              exact j_lret hC d_m_exponent_102 ⟨_, rfl, true, b, j, hm, hb, hr.symm, Or.inr ⟨by omega, rfl⟩, rfl⟩
          | false =>
            refine j_iloadn1 (pc := 92) hC d_m_exponent_92 ?_
            refine j_if_eq (pc := 93) hC 101 d_m_exponent_93 (by decide) (fun q2 => ?_) (fun q2 => ?_)
            · refine j_lloadn2 (pc := 101) hC d_m_exponent_101 ?_
              exact j_lret hC d_m_exponent_102 ⟨_, rfl, false, b, j, hm, hb, hr.symm, Or.inr ⟨by omega, rfl⟩, rfl⟩
            · exact absurd rfl q2
        · exact absurd rfl q
  have k30 : ∀ (me : Bool) (b : Nat), b ≤ z → (me = true ↔ sgM tp a z) → (sgP tp a z ∧ b = a + 1 ∨ ¬ sgP tp a z ∧ b = a) → J p l e (rmD 1) s m args below meth c D (va_A (wm g ca td cd bi ls us dc pt (nI a) (nI z) en ep hn hp tp lm dd xd yd) sz) 4 (MQ below (jQ D (wm g ca td cd bi ls us dc pt (nI a) (nI z) en ep hn hp tp lm dd xd yd) sz (jPl fun r w => ∃ (me : Bool) (b n : Nat), (me = true ↔ sgM tp a z) ∧ (sgP tp a z ∧ b = a + 1 ∨ ¬ sgP tp a z ∧ b = a) ∧ n = rn tp 10 b (z - b) ∧ (n = 0 ∧ r = -9223372036854775808 ∨ 0 < n ∧ r = (if me then -lN (xC tp b 10000000 n) else lN (xC tp b 10000000 n))) ∧ w = wm g ca td cd bi ls us dc pt (nI (b + n)) (nI z) en ep hn hp tp lm dd xd yd)) args s 0 0 (va_A (wm g ca td cd bi ls us dc pt (nI a) (nI z) en ep hn hp tp lm dd xd yd) sz)) 30 [some (.ref (g 10)), some (.int (if me then 1 else 0)), none, none] [] (wm g ca td cd bi ls us dc pt (nI b) (nI z) en ep hn hp tp lm dd xd yd) := by
    intro me b hbz hm hb
    refine j_aloadn0 (pc := 30) hC d_m_exponent_30 ?_
    refine j_V0i (pc := 31) (q0 := 0) (ci := 3) hC cw_M_134 (rmD_in (by decide)) (Nat.le_of_ble_eq_true rfl) rfl rfl d_m_exponent_31 (c_m_isDigit b z hz hbz) (fun r w2 h1 => ?_)
    obtain ⟨h1, rfl⟩ := h1
    rcases h1 with ⟨h1, rfl⟩ | ⟨h1, rfl⟩
    · refine j_if_ne (pc := 34) hC 41 d_m_exponent_34 (by decide) (fun q => ?_) (fun q => ?_)
      · refine j_lconst (pc := 41) (v := 0) hC d_m_exponent_41 (by decide) ?_
        refine j_lstoren2 (pc := 42) hC d_m_exponent_42 (by decide) (by first | exact trivial | exact rfl) ?_
        exact loop me b hm hb (z - b) 0 (by omega) (rn_ge tp 10 (z - b) b 1 (by omega) (fun i hi => by have : i = 0 := by omega
                                                                                                       subst this
                                                                                                       exact h1.2)) (fun i hi => absurd hi (by omega))
      · exact absurd q (by decide)
    · refine j_if_ne (pc := 34) hC 41 d_m_exponent_34 (by decide) (fun q => ?_) (fun q => ?_)
      · exact absurd rfl q
      · have hr : rn tp 10 b (z - b) = 0 := rn_eq (by omega) (fun i hi => absurd hi (by omega)) (by rcases Nat.lt_or_ge b z with y | y
                                                                                                    · exact Or.inr (fun y2 => h1 ⟨y, y2⟩)
                                                                                                    · exact Or.inl (by omega))
        refine j_ldc2 (pc := 37) (v := -9223372036854775808) hC mk_M_55 d_m_exponent_37 ?_
        exact j_lret hC d_m_exponent_40 ⟨_, rfl, me, b, 0, hm, hb, hr.symm, Or.inl ⟨rfl, rfl⟩, rfl⟩
  refine j_aloadn0 (pc := 0) hC d_m_exponent_0 ?_
  refine j_bipush (pc := 1) (v := 45) hC d_m_exponent_1 (by decide) ?_
  refine j_V1i (pc := 3) (q0 := 0) (ci := 3) hC cw_M_110 (rmD_in (by decide)) (Nat.le_of_ble_eq_true rfl) rfl rfl d_m_exponent_3 (c_m_is 45 a z hz ha) (fun r w2 h1 => ?_)
  obtain ⟨h1, rfl⟩ := h1
  rcases h1 with ⟨h1, rfl⟩ | ⟨h1, rfl⟩
  · have := h1.1
    refine j_istoren1 (pc := 6) hC d_m_exponent_6 (by decide) (by first | exact trivial | exact rfl) ?_
    refine j_iloadn1 (pc := 7) hC d_m_exponent_7 ?_
    refine j_if_ne (pc := 8) hC 20 d_m_exponent_8 (by decide) (fun q => ?_) (fun q => ?_)
    · refine j_aloadn0 (pc := 20) hC d_m_exponent_20 ?_
      refine j_dup (pc := 21) hC d_m_exponent_21 rfl ?_
      refine jg_M_94 (pc := 22) hC d_m_exponent_22 ?_
      refine j_iconst (pc := 25) (v := 1) hC d_m_exponent_25 (by decide) ?_
      refine j_iadd (pc := 26) hC d_m_exponent_26 ?_
      refine jp_M_94 (pc := 27) hC d_m_exponent_27 ?_
      refine J.to rfl rfl rfl ?_ (k30 true (a + 1) (by omega) ⟨fun _ => h1, fun _ => rfl⟩ (Or.inl ⟨Or.inl h1, rfl⟩))
      rw [nI_1]
    · exact absurd q (by decide)
  · refine j_istoren1 (pc := 6) hC d_m_exponent_6 (by decide) (by first | exact trivial | exact rfl) ?_
    refine j_iloadn1 (pc := 7) hC d_m_exponent_7 ?_
    refine j_if_ne (pc := 8) hC 20 d_m_exponent_8 (by decide) (fun q => ?_) (fun q => ?_)
    · exact absurd rfl q
    · refine j_aloadn0 (pc := 11) hC d_m_exponent_11 ?_
      refine j_bipush (pc := 12) (v := 43) hC d_m_exponent_12 (by decide) ?_
      refine j_V1i (pc := 14) (q0 := 0) (ci := 3) hC cw_M_110 (rmD_in (by decide)) (Nat.le_of_ble_eq_true rfl) rfl rfl d_m_exponent_14 (c_m_is 43 a z hz ha) (fun r w2 h2 => ?_)
      obtain ⟨h2, rfl⟩ := h2
      rcases h2 with ⟨h2, rfl⟩ | ⟨h2, rfl⟩
      · have := h2.1
        refine j_if_eq (pc := 17) hC 30 d_m_exponent_17 (by decide) (fun q2 => ?_) (fun q2 => ?_)
        · exact absurd q2 (by decide)
        · refine j_aloadn0 (pc := 20) hC d_m_exponent_20 ?_
          refine j_dup (pc := 21) hC d_m_exponent_21 rfl ?_
          refine jg_M_94 (pc := 22) hC d_m_exponent_22 ?_
          refine j_iconst (pc := 25) (v := 1) hC d_m_exponent_25 (by decide) ?_
          refine j_iadd (pc := 26) hC d_m_exponent_26 ?_
          refine jp_M_94 (pc := 27) hC d_m_exponent_27 ?_
          refine J.to rfl rfl rfl ?_ (k30 false (a + 1) (by omega) ⟨fun y => (by cases y), fun y => absurd y h1⟩ (Or.inl ⟨Or.inr h2, rfl⟩))
          rw [nI_1]
      · refine j_if_eq (pc := 17) hC 30 d_m_exponent_17 (by decide) (fun q2 => ?_) (fun q2 => ?_)
        · exact k30 false a ha ⟨fun y => (by cases y), fun y => absurd y h1⟩ (Or.inr ⟨fun y => y.elim h1 h2, rfl⟩)
        · exact absurd rfl q2
end MS

