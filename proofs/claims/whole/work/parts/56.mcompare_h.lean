section MC
variable {l : Launch} {D : va_G} {X : jX} {g : Nat → Nat} {ca : Nat → ClassId} {td cd bi ls us dc : Int32} {pt : Int64} {ps sp en ep hn hp : Int32} {tp : Nat → Int32} {lm : Nat → Int64} {dd xd yd : Nat → Int32}
set_option maxHeartbeats 4000000 in
theorem c_m_compare_h (fd : Nat → Nat) (n cc dn K : Nat) (pv : Int64) (P q pp : Int) (hd : ∀ i, i < n → dd i = nI (fd i)) (hd9 : ∀ i, i < n → fd i < 10) (hn0 : 0 < n) (hN : n ≤ 8192) (hf0 : 0 < fd 0) (hpv : pv.toInt = P) (hP1 : -400 ≤ P) (hP2 : P ≤ 400) (hK : 10000 ≤ K) (hpp : hp.toInt = pp) (hR : rowR cc q yd dn pp) : jM l y_m_compare b_m_compare 8 (some .int) (rmD 0) D (tyM ca) X [.ref (g 15), .int (nI n), .long pv, .ref (g 14)] (wm g ca td cd bi ls us dc pt ps sp en ep (nI dn) hp tp lm dd xd yd) (jPi fun r w => ((sv fd n P K < cc * 2 ^ (q + K).toNat * 5 ^ K ∧ r = -1) ∨ (sv fd n P K = cc * 2 ^ (q + K).toNat * 5 ^ K ∧ r = 0) ∨ (cc * 2 ^ (q + K).toNat * 5 ^ K < sv fd n P K ∧ r = 1)) ∧ w = wm g ca td cd bi ls us dc pt ps sp en ep (nI dn) hp tp lm dd xd yd) := by
  refine jM.of [some (.ref (g 15)), some (.int (nI n)), some (.long pv), none, some (.ref (g 14)), none, none, none] (by simp [jle, jent, Value.category]) rfl (Nat.le_of_ble_eq_true rfl) ?_
  intro p e s m args below meth c sz hC
  obtain ⟨df, hr1, hr2, hr3, hr4, hr5, hr6, hr7⟩ := hR
  have e7 := hr7 K (by omega)
  have fin : ∀ r : Int32, ((sv fd n P K < sv df dn pp K ∧ r = -1) ∨ (sv fd n P K = sv df dn pp K ∧ r = 0) ∨ (sv df dn pp K < sv fd n P K ∧ r = 1)) → ((sv fd n P K < cc * 2 ^ (q + K).toNat * 5 ^ K ∧ r = -1) ∨ (sv fd n P K = cc * 2 ^ (q + K).toNat * 5 ^ K ∧ r = 0) ∨ (cc * 2 ^ (q + K).toNat * 5 ^ K < sv fd n P K ∧ r = 1)) := by
    intro r h
    rw [← e7]
    exact h
  have loop : P = pp → 0 < dn → ∀ (d i : Nat) (o6 o7 : Option Value), i + d = max n dn → (∀ j, j < i → dz fd n j = dz df dn j) → J p l e (rmD 0) s m args below meth c D (va_A (wm g ca td cd bi ls us dc pt ps sp en ep (nI dn) hp tp lm dd xd yd) sz) 8 (MQ below (jQ D (wm g ca td cd bi ls us dc pt ps sp en ep (nI dn) hp tp lm dd xd yd) sz (jPi fun r w => ((sv fd n P K < cc * 2 ^ (q + K).toNat * 5 ^ K ∧ r = -1) ∨ (sv fd n P K = cc * 2 ^ (q + K).toNat * 5 ^ K ∧ r = 0) ∨ (cc * 2 ^ (q + K).toNat * 5 ^ K < sv fd n P K ∧ r = 1)) ∧ w = wm g ca td cd bi ls us dc pt ps sp en ep (nI dn) hp tp lm dd xd yd)) args s 0 0 (va_A (wm g ca td cd bi ls us dc pt ps sp en ep (nI dn) hp tp lm dd xd yd) sz)) 65 [some (.ref (g 15)), some (.int (nI n)), some (.long pv), none, some (.ref (g 14)), some (.int (nI i)), o6, o7] [] (wm g ca td cd bi ls us dc pt ps sp en ep (nI dn) hp tp lm dd xd yd) := by
    intro hPp hdn d
    induction d with
    | zero =>
      intro i o6 o7 hi he
      refine j_iload5 (pc := 65) hC d_m_compare_65 ?_
      refine j_iloadn1 (pc := 67) hC d_m_compare_67 ?_
      refine j_icmp_lt (pc := 68) hC 81 d_m_compare_68 (by decide) (fun h1 => ?_) (fun h1 => ?_)
      · rw [nI_ltI (by omega) (by omega)] at h1
        omega
      · refine j_iload5 (pc := 71) hC d_m_compare_71 ?_
        refine j_aload4 (pc := 73) hC d_m_compare_73 ?_
        refine jg_M_81h (pc := 75) hC d_m_compare_75 ?_
        refine j_icmp_ge (pc := 78) hC 147 d_m_compare_78 (by decide) (fun h2 => ?_) (fun h2 => ?_)
        · refine j_iconst (pc := 147) (v := 0) hC d_m_compare_147 (by decide) ?_
          refine j_iret hC d_m_compare_148 ⟨0, rfl, fin 0 (Or.inr (Or.inl ⟨?_, rfl⟩)), rfl⟩
          rw [hPp]
          exact sv_same (m := i) (by omega) (by omega) (by omega) he
        · rw [nI_leI (by omega) (by omega)] at h2
          omega
    | succ d ih =>
      intro i o6 o7 hi he
      have hcl : (nI i).toNatClampNeg = i := nI_clamp (by omega)
      have hx9 : dz fd n i < 10 := by
        unfold dz
        split
        · exact hd9 i (by assumption)
        · omega
      have hy9 : dz df dn i < 10 := by
        unfold dz
        split
        · exact hr3 i (by assumption)
        · omega
      have k121 : J p l e (rmD 0) s m args below meth c D (va_A (wm g ca td cd bi ls us dc pt ps sp en ep (nI dn) hp tp lm dd xd yd) sz) 8 (MQ below (jQ D (wm g ca td cd bi ls us dc pt ps sp en ep (nI dn) hp tp lm dd xd yd) sz (jPi fun r w => ((sv fd n P K < cc * 2 ^ (q + K).toNat * 5 ^ K ∧ r = -1) ∨ (sv fd n P K = cc * 2 ^ (q + K).toNat * 5 ^ K ∧ r = 0) ∨ (cc * 2 ^ (q + K).toNat * 5 ^ K < sv fd n P K ∧ r = 1)) ∧ w = wm g ca td cd bi ls us dc pt ps sp en ep (nI dn) hp tp lm dd xd yd)) args s 0 0 (va_A (wm g ca td cd bi ls us dc pt ps sp en ep (nI dn) hp tp lm dd xd yd) sz)) 121 [some (.ref (g 15)), some (.int (nI n)), some (.long pv), none, some (.ref (g 14)), some (.int (nI i)), some (.int (nI (dz fd n i))), some (.int (nI (dz df dn i)))] [] (wm g ca td cd bi ls us dc pt ps sp en ep (nI dn) hp tp lm dd xd yd) := by
        refine j_iload6 (pc := 121) hC d_m_compare_121 ?_
        refine j_iload7 (pc := 123) hC d_m_compare_123 ?_
        refine j_icmp_eq (pc := 125) hC 141 d_m_compare_125 (by decide) (fun h1 => ?_) (fun h1 => ?_)
        · rw [nI_eq (by omega) (by omega)] at h1
          refine j_iinc5 (pc := 141) hC d_m_compare_141 (by decide) (by first | exact trivial | exact rfl) ?_
          refine j_goto (pc := 144) hC 65 d_m_compare_144 (by decide) ?_
          refine J.to rfl ?_ rfl rfl (ih (i + 1) (some (.int (nI (dz fd n i)))) (some (.int (nI (dz df dn i)))) (by omega) (fun j hj => ?_))
          · rw [← nI_1]
            rfl
          · rcases Nat.lt_or_eq_of_le (Nat.le_of_lt_succ hj) with y | y
            · exact he j y
            · rw [y]; exact h1
        · rw [nI_eq (by omega) (by omega)] at h1
          refine j_iload6 (pc := 128) hC d_m_compare_128 ?_
          refine j_iload7 (pc := 130) hC d_m_compare_130 ?_
          refine j_icmp_ge (pc := 132) hC 139 d_m_compare_132 (by decide) (fun h2 => ?_) (fun h2 => ?_)
          · rw [nI_leI (by omega) (by omega)] at h2
            refine j_iconst (pc := 139) (v := 1) hC d_m_compare_139 (by decide) ?_
            refine j_iret hC d_m_compare_140 ⟨1, rfl, fin 1 (Or.inr (Or.inr ⟨?_, rfl⟩)), rfl⟩
            rw [hPp]
            exact sv_first (m := max n dn) (k := i) hr3 (by omega) (by omega) (by omega) (by omega) (fun j hj => (he j hj).symm) (by omega)
          · rw [nI_leI (by omega) (by omega)] at h2
            refine j_iconst (pc := 135) (v := -1) hC d_m_compare_135 (by decide) ?_
            refine j_goto (pc := 136) hC 140 d_m_compare_136 (by decide) ?_
            refine j_iret hC d_m_compare_140 ⟨-1, rfl, fin (-1) (Or.inl ⟨?_, rfl⟩), rfl⟩
            rw [hPp]
            exact sv_first (m := max n dn) (k := i) hd9 (by omega) (by omega) (by omega) (by omega) he (by omega)
      have k97 : ∀ o7 : Option Value, J p l e (rmD 0) s m args below meth c D (va_A (wm g ca td cd bi ls us dc pt ps sp en ep (nI dn) hp tp lm dd xd yd) sz) 8 (MQ below (jQ D (wm g ca td cd bi ls us dc pt ps sp en ep (nI dn) hp tp lm dd xd yd) sz (jPi fun r w => ((sv fd n P K < cc * 2 ^ (q + K).toNat * 5 ^ K ∧ r = -1) ∨ (sv fd n P K = cc * 2 ^ (q + K).toNat * 5 ^ K ∧ r = 0) ∨ (cc * 2 ^ (q + K).toNat * 5 ^ K < sv fd n P K ∧ r = 1)) ∧ w = wm g ca td cd bi ls us dc pt ps sp en ep (nI dn) hp tp lm dd xd yd)) args s 0 0 (va_A (wm g ca td cd bi ls us dc pt ps sp en ep (nI dn) hp tp lm dd xd yd) sz)) 97 [some (.ref (g 15)), some (.int (nI n)), some (.long pv), none, some (.ref (g 14)), some (.int (nI i)), some (.int (nI (dz fd n i))), o7] [] (wm g ca td cd bi ls us dc pt ps sp en ep (nI dn) hp tp lm dd xd yd) := by
        intro o7
        refine j_iload5 (pc := 97) hC d_m_compare_97 ?_
        refine j_aload4 (pc := 99) hC d_m_compare_99 ?_
        refine jg_M_81h (pc := 101) hC d_m_compare_101 ?_
        refine j_icmp_ge (pc := 104) hC 118 d_m_compare_104 (by decide) (fun h1 => ?_) (fun h1 => ?_)
        · rw [nI_leI (by omega) (by omega)] at h1
          refine j_iconst (pc := 118) (v := 0) hC d_m_compare_118 (by decide) ?_
          refine j_istore7 (pc := 119) hC d_m_compare_119 (by decide) (by first | exact trivial | exact rfl) ?_
          refine J.to rfl ?_ rfl rfl k121
          rw [show dz df dn i = 0 by unfold dz; rw [if_neg (by omega)]]
          rfl
        · rw [nI_leI (by omega) (by omega)] at h1
          refine j_aload4 (pc := 107) hC d_m_compare_107 ?_
          refine jg_M_88h (pc := 109) hC d_m_compare_109 ?_
          refine j_iload5 (pc := 112) hC d_m_compare_112 ?_
          refine ja_hd_baload (pc := 114) hC (vp_in_nI (by omega) (by decide)) d_m_compare_114 ?_
          refine j_goto (pc := 115) hC 119 d_m_compare_115 (by decide) ?_
          refine j_istore7 (pc := 119) hC d_m_compare_119 (by decide) (by first | exact trivial | exact rfl) ?_
          refine J.to rfl ?_ rfl rfl k121
          rw [hcl, show dz df dn i = df i by unfold dz; rw [if_pos (by omega)], hr2 i (by omega)]
      have k81 : J p l e (rmD 0) s m args below meth c D (va_A (wm g ca td cd bi ls us dc pt ps sp en ep (nI dn) hp tp lm dd xd yd) sz) 8 (MQ below (jQ D (wm g ca td cd bi ls us dc pt ps sp en ep (nI dn) hp tp lm dd xd yd) sz (jPi fun r w => ((sv fd n P K < cc * 2 ^ (q + K).toNat * 5 ^ K ∧ r = -1) ∨ (sv fd n P K = cc * 2 ^ (q + K).toNat * 5 ^ K ∧ r = 0) ∨ (cc * 2 ^ (q + K).toNat * 5 ^ K < sv fd n P K ∧ r = 1)) ∧ w = wm g ca td cd bi ls us dc pt ps sp en ep (nI dn) hp tp lm dd xd yd)) args s 0 0 (va_A (wm g ca td cd bi ls us dc pt ps sp en ep (nI dn) hp tp lm dd xd yd) sz)) 81 [some (.ref (g 15)), some (.int (nI n)), some (.long pv), none, some (.ref (g 14)), some (.int (nI i)), o6, o7] [] (wm g ca td cd bi ls us dc pt ps sp en ep (nI dn) hp tp lm dd xd yd) := by
        refine j_iload5 (pc := 81) hC d_m_compare_81 ?_
        refine j_iloadn1 (pc := 83) hC d_m_compare_83 ?_
        refine j_icmp_ge (pc := 84) hC 94 d_m_compare_84 (by decide) (fun h1 => ?_) (fun h1 => ?_)
        · rw [nI_leI (by omega) (by omega)] at h1
          refine j_iconst (pc := 94) (v := 0) hC d_m_compare_94 (by decide) ?_
          refine j_istore6 (pc := 95) hC d_m_compare_95 (by decide) (by first | exact trivial | exact rfl) ?_
          refine J.to rfl ?_ rfl rfl (k97 o7)
          rw [show dz fd n i = 0 by unfold dz; rw [if_neg (by omega)]]
          rfl
        · rw [nI_leI (by omega) (by omega)] at h1
          refine j_aloadn0 (pc := 87) hC d_m_compare_87 ?_
          refine j_iload5 (pc := 88) hC d_m_compare_88 ?_
          refine ja_digits_baload (pc := 90) hC (vp_in_nI (by omega) (by decide)) d_m_compare_90 ?_
          refine j_goto (pc := 91) hC 95 d_m_compare_91 (by decide) ?_
          refine j_istore6 (pc := 95) hC d_m_compare_95 (by decide) (by first | exact trivial | exact rfl) ?_
          refine J.to rfl ?_ rfl rfl (k97 o7)
          rw [hcl, show dz fd n i = fd i by unfold dz; rw [if_pos (by omega)], hd i (by omega)]
      refine j_iload5 (pc := 65) hC d_m_compare_65 ?_
      refine j_iloadn1 (pc := 67) hC d_m_compare_67 ?_
      refine j_icmp_lt (pc := 68) hC 81 d_m_compare_68 (by decide) (fun h1 => ?_) (fun h1 => ?_)
      · exact k81
      · rw [nI_ltI (by omega) (by omega)] at h1
        refine j_iload5 (pc := 71) hC d_m_compare_71 ?_
        refine j_aload4 (pc := 73) hC d_m_compare_73 ?_
        refine jg_M_81h (pc := 75) hC d_m_compare_75 ?_
        refine j_icmp_ge (pc := 78) hC 147 d_m_compare_78 (by decide) (fun h2 => ?_) (fun h2 => ?_)
        · rw [nI_leI (by omega) (by omega)] at h2
          omega
        · exact k81
  have k34 : 0 < dn → J p l e (rmD 0) s m args below meth c D (va_A (wm g ca td cd bi ls us dc pt ps sp en ep (nI dn) hp tp lm dd xd yd) sz) 8 (MQ below (jQ D (wm g ca td cd bi ls us dc pt ps sp en ep (nI dn) hp tp lm dd xd yd) sz (jPi fun r w => ((sv fd n P K < cc * 2 ^ (q + K).toNat * 5 ^ K ∧ r = -1) ∨ (sv fd n P K = cc * 2 ^ (q + K).toNat * 5 ^ K ∧ r = 0) ∨ (cc * 2 ^ (q + K).toNat * 5 ^ K < sv fd n P K ∧ r = 1)) ∧ w = wm g ca td cd bi ls us dc pt ps sp en ep (nI dn) hp tp lm dd xd yd)) args s 0 0 (va_A (wm g ca td cd bi ls us dc pt ps sp en ep (nI dn) hp tp lm dd xd yd) sz)) 34 [some (.ref (g 15)), some (.int (nI n)), some (.long pv), none, some (.ref (g 14)), none, none, none] [] (wm g ca td cd bi ls us dc pt ps sp en ep (nI dn) hp tp lm dd xd yd) := by
    intro hdn
    have epp : (hp).toInt64.toInt = pp := by rw [Int32.toInt_toInt64, hpp]
    refine j_lloadn2 (pc := 34) hC d_m_compare_34 ?_
    refine j_aload4 (pc := 35) hC d_m_compare_35 ?_
    refine jg_M_91h (pc := 37) hC d_m_compare_37 ?_
    refine j_i2l (pc := 40) hC d_m_compare_40 ?_
    refine j_lcmp (pc := 41) hC d_m_compare_41 ?_
    refine j_if_eq (pc := 42) hC 62 d_m_compare_42 (by decide) (fun h1 => ?_) (fun h1 => ?_)
    · have h1 := (lg_cmp_eq _ _).mp h1
      have hPp : P = pp := by rw [← hpv, h1, epp]
      refine j_iconst (pc := 62) (v := 0) hC d_m_compare_62 (by decide) ?_
      refine j_istore5 (pc := 63) hC d_m_compare_63 (by decide) (by first | exact trivial | exact rfl) ?_
      exact loop hPp hdn (max n dn) 0 none none (by omega) (fun j hj => absurd hj (by omega))
    · have h1 : ¬ P = pp := fun y => h1 ((lg_cmp_eq _ _).mpr (Int64.toInt_inj.mp (by rw [hpv, epp, y])))
      refine j_lloadn2 (pc := 45) hC d_m_compare_45 ?_
      refine j_aload4 (pc := 46) hC d_m_compare_46 ?_
      refine jg_M_91h (pc := 48) hC d_m_compare_48 ?_
      refine j_i2l (pc := 51) hC d_m_compare_51 ?_
      refine j_lcmp (pc := 52) hC d_m_compare_52 ?_
      refine j_if_ge (pc := 53) hC 60 d_m_compare_53 (by decide) (fun h2 => ?_) (fun h2 => ?_)
      · have h2 := (lg_cmp_ge _ _).mp h2
        rw [Int64.le_iff_toInt_le, epp, hpv] at h2
        refine j_iconst (pc := 60) (v := 1) hC d_m_compare_60 (by decide) ?_
        refine j_iret hC d_m_compare_61 ⟨1, rfl, fin 1 (Or.inr (Or.inr ⟨?_, rfl⟩)), rfl⟩
        exact sv_p hr3 hn0 hf0 (by omega) (by omega) (by omega)
      · have h2 : ¬ pp ≤ P := fun y => h2 ((lg_cmp_ge _ _).mpr (by rw [Int64.le_iff_toInt_le, epp, hpv]; exact y))
        refine j_iconst (pc := 56) (v := -1) hC d_m_compare_56 (by decide) ?_
        refine j_goto (pc := 57) hC 61 d_m_compare_57 (by decide) ?_
        refine j_iret hC d_m_compare_61 ⟨-1, rfl, fin (-1) (Or.inl ⟨?_, rfl⟩), rfl⟩
        exact sv_p hd9 hdn (hr4 hdn) (by omega) (by omega) (by omega)
  refine j_iloadn1 (pc := 0) hC d_m_compare_0 ?_
  refine j_if_eq (pc := 1) hC 12 d_m_compare_1 (by decide) (fun h1 => ?_) (fun h1 => ?_)
  · exact absurd h1 (nI_ne0 hn0 (by omega))
  · refine j_aload4 (pc := 4) hC d_m_compare_4 ?_
    refine jg_M_81h (pc := 6) hC d_m_compare_6 ?_
    refine j_if_ne (pc := 9) hC 34 d_m_compare_9 (by decide) (fun h2 => ?_) (fun h2 => ?_)
    · exact k34 (Nat.pos_of_ne_zero (fun y => h2 (by rw [y]; rfl)))
    · have hdn : dn = 0 := (nI_eq (b := 0) (by omega) (by omega)).mp h2
      refine j_iloadn1 (pc := 12) hC d_m_compare_12 ?_
      refine j_if_ne (pc := 13) hC 32 d_m_compare_13 (by decide) (fun h3 => ?_) (fun h3 => ?_)
      · refine j_iconst (pc := 32) (v := 1) hC d_m_compare_32 (by decide) ?_
        refine j_iret hC d_m_compare_33 ⟨1, rfl, fin 1 (Or.inr (Or.inr ⟨?_, rfl⟩)), rfl⟩
        have e0 : sv df dn pp K = 0 := by
          rw [hdn]
          exact Nat.zero_mul _
        rw [e0]
        exact Nat.lt_of_lt_of_le (Nat.pow_pos (by omega)) (sv_ge hn0 hf0 (by omega))
      · exact absurd h3 (nI_ne0 hn0 (by omega))
end MC

