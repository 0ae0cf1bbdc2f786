section MN
variable {l : Launch} {D : va_G} {X : jX} {g : Nat → Nat} {ca : Nat → ClassId} {td cd us dc : Int32} {pt : Int64} {ps sp en ep hn hp : Int32} {tp : Nat → Int32} {lm : Nat → Int64} {dd xd yd : Nat → Int32}
set_option maxHeartbeats 4000000 in
theorem c_m_nearest_f (fd : Nat → Nat) (n K : Nat) (P : Int) (hd : ∀ i, i < n → dd i = nI (fd i)) (hd9 : ∀ i, i < n → fd i < 10) (hn0 : 0 < n) (hN : n ≤ 8192) (hf0 : 0 < fd 0) (hpv : pt.toInt = P) (hK : 10000 ≤ K) (hKP : 0 ≤ P - n + K) : jM l y_m_nearest b_m_nearest 7 (some .long) (rmD 2) D (tyM ca) X [.ref (g 10)] (wm g ca td cd (24) (-149) us (nI n) pt ps sp en ep hn hp tp lm dd xd yd) (jPl fun r w => ∃ (a : Nat) (us2 en2 ep2 hn2 hp2 : Int32) (lm2 : Nat → Int64) (xd2 yd2 : Nat → Int32), a ≤ 2139095040 ∧ kR 23 939 2139095040 (sv fd n P K * T34) (10 ^ K) a ∧ r = lN a ∧ w = wm g ca td cd (24) (-149) (us2) (nI n) pt ps sp (en2) (ep2) (hn2) (hp2) tp (lm2) dd (xd2) (yd2)) := by
  refine jM.of [some (.ref (g 10)), none, none, none, none, none, none] (by simp [jle, jent, Value.category]) rfl (Nat.le_of_ble_eq_true rfl) ?_
  intro p e s m args below meth c sz hC
  have hT := T34_pos
  have e4 : (400 : Int64).toInt = 400 := rfl
  have e4m : (-400 : Int64).toInt = -400 := rfl
  have qb : ∀ a : Nat, a < 2139095040 → a / 2 ^ 23 ≤ 254 := by
    intro a ha
    have := Nat.div_le_div_right (c := 2 ^ 23) (Nat.le_sub_one_of_lt ha)
    exact Nat.le_trans this (by decide)
  refine j_aloadn0 (pc := 0) hC d_m_nearest_0 ?_
  refine jg_M_147 (pc := 1) hC d_m_nearest_1 ?_
  refine j_ldc2 (pc := 4) (v := 400) hC mk_M_159 d_m_nearest_4 ?_
  refine j_lcmp (pc := 7) hC d_m_nearest_7 ?_
  refine j_if_le (pc := 8) hC 16 d_m_nearest_8 (by decide) (fun h1 => ?_) (fun h1 => ?_)
  · have h1 := (lg_cmp_le _ _).mp h1
    rw [Int64.le_iff_toInt_le, e4, hpv] at h1
    refine j_aloadn0 (pc := 16) hC d_m_nearest_16 ?_
    refine jg_M_147 (pc := 17) hC d_m_nearest_17 ?_
    refine j_ldc2 (pc := 20) (v := -400) hC mk_M_161 d_m_nearest_20 ?_
    refine j_lcmp (pc := 23) hC d_m_nearest_23 ?_
    refine j_if_ge (pc := 24) hC 29 d_m_nearest_24 (by decide) (fun h2 => ?_) (fun h2 => ?_)
    · have h2 := (lg_cmp_ge _ _).mp h2
      rw [Int64.le_iff_toInt_le, e4m, hpv] at h2
      have k113 : ∀ (a : Nat) (us2 en2 ep2 : Int32) (lm2 : Nat → Int64) (xd2 : Nat → Int32) (b : Nat) (o5 o6 : Option Value), a < 2139095040 → kG 23 939 a * 10 ^ K ≤ sv fd n P K * T34 → (sv fd n P K * T34 < kG 23 939 (a + 1) * 10 ^ K ∨ a + 1 = 2139095040) → J p l e (rmD 2) s m args below meth c D (va_A (wm g ca td cd (24) (-149) us (nI n) pt ps sp en ep hn hp tp lm dd xd yd) sz) 7 (MQ below (jQ D (wm g ca td cd (24) (-149) us (nI n) pt ps sp en ep hn hp tp lm dd xd yd) sz (jPl fun r w => ∃ (a : Nat) (us2 en2 ep2 hn2 hp2 : Int32) (lm2 : Nat → Int64) (xd2 yd2 : Nat → Int32), a ≤ 2139095040 ∧ kR 23 939 2139095040 (sv fd n P K * T34) (10 ^ K) a ∧ r = lN a ∧ w = wm g ca td cd (24) (-149) (us2) (nI n) pt ps sp (en2) (ep2) (hn2) (hp2) tp (lm2) dd (xd2) (yd2))) args s 0 0 (va_A (wm g ca td cd (24) (-149) us (nI n) pt ps sp en ep hn hp tp lm dd xd yd) sz)) 113 [some (.ref (g 10)), some (.long (lN a)), none, some (.long (lN b)), none, o5, o6] [] (wm g ca td cd (24) (-149) (us2) (nI n) pt ps sp (en2) (ep2) hn hp tp (lm2) dd (xd2) yd) := by
        intro a us2 en2 ep2 lm2 xd2 b o5 o6 ha hA hB
        have hc := kc_lt 23 a
        have hqa := qb a ha
        refine j_aloadn0 (pc := 113) hC d_m_nearest_113 ?_
        refine j_ldc2 (pc := 114) (v := 2) hC mk_M_163 d_m_nearest_114 ?_
        refine j_aloadn0 (pc := 117) hC d_m_nearest_117 ?_
        refine j_lloadn1 (pc := 118) hC d_m_nearest_118 ?_
        refine j_V1l (pc := 119) (q0 := 0) (ci := 3) hC cw_M_165 (rmD_in (by decide)) (Nat.le_of_ble_eq_true rfl) rfl rfl d_m_nearest_119 (c_m_c_f a (by omega)) (fun r w2 h3 => ?_)
        obtain ⟨rfl, rfl⟩ := h3
        refine j_lmul (pc := 122) hC d_m_nearest_122 ?_
        refine j_lconst (pc := 123) (v := 1) hC d_m_nearest_123 (by decide) ?_
        refine j_ladd (pc := 124) hC d_m_nearest_124 ?_
        refine J.topl (y := lN (2 * kc 23 a + 1)) (by rw [show (2 : Int64) = lN 2 from rfl, lN_mul, lN_1]) ?_
        refine j_aloadn0 (pc := 125) hC d_m_nearest_125 ?_
        refine j_lloadn1 (pc := 126) hC d_m_nearest_126 ?_
        refine j_V1i (pc := 127) (q0 := 0) (ci := 3) hC cw_M_169 (rmD_in (by decide)) (Nat.le_of_ble_eq_true rfl) rfl rfl d_m_nearest_127 (c_m_q_f a (by omega)) (fun r w2 h3 => ?_)
        obtain ⟨hq, rfl⟩ := h3
        have e1 : (1 : Int32).toInt = 1 := rfl
        have hq1 : (r - 1).toInt = -149 + ((a / 2 ^ 23 - 1 : Nat) : Int) - 1 := by
          rw [tsub (by rw [hq, e1]; omega) (by rw [hq, e1]; omega), hq, e1]
        refine j_iconst (pc := 130) (v := 1) hC d_m_nearest_130 (by decide) ?_
        refine j_isub (pc := 131) hC d_m_nearest_131 ?_
        generalize r - 1 = q1 at hq1 ⊢
        refine j_aloadn0 (pc := 132) hC d_m_nearest_132 ?_
        refine jg_M_24 (pc := 133) hC d_m_nearest_133 ?_
        refine j_V3v (pc := 136) (q0 := 0) (ci := 3) hC cw_M_173 (rmD_in (by decide)) (Nat.le_of_ble_eq_true rfl) rfl rfl d_m_nearest_136 (c_m_row_h (2 * kc 23 a + 1) q1 (by omega) (by omega) (by omega)) (fun w2 h3 => ?_)
        obtain ⟨us3, lm3, dn, pp, p3, x3, hpp, hR, rfl⟩ := h3
        have hmid := near_mid (p := 23) (u := 939) (a := a) (K := K) (q := q1.toInt) (by rw [hq1]; omega) (by omega)
        refine j_aloadn0 (pc := 139) hC d_m_nearest_139 ?_
        refine jg_M_27 (pc := 140) hC d_m_nearest_140 ?_
        refine j_aloadn0 (pc := 143) hC d_m_nearest_143 ?_
        refine jg_M_144 (pc := 144) hC d_m_nearest_144 ?_
        refine j_aloadn0 (pc := 147) hC d_m_nearest_147 ?_
        refine jg_M_147 (pc := 148) hC d_m_nearest_148 ?_
        refine j_aloadn0 (pc := 151) hC d_m_nearest_151 ?_
        refine jg_M_24 (pc := 152) hC d_m_nearest_152 ?_
        refine j_S4i (pc := 155) hC cw_M_177 (rmD_in (by decide)) (Nat.le_of_ble_eq_true rfl) d_m_nearest_155 (c_m_compare_h fd n (2 * kc 23 a + 1) dn K pt P q1.toInt pp hd hd9 hn0 hN hf0 hpv (by omega) (by omega) hK hpp hR) (fun r w2 h3 => ?_)
        obtain ⟨h3, rfl⟩ := h3
        have c1 := cmp_lt2 (S := sv fd n P K) hmid hT
        have c2 := cmp_eq2 (S := sv fd n P K) hmid hT
        have k178 : ∀ (o5 : Option Value), (2 * (sv fd n P K * T34) < (kG 23 939 a + kG 23 939 (a + 1)) * 10 ^ K ∨ (2 * (sv fd n P K * T34) = (kG 23 939 a + kG 23 939 (a + 1)) * 10 ^ K ∧ a % 2 = 0)) → J p l e (rmD 2) s m args below meth c D (va_A (wm g ca td cd (24) (-149) us (nI n) pt ps sp en ep hn hp tp lm dd xd yd) sz) 7 (MQ below (jQ D (wm g ca td cd (24) (-149) us (nI n) pt ps sp en ep hn hp tp lm dd xd yd) sz (jPl fun r w => ∃ (a : Nat) (us2 en2 ep2 hn2 hp2 : Int32) (lm2 : Nat → Int64) (xd2 yd2 : Nat → Int32), a ≤ 2139095040 ∧ kR 23 939 2139095040 (sv fd n P K * T34) (10 ^ K) a ∧ r = lN a ∧ w = wm g ca td cd (24) (-149) (us2) (nI n) pt ps sp (en2) (ep2) (hn2) (hp2) tp (lm2) dd (xd2) (yd2))) args s 0 0 (va_A (wm g ca td cd (24) (-149) us (nI n) pt ps sp en ep hn hp tp lm dd xd yd) sz)) 178 [some (.ref (g 10)), some (.long (lN a)), none, some (.long (lN b)), none, o5, o6] [] (wm g ca td cd (24) (-149) (us3) (nI n) pt ps sp (en2) (ep2) (nI dn) (p3) tp (lm3) dd (xd2) (x3)) := by
          intro o5 hy
          refine j_lloadn1 (pc := 178) hC d_m_nearest_178 ?_
          refine j_goto (pc := 179) hC 185 d_m_nearest_179 (by decide) ?_
          exact j_lret hC d_m_nearest_185 ⟨_, rfl, a, _, _, _, _, _, _, _, _, by omega, ⟨a, ha, hA, hB, Or.inl ⟨hy, rfl⟩⟩, rfl, rfl⟩
        have k182 : ∀ (o5 : Option Value), ¬ (2 * (sv fd n P K * T34) < (kG 23 939 a + kG 23 939 (a + 1)) * 10 ^ K ∨ (2 * (sv fd n P K * T34) = (kG 23 939 a + kG 23 939 (a + 1)) * 10 ^ K ∧ a % 2 = 0)) → J p l e (rmD 2) s m args below meth c D (va_A (wm g ca td cd (24) (-149) us (nI n) pt ps sp en ep hn hp tp lm dd xd yd) sz) 7 (MQ below (jQ D (wm g ca td cd (24) (-149) us (nI n) pt ps sp en ep hn hp tp lm dd xd yd) sz (jPl fun r w => ∃ (a : Nat) (us2 en2 ep2 hn2 hp2 : Int32) (lm2 : Nat → Int64) (xd2 yd2 : Nat → Int32), a ≤ 2139095040 ∧ kR 23 939 2139095040 (sv fd n P K * T34) (10 ^ K) a ∧ r = lN a ∧ w = wm g ca td cd (24) (-149) (us2) (nI n) pt ps sp (en2) (ep2) (hn2) (hp2) tp (lm2) dd (xd2) (yd2))) args s 0 0 (va_A (wm g ca td cd (24) (-149) us (nI n) pt ps sp en ep hn hp tp lm dd xd yd) sz)) 182 [some (.ref (g 10)), some (.long (lN a)), none, some (.long (lN b)), none, o5, o6] [] (wm g ca td cd (24) (-149) (us3) (nI n) pt ps sp (en2) (ep2) (nI dn) (p3) tp (lm3) dd (xd2) (x3)) := by
          intro o5 hy
          refine j_lloadn1 (pc := 182) hC d_m_nearest_182 ?_
          refine j_lconst (pc := 183) (v := 1) hC d_m_nearest_183 (by decide) ?_
          refine j_ladd (pc := 184) hC d_m_nearest_184 ?_
          exact j_lret hC d_m_nearest_185 ⟨_, rfl, a + 1, _, _, _, _, _, _, _, _, by omega, ⟨a, ha, hA, hB, Or.inr ⟨hy, rfl⟩⟩, lN_1 a, rfl⟩
        rcases h3 with ⟨h3, rfl⟩ | ⟨h3, rfl⟩ | ⟨h3, rfl⟩
        · refine j_istore5 (pc := 158) hC d_m_nearest_158 (by decide) (by first | exact trivial | exact rfl) ?_
          refine j_iload5 (pc := 160) hC d_m_nearest_160 ?_
          refine j_if_lt (pc := 162) hC 178 d_m_nearest_162 (by decide) (fun h4 => ?_) (fun h4 => ?_)
          · exact k178 _ (Or.inl (c1.mp h3))
          · exact absurd (by decide) h4
        · refine j_istore5 (pc := 158) hC d_m_nearest_158 (by decide) (by first | exact trivial | exact rfl) ?_
          refine j_iload5 (pc := 160) hC d_m_nearest_160 ?_
          refine j_if_lt (pc := 162) hC 178 d_m_nearest_162 (by decide) (fun h4 => ?_) (fun h4 => ?_)
          · exact absurd h4 (by decide)
          · refine j_iload5 (pc := 165) hC d_m_nearest_165 ?_
            refine j_if_ne (pc := 167) hC 182 d_m_nearest_167 (by decide) (fun h5 => ?_) (fun h5 => ?_)
            · exact absurd rfl h5
            · refine j_lloadn1 (pc := 170) hC d_m_nearest_170 ?_
              refine j_lconst (pc := 171) (v := 1) hC d_m_nearest_171 (by decide) ?_
              refine j_land (pc := 172) hC d_m_nearest_172 ?_
              refine J.topl (wb_a1 (by omega)) ?_
              refine j_lconst (pc := 173) (v := 0) hC d_m_nearest_173 (by decide) ?_
              refine j_lcmp (pc := 174) hC d_m_nearest_174 ?_
              refine j_if_ne (pc := 175) hC 182 d_m_nearest_175 (by decide) (fun h6 => ?_) (fun h6 => ?_)
              · refine k182 _ (fun y => ?_)
                rcases y with y | y
                · have := c1.mpr y
                  omega
                · exact h6 ((lg_cmp_eq _ _).mpr (by rw [y.2]; rfl))
              · have h6 := (lg_cmp_eq _ _).mp h6
                have h6 : a % 2 = 0 := (pk_lEQ (b := 0) (by omega) (by omega)).mp h6
                exact k178 _ (Or.inr ⟨c2.mp h3, h6⟩)
        · refine j_istore5 (pc := 158) hC d_m_nearest_158 (by decide) (by first | exact trivial | exact rfl) ?_
          refine j_iload5 (pc := 160) hC d_m_nearest_160 ?_
          refine j_if_lt (pc := 162) hC 178 d_m_nearest_162 (by decide) (fun h4 => ?_) (fun h4 => ?_)
          · exact absurd h4 (by decide)
          · refine j_iload5 (pc := 165) hC d_m_nearest_165 ?_
            refine j_if_ne (pc := 167) hC 182 d_m_nearest_167 (by decide) (fun h5 => ?_) (fun h5 => ?_)
            · refine k182 _ (fun y => ?_)
              rcases y with y | y
              · have := c1.mpr y
                omega
              · have := c2.mpr y.1
                omega
            · exact absurd h5 (by decide)
      have k38 : ∀ (d a b : Nat) (us2 en2 ep2 : Int32) (lm2 : Nat → Int64) (xd2 : Nat → Int32) (o5 o6 : Option Value), b - a ≤ d → a ≤ b → b < 2139095040 → kG 23 939 a * 10 ^ K ≤ sv fd n P K * T34 → (sv fd n P K * T34 < kG 23 939 (b + 1) * 10 ^ K ∨ b + 1 = 2139095040) → J p l e (rmD 2) s m args below meth c D (va_A (wm g ca td cd (24) (-149) us (nI n) pt ps sp en ep hn hp tp lm dd xd yd) sz) 7 (MQ below (jQ D (wm g ca td cd (24) (-149) us (nI n) pt ps sp en ep hn hp tp lm dd xd yd) sz (jPl fun r w => ∃ (a : Nat) (us2 en2 ep2 hn2 hp2 : Int32) (lm2 : Nat → Int64) (xd2 yd2 : Nat → Int32), a ≤ 2139095040 ∧ kR 23 939 2139095040 (sv fd n P K * T34) (10 ^ K) a ∧ r = lN a ∧ w = wm g ca td cd (24) (-149) (us2) (nI n) pt ps sp (en2) (ep2) (hn2) (hp2) tp (lm2) dd (xd2) (yd2))) args s 0 0 (va_A (wm g ca td cd (24) (-149) us (nI n) pt ps sp en ep hn hp tp lm dd xd yd) sz)) 38 [some (.ref (g 10)), some (.long (lN a)), none, some (.long (lN b)), none, o5, o6] [] (wm g ca td cd (24) (-149) (us2) (nI n) pt ps sp (en2) (ep2) hn hp tp (lm2) dd (xd2) yd) := by
        intro d
        induction d with
        | zero =>
          intro a b us2 en2 ep2 lm2 xd2 o5 o6 hd0 hab hb hA hB
          have hab2 : a = b := by omega
          subst hab2
          refine j_lloadn1 (pc := 38) hC d_m_nearest_38 ?_
          refine j_lloadn3 (pc := 39) hC d_m_nearest_39 ?_
          refine j_lcmp (pc := 40) hC d_m_nearest_40 ?_
          refine j_if_ge (pc := 41) hC 113 d_m_nearest_41 (by decide) (fun h3 => ?_) (fun h3 => ?_)
          · exact k113 a us2 en2 ep2 lm2 xd2 _ o5 o6 hb hA hB
          · exact absurd ((lg_cmp_ge _ _).mpr ((pk_lLE (by omega) (by omega)).mpr (Nat.le_refl a))) h3
        | succ d ih =>
          intro a b us2 en2 ep2 lm2 xd2 o5 o6 hd0 hab hb hA hB
          refine j_lloadn1 (pc := 38) hC d_m_nearest_38 ?_
          refine j_lloadn3 (pc := 39) hC d_m_nearest_39 ?_
          refine j_lcmp (pc := 40) hC d_m_nearest_40 ?_
          refine j_if_ge (pc := 41) hC 113 d_m_nearest_41 (by decide) (fun h3 => ?_) (fun h3 => ?_)
          · have h3 := (pk_lLE (by omega) (by omega)).mp ((lg_cmp_ge _ _).mp h3)
            have hab2 : a = b := by omega
            subst hab2
            exact k113 a us2 en2 ep2 lm2 xd2 _ o5 o6 hb hA hB
          · have h3 : ¬ b ≤ a := fun y => h3 ((lg_cmp_ge _ _).mpr ((pk_lLE (by omega) (by omega)).mpr y))
            have hma : a + (b - a + 1) / 2 < 2139095040 := by omega
            have hmb : a < a + (b - a + 1) / 2 ∧ a + (b - a + 1) / 2 ≤ b := by omega
            refine j_lloadn1 (pc := 44) hC d_m_nearest_44 ?_
            refine j_lloadn3 (pc := 45) hC d_m_nearest_45 ?_
            refine j_lloadn1 (pc := 46) hC d_m_nearest_46 ?_
            refine j_lsub (pc := 47) hC d_m_nearest_47 ?_
            refine j_lconst (pc := 48) (v := 1) hC d_m_nearest_48 (by decide) ?_
            refine j_ladd (pc := 49) hC d_m_nearest_49 ?_
            refine j_ldc2 (pc := 50) (v := 2) hC mk_M_163 d_m_nearest_50 ?_
            refine j_ldiv (pc := 53) hC d_m_nearest_53 (by decide) ?_
            refine j_ladd (pc := 54) hC d_m_nearest_54 ?_
            refine J.topl (y := lN (a + (b - a + 1) / 2)) (by rw [lN_sub hab, lN_1, show (2 : Int64) = lN 2 from rfl, pk_lDiv (by omega) (by omega) (by omega), lN_add]) ?_
            generalize a + (b - a + 1) / 2 = am at hma hmb ⊢
            have hc := kc_lt 23 am
            have hqa := qb am hma
            refine j_lstore5 (pc := 55) hC d_m_nearest_55 (by decide) (by first | exact trivial | exact rfl) ?_
            refine j_aloadn0 (pc := 57) hC d_m_nearest_57 ?_
            refine j_aloadn0 (pc := 58) hC d_m_nearest_58 ?_
            refine j_lload5 (pc := 59) hC d_m_nearest_59 ?_
            refine j_V1l (pc := 61) (q0 := 0) (ci := 3) hC cw_M_165 (rmD_in (by decide)) (Nat.le_of_ble_eq_true rfl) rfl rfl d_m_nearest_61 (c_m_c_f am (by omega)) (fun r w2 h4 => ?_)
            obtain ⟨rfl, rfl⟩ := h4
            refine j_aloadn0 (pc := 64) hC d_m_nearest_64 ?_
            refine j_lload5 (pc := 65) hC d_m_nearest_65 ?_
            refine j_V1i (pc := 67) (q0 := 0) (ci := 3) hC cw_M_169 (rmD_in (by decide)) (Nat.le_of_ble_eq_true rfl) rfl rfl d_m_nearest_67 (c_m_q_f am (by omega)) (fun r w2 h4 => ?_)
            obtain ⟨hq, rfl⟩ := h4
            refine j_aloadn0 (pc := 70) hC d_m_nearest_70 ?_
            refine jg_M_20 (pc := 71) hC d_m_nearest_71 ?_
            refine j_V3v (pc := 74) (q0 := 0) (ci := 3) hC cw_M_173 (rmD_in (by decide)) (Nat.le_of_ble_eq_true rfl) rfl rfl d_m_nearest_74 (c_m_row_e (kc 23 am) r (by omega) (by omega) (by omega)) (fun w2 h4 => ?_)
            obtain ⟨us3, lm3, dn, pp, p3, x3, hpp, hR, rfl⟩ := h4
            have hmid := near_eq (p := 23) (u := 939) (a := am) (K := K) (q := r.toInt) (by rw [hq]; omega) (by omega)
            refine j_aloadn0 (pc := 77) hC d_m_nearest_77 ?_
            refine jg_M_27 (pc := 78) hC d_m_nearest_78 ?_
            refine j_aloadn0 (pc := 81) hC d_m_nearest_81 ?_
            refine jg_M_144 (pc := 82) hC d_m_nearest_82 ?_
            refine j_aloadn0 (pc := 85) hC d_m_nearest_85 ?_
            refine jg_M_147 (pc := 86) hC d_m_nearest_86 ?_
            refine j_aloadn0 (pc := 89) hC d_m_nearest_89 ?_
            refine jg_M_20 (pc := 90) hC d_m_nearest_90 ?_
            refine j_S4i (pc := 93) hC cw_M_177 (rmD_in (by decide)) (Nat.le_of_ble_eq_true rfl) d_m_nearest_93 (c_m_compare_e fd n (kc 23 am) dn K pt P r.toInt pp hd hd9 hn0 hN hf0 hpv (by omega) (by omega) hK hpp hR) (fun r w2 h5 => ?_)
            obtain ⟨h5, rfl⟩ := h5
            have c1 := cmp_lt (S := sv fd n P K) hmid hT
            have c2 := cmp_le (S := sv fd n P K) hmid hT
            rcases h5 with ⟨h5, rfl⟩ | ⟨h5, rfl⟩ | ⟨h5, rfl⟩
            · refine j_if_lt (pc := 96) hC 105 d_m_nearest_96 (by decide) (fun h6 => ?_) (fun h6 => ?_)
              · refine j_lload5 (pc := 105) hC d_m_nearest_105 ?_
                refine j_lconst (pc := 107) (v := 1) hC d_m_nearest_107 (by decide) ?_
                refine j_lsub (pc := 108) hC d_m_nearest_108 ?_
                refine J.topl (y := lN (am - 1)) (lN_sub (b := 1) (by omega)) ?_
                refine j_lstoren3 (pc := 109) hC d_m_nearest_109 (by decide) (by first | exact trivial | exact rfl) ?_
                refine j_goto (pc := 110) hC 38 d_m_nearest_110 (by decide) ?_
                exact ih a (am - 1) us3 (nI dn) p3 lm3 x3 _ _ (by omega) (by omega) (by omega) hA (Or.inl (by rw [show am - 1 + 1 = am by omega]; exact c1.mp h5))
              · exact absurd (by decide) h6
            · refine j_if_lt (pc := 96) hC 105 d_m_nearest_96 (by decide) (fun h6 => ?_) (fun h6 => ?_)
              · exact absurd h6 (by decide)
              · refine j_lload5 (pc := 99) hC d_m_nearest_99 ?_
                refine j_lstoren1 (pc := 101) hC d_m_nearest_101 (by decide) (by first | exact trivial | exact rfl) ?_
                refine j_goto (pc := 102) hC 110 d_m_nearest_102 (by decide) ?_
                refine j_goto (pc := 110) hC 38 d_m_nearest_110 (by decide) ?_
                exact ih am b us3 (nI dn) p3 lm3 x3 _ _ (by omega) (by omega) hb (c2.mp (Nat.le_of_eq h5.symm)) hB
            · refine j_if_lt (pc := 96) hC 105 d_m_nearest_96 (by decide) (fun h6 => ?_) (fun h6 => ?_)
              · exact absurd h6 (by decide)
              · refine j_lload5 (pc := 99) hC d_m_nearest_99 ?_
                refine j_lstoren1 (pc := 101) hC d_m_nearest_101 (by decide) (by first | exact trivial | exact rfl) ?_
                refine j_goto (pc := 102) hC 110 d_m_nearest_102 (by decide) ?_
                refine j_goto (pc := 110) hC 38 d_m_nearest_110 (by decide) ?_
                exact ih am b us3 (nI dn) p3 lm3 x3 _ _ (by omega) (by omega) hb (c2.mp (Nat.le_of_lt h5)) hB
      refine j_lconst (pc := 29) (v := 0) hC d_m_nearest_29 (by decide) ?_
      refine j_lstoren1 (pc := 30) hC d_m_nearest_30 (by decide) (by first | exact trivial | exact rfl) ?_
      refine j_aloadn0 (pc := 31) hC d_m_nearest_31 ?_
      refine j_V0l (pc := 32) (q0 := 0) (ci := 3) hC cw_M_59 (rmD_in (by decide)) (Nat.le_of_ble_eq_true rfl) rfl rfl d_m_nearest_32 (c_m_infinity_f) (fun r w2 h3 => ?_)
      obtain ⟨rfl, rfl⟩ := h3
      refine j_lconst (pc := 35) (v := 1) hC d_m_nearest_35 (by decide) ?_
      refine j_lsub (pc := 36) hC d_m_nearest_36 ?_
      refine J.topl (y := lN (2139095040 - 1)) (lN_sub (b := 1) (by omega)) ?_
      refine j_lstoren3 (pc := 37) hC d_m_nearest_37 (by decide) (by first | exact trivial | exact rfl) ?_
      refine k38 2139095040 0 (2139095040 - 1) us en ep lm xd none none (by omega) (by omega) (by omega) ?_ (Or.inr rfl)
      rw [show kG 23 939 0 = 0 by unfold kG; simp, Nat.zero_mul]
      exact Nat.zero_le _
    · have h2 : ¬ -400 ≤ P := fun y => h2 ((lg_cmp_ge _ _).mpr (by rw [Int64.le_iff_toInt_le, e4m, hpv]; exact y))
      refine j_lconst (pc := 27) (v := 0) hC d_m_nearest_27 (by decide) ?_
      exact j_lret hC d_m_nearest_28 ⟨_, rfl, 0, _, _, _, _, _, _, _, _, by omega, near_zero 401 (by omega) p401_f (by omega) (by omega) (sv_lt hd9 hKP), rfl, rfl⟩
  · have h1 : ¬ P ≤ 400 := fun y => h1 ((lg_cmp_le _ _).mpr (by rw [Int64.le_iff_toInt_le, e4, hpv]; exact y))
    refine j_aloadn0 (pc := 11) hC d_m_nearest_11 ?_
    refine j_V0l (pc := 12) (q0 := 0) (ci := 3) hC cw_M_59 (rmD_in (by decide)) (Nat.le_of_ble_eq_true rfl) rfl rfl d_m_nearest_12 (c_m_infinity_f) (fun r w2 h3 => ?_)
    obtain ⟨rfl, rfl⟩ := h3
    exact j_lret hC d_m_nearest_15 ⟨_, rfl, 2139095040, _, _, _, _, _, _, _, _, by omega, near_inf (by omega) (by rw [kG_inf_f]; exact p400_f) (by omega) (sv_ge hn0 hf0 hKP), rfl, rfl⟩
end MN

