section MH
variable {l : Launch} {D : va_G} {X : jX} {g : Nat → Nat} {ca : Nat → ClassId} {td cd us dc : Int32} {pt : Int64} {ps sp en ep hn hp : Int32} {tp : Nat → Int32} {lm : Nat → Int64} {dd xd yd : Nat → Int32}
theorem kG_2112_d : kG 52 14 9218868437227405312 ≤ 2 ^ 2112 := Nat.le_of_eq kG_inf_d
set_option maxHeartbeats 4000000 in
theorem c_m_hexadecimal_d (a0 z : Nat) (hz : z ≤ 8192) (ha : a0 ≤ z) (hx : hxs tp a0 z) : jM l y_m_hexadecimal b_m_hexadecimal 10 (some .long) (rmD 3) D (tyM ca) X [.ref (g 10)] (wm g ca td cd (53) (-1074) us dc pt (nI a0) (nI z) en ep hn hp tp lm dd xd yd) (jPl fun r w => ∃ (ps2 : Int32), vR 52 14 9218868437227405312 tp a0 z true r ps2 ∧ w = wm g ca td cd (53) (-1074) us dc pt (ps2) (nI z) en ep hn hp tp lm dd xd yd) := by
  refine jM.of [some (.ref (g 10)), none, none, none, none, none, none, none, none, none] (by simp [jle, jent, Value.category]) rfl (Nat.le_of_ble_eq_true rfl) ?_
  intro p e s m args below meth c sz hC
  obtain ⟨c0, n1, n2, c2, c3, hD⟩ := scD_ex tp a0 z true ⟨fun _ => hx, fun _ => rfl⟩
  have hc0 : c0 = a0 + 2 := hD.2.1
  have hle := scD_le ha hD
  have hG : dgs tp 16 c0 n1 c2 c3 (n1 + n2) := scD_dgs hz ha hD
  have hE := tdg_lt (b := 16) (by omega) hG
  have hEA : ∀ j, j < n1 → tdg tp c0 n1 c2 (n1 + n2) j = dg (tp (c0 + j)) := by
    intro j hj
    unfold tdg
    rw [if_pos hj]
  have hEB : ∀ i, i < n2 → tdg tp c0 n1 c2 (n1 + n2) (n1 + i) = dg (tp (c2 + i)) := by
    intro i hi
    unfold tdg
    rw [if_neg (by omega), if_pos (by omega), show n1 + i - n1 = i by omega]
  have hdA : ∀ j, j < n1 → dg (tp (c0 + j)) < 16 := fun j hj => by rw [← hEA j hj]; exact hE j
  have hdB : ∀ i, i < n2 → dg (tp (c2 + i)) < 16 := fun i hi => by rw [← hEB i hi]; exact hE _
  have hn1 : c0 + n1 < z → ¬ dg (tp (c0 + n1)) < 16 := by
    intro y
    have e : n1 = rn tp 16 c0 (z - c0) := hD.2.2.1
    have h := rn_end tp 16 (z - c0) c0 (by omega)
    rw [← e] at h
    exact h
  have hn2 : isc tp (c0 + n1) z 46 → c3 < z → ¬ dg (tp c3) < 16 := by
    intro y1 y2
    rcases hD.2.2.2.1 with ⟨g1, g2, g3⟩ | ⟨g1, g2, g3⟩
    · have e : n2 = rn tp 16 c2 (z - c2) := g3
      have h := rn_end tp 16 (z - c2) c2 (by omega)
      rw [← e] at h
      rw [hle.2.2.2.2]
      exact h
    · exact absurd y1 g1
  generalize hEE : tdg tp c0 n1 c2 (n1 + n2) = E at *
  have h46 : ∀ y : Nat, dg (tp y) < 16 → ¬ isc tp y z 46 := by
    intro y h1 h2
    rw [h2.2] at h1
    exact absurd h1 (by decide)
  have hDl : hv 16 E (n1 + n2) < 2 ^ (4 * (n1 + n2)) := by
    rw [Nat.pow_mul]
    exact hv_lt (fun i _ => hE i)
  have e4 : (4 : Int64).toInt = 4 := rfl
  have k164 : ∀ (L : List (Option Value)), (∀ (c0 n1 n2 c2 c3 : Nat) (me : Bool) (c5 n3 c6 : Nat), ¬ scQ tp a0 z true c0 n1 n2 c2 c3 me c5 n3 c6) → J p l e (rmD 3) s m args below meth c D (va_A (wm g ca td cd (53) (-1074) us dc pt (nI a0) (nI z) en ep hn hp tp lm dd xd yd) sz) 10 (MQ below (jQ D (wm g ca td cd (53) (-1074) us dc pt (nI a0) (nI z) en ep hn hp tp lm dd xd yd) sz (jPl fun r w => ∃ (ps2 : Int32), vR 52 14 9218868437227405312 tp a0 z true r ps2 ∧ w = wm g ca td cd (53) (-1074) us dc pt (ps2) (nI z) en ep hn hp tp lm dd xd yd)) args s 0 0 (va_A (wm g ca td cd (53) (-1074) us dc pt (nI a0) (nI z) en ep hn hp tp lm dd xd yd) sz)) 164 L [] (wm g ca td cd (53) (-1074) us dc pt (nI c3) (nI z) en ep hn hp tp lm dd xd yd) := by
    intro L hno
    refine j_ldc2 (pc := 164) (v := -1) hC mk_M_151 d_m_hexadecimal_164 ?_
    exact j_lret hC d_m_hexadecimal_167 ⟨_, rfl, nI c3, Or.inr ⟨hno, rfl, c3, by omega, rfl⟩, rfl⟩
  have k141 : ∀ (mv T Rv : Nat) (mo : Bool) (pw : Int64) (b : Int32) (o8 : Option Value), hS mv T Rv mo (hv 16 E (n1 + n2)) → pw.toInt = (T : Int) - 4 * n2 → T ≤ 4 * (n1 + n2) → J p l e (rmD 3) s m args below meth c D (va_A (wm g ca td cd (53) (-1074) us dc pt (nI a0) (nI z) en ep hn hp tp lm dd xd yd) sz) 10 (MQ below (jQ D (wm g ca td cd (53) (-1074) us dc pt (nI a0) (nI z) en ep hn hp tp lm dd xd yd) sz (jPl fun r w => ∃ (ps2 : Int32), vR 52 14 9218868437227405312 tp a0 z true r ps2 ∧ w = wm g ca td cd (53) (-1074) us dc pt (ps2) (nI z) en ep hn hp tp lm dd xd yd)) args s 0 0 (va_A (wm g ca td cd (53) (-1074) us dc pt (nI a0) (nI z) en ep hn hp tp lm dd xd yd) sz)) 141 [some (.ref (g 10)), some (.long (lN mv)), none, some (.long pw), none, some (.int (if mo then 1 else 0)), some (.int b), some (.int (nI (n1 + n2))), o8, none] [] (wm g ca td cd (53) (-1074) us dc pt (nI c3) (nI z) en ep hn hp tp lm dd xd yd) := by
    intro mv T Rv mo pw b o8 hS hpw hT
    refine j_iload7 (pc := 141) hC d_m_hexadecimal_141 ?_
    refine j_if_eq (pc := 143) hC 164 d_m_hexadecimal_143 (by decide) (fun h1 => ?_) (fun h1 => ?_)
    · have h0 : n1 + n2 = 0 := (nI_eq (b := 0) (by omega) (by omega)).mp h1
      exact k164 _ (scQ_no0 hD h0)
    · have h0 : 0 < n1 + n2 := Nat.pos_of_ne_zero (fun y => h1 (by rw [y]; rfl))
      have k168 : (isc tp c3 z 112 ∨ isc tp c3 z 80) → J p l e (rmD 3) s m args below meth c D (va_A (wm g ca td cd (53) (-1074) us dc pt (nI a0) (nI z) en ep hn hp tp lm dd xd yd) sz) 10 (MQ below (jQ D (wm g ca td cd (53) (-1074) us dc pt (nI a0) (nI z) en ep hn hp tp lm dd xd yd) sz (jPl fun r w => ∃ (ps2 : Int32), vR 52 14 9218868437227405312 tp a0 z true r ps2 ∧ w = wm g ca td cd (53) (-1074) us dc pt (ps2) (nI z) en ep hn hp tp lm dd xd yd)) args s 0 0 (va_A (wm g ca td cd (53) (-1074) us dc pt (nI a0) (nI z) en ep hn hp tp lm dd xd yd) sz)) 168 [some (.ref (g 10)), some (.long (lN mv)), none, some (.long pw), none, some (.int (if mo then 1 else 0)), some (.int b), some (.int (nI (n1 + n2))), o8, none] [] (wm g ca td cd (53) (-1074) us dc pt (nI c3) (nI z) en ep hn hp tp lm dd xd yd) := by
        intro hE1
        have hc3z : c3 < z := by rcases hE1 with y | y <;> exact y.1
        refine j_aloadn0 (pc := 168) hC d_m_hexadecimal_168 ?_
        refine j_dup (pc := 169) hC d_m_hexadecimal_169 rfl ?_
        refine jg_M_94 (pc := 170) hC d_m_hexadecimal_170 ?_
        refine j_iconst (pc := 173) (v := 1) hC d_m_hexadecimal_173 (by decide) ?_
        refine j_iadd (pc := 174) hC d_m_hexadecimal_174 ?_
        refine jp_M_94 (pc := 175) hC d_m_hexadecimal_175 ?_
        refine J.to rfl rfl rfl (w' := wm g ca td cd (53) (-1074) us dc pt (nI (c3 + 1)) (nI z) en ep hn hp tp lm dd xd yd) (by rw [nI_1]) ?_
        refine j_aloadn0 (pc := 178) hC d_m_hexadecimal_178 ?_
        refine j_V0l (pc := 179) (q0 := 0) (ci := 3) hC cw_M_153 (rmD_in (by decide)) (Nat.le_of_ble_eq_true rfl) rfl rfl d_m_hexadecimal_179 (c_m_exponent (c3 + 1) z hz (by omega)) (fun r w2 h2 => ?_)
        obtain ⟨me, c5, n3, hm1, hm2, hm3, hm4, rfl⟩ := h2
        have hm2' : sgP tp (c3 + 1) z ∧ c5 = c3 + 2 ∨ ¬ sgP tp (c3 + 1) z ∧ c5 = c3 + 1 := by
          rcases hm2 with y | y
          · exact Or.inl ⟨y.1, by omega⟩
          · exact Or.inr y
        rcases hm4 with ⟨y, rfl⟩ | ⟨y, hr⟩
        · refine j_lstore8 (pc := 182) hC d_m_hexadecimal_182 (by decide) (by first | exact trivial | exact rfl) ?_
          refine j_lload8 (pc := 184) hC d_m_hexadecimal_184 ?_
          refine j_ldc2 (pc := 186) (v := -9223372036854775808) hC mk_M_55 d_m_hexadecimal_186 ?_
          refine j_lcmp (pc := 189) hC d_m_hexadecimal_189 ?_
          refine j_if_ne (pc := 190) hC 197 d_m_hexadecimal_190 (by decide) (fun h3 => ?_) (fun h3 => ?_)
          · exact absurd (by decide) h3
          · refine j_ldc2 (pc := 193) (v := -1) hC mk_M_151 d_m_hexadecimal_193 ?_
            exact j_lret hC d_m_hexadecimal_196 ⟨_, rfl, _, Or.inr ⟨scQ_noE (mi := me = true) (c5 := c5) (n3 := n3) (c6 := c5 + n3) hD (Or.inr ⟨hE1, hm1, hm2', hm3, rfl, by rw [y]; rfl⟩), rfl, c5 + n3, exp_le hc3z hm2' hm3, rfl⟩, rfl⟩
        · have hdg : ∀ i, i < n3 → dg (tp (c5 + i)) < 10 := fun i hi => rn_in tp 10 (z - c5) c5 i (by rw [← hm3]; exact hi)
          have hxl := xC_lt (t := tp) (c := c5) (lim := 10000000) n3 hdg (by omega)
          have hxe := xC_eq (t := tp) (c := c5) (lim := 10000000) (by omega) n3
          have hXE : scE tp c3 z true true (me = true) c5 n3 (c5 + n3) := Or.inr ⟨hE1, hm1, hm2', hm3, rfl, by rw [decide_eq_true y]⟩
          have hrT : r.toInt = if me then -(xC tp c5 10000000 n3 : Int) else (xC tp c5 10000000 n3 : Int) := by
            rw [hr]
            cases me
            · exact pk_lT (by omega)
            · show (-lN _).toInt = _
              rw [Int64.toInt_neg, pk_lT (by omega), Int.bmod_eq_of_le (by omega) (by omega)]
              rfl
          have hcut : (r.toInt = ei tp me c5 n3 ∨ (10000000 ≤ r.toInt ∧ 10000000 ≤ ei tp me c5 n3) ∨ (r.toInt ≤ -10000000 ∧ ei tp me c5 n3 ≤ -10000000)) := by
            rw [hrT]
            unfold ei
            cases me
            · simp only [Bool.false_eq_true, if_false]
              omega
            · simp only [if_true]
              omega
          have hrb : -100000000 < r.toInt ∧ r.toInt < 100000000 := by
            rw [hrT]
            cases me
            · simp only [Bool.false_eq_true, if_false]
              omega
            · simp only [if_true]
              omega
          have hne : ¬ r = -9223372036854775808 := by
            intro y
            rw [y] at hrb
            exact absurd hrb (by decide)
          have hsum : (pw + r).toInt = (r.toInt - 4 * n2) + T := by
            rw [Int64.toInt_add, hpw, Int.bmod_eq_of_le (by omega) (by omega)]
            omega
          obtain ⟨s1, s2, s3, s4, s5, s6⟩ := hS
          refine j_lstore8 (pc := 182) hC d_m_hexadecimal_182 (by decide) (by first | exact trivial | exact rfl) ?_
          refine j_lload8 (pc := 184) hC d_m_hexadecimal_184 ?_
          refine j_ldc2 (pc := 186) (v := -9223372036854775808) hC mk_M_55 d_m_hexadecimal_186 ?_
          refine j_lcmp (pc := 189) hC d_m_hexadecimal_189 ?_
          refine j_if_ne (pc := 190) hC 197 d_m_hexadecimal_190 (by decide) (fun h3 => ?_) (fun h3 => ?_)
          · refine j_aloadn0 (pc := 197) hC d_m_hexadecimal_197 ?_
            refine j_lloadn1 (pc := 198) hC d_m_hexadecimal_198 ?_
            refine j_lloadn3 (pc := 199) hC d_m_hexadecimal_199 ?_
            refine j_lload8 (pc := 200) hC d_m_hexadecimal_200 ?_
            refine j_ladd (pc := 202) hC d_m_hexadecimal_202 ?_
            refine j_iload5 (pc := 203) hC d_m_hexadecimal_203 ?_
            refine j_V3l (pc := 205) (q0 := 0) (ci := 3) hC cw_M_186 (rmD_in (by decide)) (Nat.le_of_ble_eq_true rfl) rfl rfl d_m_hexadecimal_205 (c_m_rounded_d (hv 16 E (n1 + n2)) T Rv mv (r.toInt - 4 * n2) (pw + r) mo s1 s2 s3 s4 s6 hsum (by omega) (by omega)) (fun r w2 h4 => ?_)
            obtain ⟨sa, hsa, hkR, rfl, rfl⟩ := h4
            refine j_lret hC d_m_hexadecimal_208 ⟨_, rfl, nI (c5 + n3), Or.inl ⟨c0, n1, n2, c2, c3, me, c5, n3, c5 + n3, ⟨hD, h0, hXE⟩, rfl, sa, hsa, fun _ => ?_, fun y => (by cases y), rfl⟩, rfl⟩
            rw [hEE]
            exact hx_cut (by omega) kG_2112_d hDl (by omega) hkR
          · exact absurd ((lg_cmp_eq _ _).mp h3) hne
      refine j_aloadn0 (pc := 146) hC d_m_hexadecimal_146 ?_
      refine j_bipush (pc := 147) (v := 112) hC d_m_hexadecimal_147 (by decide) ?_
      refine j_V1i (pc := 149) (q0 := 0) (ci := 3) hC cw_M_110 (rmD_in (by decide)) (Nat.le_of_ble_eq_true rfl) rfl rfl d_m_hexadecimal_149 (c_m_is 112 c3 z hz (by omega)) (fun r w2 h2 => ?_)
      obtain ⟨h2, rfl⟩ := h2
      rcases h2 with ⟨h2, rfl⟩ | ⟨h2, rfl⟩
      · refine j_if_ne (pc := 152) hC 168 d_m_hexadecimal_152 (by decide) (fun q => ?_) (fun q => ?_)
        · exact k168 (Or.inl h2)
        · exact absurd q (by decide)
      · refine j_if_ne (pc := 152) hC 168 d_m_hexadecimal_152 (by decide) (fun q => ?_) (fun q => ?_)
        · exact absurd rfl q
        · refine j_aloadn0 (pc := 155) hC d_m_hexadecimal_155 ?_
          refine j_bipush (pc := 156) (v := 80) hC d_m_hexadecimal_156 (by decide) ?_
          refine j_V1i (pc := 158) (q0 := 0) (ci := 3) hC cw_M_110 (rmD_in (by decide)) (Nat.le_of_ble_eq_true rfl) rfl rfl d_m_hexadecimal_158 (c_m_is 80 c3 z hz (by omega)) (fun r w2 h3 => ?_)
          obtain ⟨h3, rfl⟩ := h3
          rcases h3 with ⟨h3, rfl⟩ | ⟨h3, rfl⟩
          · refine j_if_ne (pc := 161) hC 168 d_m_hexadecimal_161 (by decide) (fun q2 => ?_) (fun q2 => ?_)
            · exact k168 (Or.inr h3)
            · exact absurd q2 (by decide)
          · refine j_if_ne (pc := 161) hC 168 d_m_hexadecimal_161 (by decide) (fun q2 => ?_) (fun q2 => ?_)
            · exact absurd rfl q2
            · exact k164 _ (scQ_noE (mi := False) (c5 := c3) (n3 := 0) (c6 := c3) hD (Or.inl ⟨fun y => y.elim h2 h3, rfl, fun y => y, rfl, rfl, rfl⟩))
  -- a digit
  have k44 : ∀ (b : Bool) (j y mv T Rv : Nat) (mo : Bool) (pw : Int64) (o8 : Option Value), y < z → j < 8192 → dg (tp y) < 16 → E j = dg (tp y) → hS mv T Rv mo (hv 16 E j) → -100000 ≤ pw.toInt → pw.toInt ≤ 100000 → (∀ (mv' T' Rv' : Nat) (mo' : Bool) (pw' : Int64) (o8' : Option Value), hS mv' T' Rv' mo' (hv 16 E (j + 1)) → T' ≤ T + 4 → pw'.toInt = pw.toInt + ((T' : Int) - T) - (if b then 4 else 0) → J p l e (rmD 3) s m args below meth c D (va_A (wm g ca td cd (53) (-1074) us dc pt (nI a0) (nI z) en ep hn hp tp lm dd xd yd) sz) 10 (MQ below (jQ D (wm g ca td cd (53) (-1074) us dc pt (nI a0) (nI z) en ep hn hp tp lm dd xd yd) sz (jPl fun r w => ∃ (ps2 : Int32), vR 52 14 9218868437227405312 tp a0 z true r ps2 ∧ w = wm g ca td cd (53) (-1074) us dc pt (ps2) (nI z) en ep hn hp tp lm dd xd yd)) args s 0 0 (va_A (wm g ca td cd (53) (-1074) us dc pt (nI a0) (nI z) en ep hn hp tp lm dd xd yd) sz)) 23 [some (.ref (g 10)), some (.long (lN mv')), none, some (.long pw'), none, some (.int (if mo' then 1 else 0)), some (.int (if b then 1 else 0)), some (.int (nI (j + 1))), o8', none] [] (wm g ca td cd (53) (-1074) us dc pt (nI (y + 1)) (nI z) en ep hn hp tp lm dd xd yd)) → J p l e (rmD 3) s m args below meth c D (va_A (wm g ca td cd (53) (-1074) us dc pt (nI a0) (nI z) en ep hn hp tp lm dd xd yd) sz) 10 (MQ below (jQ D (wm g ca td cd (53) (-1074) us dc pt (nI a0) (nI z) en ep hn hp tp lm dd xd yd) sz (jPl fun r w => ∃ (ps2 : Int32), vR 52 14 9218868437227405312 tp a0 z true r ps2 ∧ w = wm g ca td cd (53) (-1074) us dc pt (ps2) (nI z) en ep hn hp tp lm dd xd yd)) args s 0 0 (va_A (wm g ca td cd (53) (-1074) us dc pt (nI a0) (nI z) en ep hn hp tp lm dd xd yd) sz)) 44 [some (.ref (g 10)), some (.long (lN mv)), none, some (.long pw), none, some (.int (if mo then 1 else 0)), some (.int (if b then 1 else 0)), some (.int (nI j)), o8, none] [] (wm g ca td cd (53) (-1074) us dc pt (nI y) (nI z) en ep hn hp tp lm dd xd yd) := by
    intro b j y mv T Rv mo pw o8 hyz hj hdy hEj hS hp1 hp2 kk
    have hm62 := hS.2.2.2.2.2
    have hvs : hv 16 E (j + 1) = hv 16 E j * 16 + dg (tp y) := by
      rw [← hEj]
      rfl
    rw [hvs] at kk
    refine j_aloadn0 (pc := 44) hC d_m_hexadecimal_44 ?_
    refine j_bipush (pc := 45) (v := 46) hC d_m_hexadecimal_45 (by decide) ?_
    refine j_V1i (pc := 47) (q0 := 0) (ci := 3) hC cw_M_110 (rmD_in (by decide)) (Nat.le_of_ble_eq_true rfl) rfl rfl d_m_hexadecimal_47 (c_m_is 46 y z hz (by omega)) (fun r w2 h1 => ?_)
    obtain ⟨h1, rfl⟩ := h1
    rcases h1 with ⟨h1, rfl⟩ | ⟨h1, rfl⟩
    · exact absurd h1 (h46 y hdy)
    · refine j_if_eq (pc := 50) hC 69 d_m_hexadecimal_50 (by decide) (fun q => ?_) (fun q => ?_)
      · refine j_aloadn0 (pc := 69) hC d_m_hexadecimal_69 ?_
        refine j_V0i (pc := 70) (q0 := 0) (ci := 3) hC cw_M_181 (rmD_in (by decide)) (Nat.le_of_ble_eq_true rfl) rfl rfl d_m_hexadecimal_70 (c_m_hexDigit y z hz (by omega)) (fun r w2 h2 => ?_)
        obtain ⟨h2, rfl⟩ := h2
        rcases h2 with ⟨h2, rfl⟩ | ⟨h2, rfl⟩
        · generalize hdv : dg (tp y) = dv at *
          refine j_istore8 (pc := 73) hC d_m_hexadecimal_73 (by decide) (by first | exact trivial | exact rfl) ?_
          refine j_iinc7 (pc := 75) hC d_m_hexadecimal_75 (by decide) (by first | exact trivial | exact rfl) ?_
          refine j_aloadn0 (pc := 78) hC d_m_hexadecimal_78 ?_
          refine j_dup (pc := 79) hC d_m_hexadecimal_79 rfl ?_
          refine jg_M_94 (pc := 80) hC d_m_hexadecimal_80 ?_
          refine j_iconst (pc := 83) (v := 1) hC d_m_hexadecimal_83 (by decide) ?_
          refine j_iadd (pc := 84) hC d_m_hexadecimal_84 ?_
          refine jp_M_94 (pc := 85) hC d_m_hexadecimal_85 ?_
          refine J.to rfl (L' := [some (.ref (g 10)), some (.long (lN mv)), none, some (.long pw), none, some (.int (if mo then 1 else 0)), some (.int (if b then 1 else 0)), some (.int (nI (j + 1))), some (.int (nI dv)), none]) (by rw [← nI_1]; rfl) rfl (w' := wm g ca td cd (53) (-1074) us dc pt (nI (y + 1)) (nI z) en ep hn hp tp lm dd xd yd) (by rw [nI_1]) ?_
          refine j_lloadn1 (pc := 88) hC d_m_hexadecimal_88 ?_
          refine j_bipush (pc := 89) (v := 58) hC d_m_hexadecimal_89 (by decide) ?_
          refine J.to rfl rfl (S' := [.int (nI 58), .long (lN mv)]) rfl rfl ?_
          refine j_lushr (pc := 91) hC d_m_hexadecimal_91 ?_
          refine J.topl (wb_shr (by omega) (by omega)) ?_
          refine j_lconst (pc := 92) (v := 0) hC d_m_hexadecimal_92 (by decide) ?_
          refine j_lcmp (pc := 93) hC d_m_hexadecimal_93 ?_
          refine j_if_ne (pc := 94) hC 119 d_m_hexadecimal_94 (by decide) (fun h3 => ?_) (fun h3 => ?_)
          · have h3 : 2 ^ 58 ≤ mv := by
              rcases Nat.lt_or_ge mv (2 ^ 58) with q5 | q5
              · exact absurd ((lg_cmp_eq _ _).mpr (by rw [Nat.div_eq_of_lt q5]; rfl)) h3
              · exact q5
            have hS' := hS_out hS hdy h3
            have k127 : J p l e (rmD 3) s m args below meth c D (va_A (wm g ca td cd (53) (-1074) us dc pt (nI a0) (nI z) en ep hn hp tp lm dd xd yd) sz) 10 (MQ below (jQ D (wm g ca td cd (53) (-1074) us dc pt (nI a0) (nI z) en ep hn hp tp lm dd xd yd) sz (jPl fun r w => ∃ (ps2 : Int32), vR 52 14 9218868437227405312 tp a0 z true r ps2 ∧ w = wm g ca td cd (53) (-1074) us dc pt (ps2) (nI z) en ep hn hp tp lm dd xd yd)) args s 0 0 (va_A (wm g ca td cd (53) (-1074) us dc pt (nI a0) (nI z) en ep hn hp tp lm dd xd yd) sz)) 127 [some (.ref (g 10)), some (.long (lN mv)), none, some (.long pw), none, some (.int (if or mo (decide (dv ≠ 0)) then 1 else 0)), some (.int (if b then 1 else 0)), some (.int (nI (j + 1))), some (.int (nI dv)), none] [] (wm g ca td cd (53) (-1074) us dc pt (nI (y + 1)) (nI z) en ep hn hp tp lm dd xd yd) := by
              cases b with
              | true =>
                refine j_iload6 (pc := 127) hC d_m_hexadecimal_127 ?_
                refine j_if_ne (pc := 129) hC 138 d_m_hexadecimal_129 (by decide) (fun q4 => ?_) (fun q4 => ?_)
                · refine j_goto (pc := 138) hC 23 d_m_hexadecimal_138 (by decide) ?_
                  refine kk mv (T + 4) _ _ pw _ hS' (by omega) ?_
                  simp only [if_true]
                  omega
                · exact absurd q4 (by decide)
              | false =>
                refine j_iload6 (pc := 127) hC d_m_hexadecimal_127 ?_
                refine j_if_ne (pc := 129) hC 138 d_m_hexadecimal_129 (by decide) (fun q4 => ?_) (fun q4 => ?_)
                · exact absurd rfl q4
                · refine j_lloadn3 (pc := 132) hC d_m_hexadecimal_132 ?_
                  refine j_ldc2 (pc := 133) (v := 4) hC mk_M_184 d_m_hexadecimal_133 ?_
                  refine j_ladd (pc := 136) hC d_m_hexadecimal_136 ?_
                  refine j_lstoren3 (pc := 137) hC d_m_hexadecimal_137 (by decide) (by first | exact trivial | exact rfl) ?_
                  refine j_goto (pc := 138) hC 23 d_m_hexadecimal_138 (by decide) ?_
                  refine kk mv (T + 4) _ _ (pw + 4) _ hS' (by omega) ?_
                  rw [Int64.toInt_add, e4, Int.bmod_eq_of_le (by omega) (by omega)]
                  simp only [Bool.false_eq_true, if_false]
                  omega
            refine j_iload8 (pc := 119) hC d_m_hexadecimal_119 ?_
            refine j_if_eq (pc := 121) hC 127 d_m_hexadecimal_121 (by decide) (fun h4 => ?_) (fun h4 => ?_)
            · have hd0 : dv = 0 := (nI_eq (b := 0) (by omega) (by omega)).mp h4
              refine J.to rfl ?_ rfl rfl k127
              rw [hd0]
              simp
            · have hd0 : dv ≠ 0 := fun q5 => h4 (by rw [q5]; rfl)
              refine j_iconst (pc := 124) (v := 1) hC d_m_hexadecimal_124 (by decide) ?_
              refine j_istore5 (pc := 125) hC d_m_hexadecimal_125 (by decide) (by first | exact trivial | exact rfl) ?_
              refine J.to rfl ?_ rfl rfl k127
              simp [hd0]
          · have h3 := (lg_cmp_eq _ _).mp h3
            have h3 : mv / 2 ^ 58 = 0 := (pk_lEQ (b := 0) (by omega) (by omega)).mp h3
            have h3 : mv < 2 ^ 58 := by omega
            have hS' := hS_in hS hdy h3
            refine j_lloadn1 (pc := 97) hC d_m_hexadecimal_97 ?_
            refine j_iconst (pc := 98) (v := 4) hC d_m_hexadecimal_98 (by decide) ?_
            refine J.to rfl rfl (S' := [.int (nI 4), .long (lN mv)]) rfl rfl ?_
            refine j_lshl (pc := 99) hC d_m_hexadecimal_99 ?_
            refine J.topl (wb_shl mv (k := 4) (by omega)) ?_
            refine j_iload8 (pc := 100) hC d_m_hexadecimal_100 ?_
            refine j_i2l (pc := 102) hC d_m_hexadecimal_102 ?_
            refine J.topl (nI_l (by omega)) ?_
            refine j_lor (pc := 103) hC d_m_hexadecimal_103 ?_
            refine J.topl (y := lN (mv * 16 + dv)) (g_or (k := 4) (p := 16) rfl hdy (by omega)) ?_
            cases b with
            | true =>
              refine j_lstoren1 (pc := 104) hC d_m_hexadecimal_104 (by decide) (by first | exact trivial | exact rfl) ?_
              refine j_iload6 (pc := 105) hC d_m_hexadecimal_105 ?_
              refine j_if_eq (pc := 107) hC 138 d_m_hexadecimal_107 (by decide) (fun q4 => ?_) (fun q4 => ?_)
              · exact absurd q4 (by decide)
              · refine j_lloadn3 (pc := 110) hC d_m_hexadecimal_110 ?_
                refine j_ldc2 (pc := 111) (v := 4) hC mk_M_184 d_m_hexadecimal_111 ?_
                refine j_lsub (pc := 114) hC d_m_hexadecimal_114 ?_
                refine j_lstoren3 (pc := 115) hC d_m_hexadecimal_115 (by decide) (by first | exact trivial | exact rfl) ?_
                refine j_goto (pc := 116) hC 138 d_m_hexadecimal_116 (by decide) ?_
                refine j_goto (pc := 138) hC 23 d_m_hexadecimal_138 (by decide) ?_
                refine kk (mv * 16 + dv) T Rv mo (pw - 4) _ hS' (by omega) ?_
                rw [Int64.toInt_sub, e4, Int.bmod_eq_of_le (by omega) (by omega)]
                simp only [if_true]
                omega
            | false =>
              refine j_lstoren1 (pc := 104) hC d_m_hexadecimal_104 (by decide) (by first | exact trivial | exact rfl) ?_
              refine j_iload6 (pc := 105) hC d_m_hexadecimal_105 ?_
              refine j_if_eq (pc := 107) hC 138 d_m_hexadecimal_107 (by decide) (fun q4 => ?_) (fun q4 => ?_)
              · refine j_goto (pc := 138) hC 23 d_m_hexadecimal_138 (by decide) ?_
                refine kk (mv * 16 + dv) T Rv mo pw _ hS' (by omega) ?_
                simp only [Bool.false_eq_true, if_false]
                omega
              · exact absurd rfl q4
        · exact absurd ⟨hyz, hdy⟩ h2
      · exact absurd rfl q
  have k23B : ∀ (d i mv T Rv : Nat) (mo : Bool) (pw : Int64) (o8 : Option Value), i + d = n2 → isc tp (c0 + n1) z 46 → hS mv T Rv mo (hv 16 E (n1 + i)) → T ≤ 4 * (n1 + i) → pw.toInt = (T : Int) - 4 * i → J p l e (rmD 3) s m args below meth c D (va_A (wm g ca td cd (53) (-1074) us dc pt (nI a0) (nI z) en ep hn hp tp lm dd xd yd) sz) 10 (MQ below (jQ D (wm g ca td cd (53) (-1074) us dc pt (nI a0) (nI z) en ep hn hp tp lm dd xd yd) sz (jPl fun r w => ∃ (ps2 : Int32), vR 52 14 9218868437227405312 tp a0 z true r ps2 ∧ w = wm g ca td cd (53) (-1074) us dc pt (ps2) (nI z) en ep hn hp tp lm dd xd yd)) args s 0 0 (va_A (wm g ca td cd (53) (-1074) us dc pt (nI a0) (nI z) en ep hn hp tp lm dd xd yd) sz)) 23 [some (.ref (g 10)), some (.long (lN mv)), none, some (.long pw), none, some (.int (if mo then 1 else 0)), some (.int 1), some (.int (nI (n1 + i))), o8, none] [] (wm g ca td cd (53) (-1074) us dc pt (nI (c2 + i)) (nI z) en ep hn hp tp lm dd xd yd) := by
    intro d
    induction d with
    | zero =>
      intro i mv T Rv mo pw o8 hi hpnt hS hT hpw
      have hi2 : i = n2 := by omega
      subst hi2
      have hc3 := hle.2.2.2.2
      rw [← hc3]
      refine j_aloadn0 (pc := 23) hC d_m_hexadecimal_23 ?_
      refine j_V0i (pc := 24) (q0 := 0) (ci := 3) hC cw_M_181 (rmD_in (by decide)) (Nat.le_of_ble_eq_true rfl) rfl rfl d_m_hexadecimal_24 (c_m_hexDigit c3 z hz (by omega)) (fun r w2 h1 => ?_)
      obtain ⟨h1, rfl⟩ := h1
      rcases h1 with ⟨h1, rfl⟩ | ⟨h1, rfl⟩
      · exact absurd h1.2 (hn2 hpnt h1.1)
      · refine j_if_ge (pc := 27) hC 44 d_m_hexadecimal_27 (by decide) (fun q => ?_) (fun q => ?_)
        · exact absurd q (by decide)
        · refine j_aloadn0 (pc := 30) hC d_m_hexadecimal_30 ?_
          refine j_bipush (pc := 31) (v := 46) hC d_m_hexadecimal_31 (by decide) ?_
          refine j_V1i (pc := 33) (q0 := 0) (ci := 3) hC cw_M_110 (rmD_in (by decide)) (Nat.le_of_ble_eq_true rfl) rfl rfl d_m_hexadecimal_33 (c_m_is 46 c3 z hz (by omega)) (fun r w2 h2 => ?_)
          obtain ⟨h2, rfl⟩ := h2
          rcases h2 with ⟨h2, rfl⟩ | ⟨h2, rfl⟩
          · refine j_if_eq (pc := 36) hC 141 d_m_hexadecimal_36 (by decide) (fun q2 => ?_) (fun q2 => ?_)
            · exact absurd q2 (by decide)
            · refine j_iload6 (pc := 39) hC d_m_hexadecimal_39 ?_
              refine j_if_ne (pc := 41) hC 141 d_m_hexadecimal_41 (by decide) (fun q3 => ?_) (fun q3 => ?_)
              · exact k141 mv T Rv mo pw 1 o8 hS hpw hT
              · exact absurd q3 (by decide)
          · refine j_if_eq (pc := 36) hC 141 d_m_hexadecimal_36 (by decide) (fun q2 => ?_) (fun q2 => ?_)
            · exact k141 mv T Rv mo pw 1 o8 hS hpw hT
            · exact absurd rfl q2
    | succ d ih =>
      intro i mv T Rv mo pw o8 hi hpnt hS hT hpw
      have hc3 := hle.2.2.2.2
      have hdi := hdB i (by omega)
      refine j_aloadn0 (pc := 23) hC d_m_hexadecimal_23 ?_
      refine j_V0i (pc := 24) (q0 := 0) (ci := 3) hC cw_M_181 (rmD_in (by decide)) (Nat.le_of_ble_eq_true rfl) rfl rfl d_m_hexadecimal_24 (c_m_hexDigit (c2 + i) z hz (by omega)) (fun r w2 h1 => ?_)
      obtain ⟨h1, rfl⟩ := h1
      rcases h1 with ⟨h1, rfl⟩ | ⟨h1, rfl⟩
      · refine j_if_ge (pc := 27) hC 44 d_m_hexadecimal_27 (by decide) (fun q => ?_) (fun q => ?_)
        · refine k44 true (n1 + i) (c2 + i) mv T Rv mo pw o8 (by omega) (by omega) hdi (hEB i (by omega)) hS (by omega) (by omega) (fun mv' T' Rv' mo' pw' o8' hS' hT' hpw' => ?_)
          simp only [if_true] at hpw'
          exact ih (i + 1) mv' T' Rv' mo' pw' o8' (by omega) hpnt hS' (by omega) (by omega)
        · exact absurd (nI_pos' (by omega)) q
      · exact absurd ⟨by omega, hdi⟩ h1
  have k23A : ∀ (d i mv T Rv : Nat) (mo : Bool) (pw : Int64) (o8 : Option Value), i + d = n1 → hS mv T Rv mo (hv 16 E i) → T ≤ 4 * i → pw.toInt = (T : Int) → J p l e (rmD 3) s m args below meth c D (va_A (wm g ca td cd (53) (-1074) us dc pt (nI a0) (nI z) en ep hn hp tp lm dd xd yd) sz) 10 (MQ below (jQ D (wm g ca td cd (53) (-1074) us dc pt (nI a0) (nI z) en ep hn hp tp lm dd xd yd) sz (jPl fun r w => ∃ (ps2 : Int32), vR 52 14 9218868437227405312 tp a0 z true r ps2 ∧ w = wm g ca td cd (53) (-1074) us dc pt (ps2) (nI z) en ep hn hp tp lm dd xd yd)) args s 0 0 (va_A (wm g ca td cd (53) (-1074) us dc pt (nI a0) (nI z) en ep hn hp tp lm dd xd yd) sz)) 23 [some (.ref (g 10)), some (.long (lN mv)), none, some (.long pw), none, some (.int (if mo then 1 else 0)), some (.int 0), some (.int (nI i)), o8, none] [] (wm g ca td cd (53) (-1074) us dc pt (nI (c0 + i)) (nI z) en ep hn hp tp lm dd xd yd) := by
    intro d
    induction d with
    | zero =>
      intro i mv T Rv mo pw o8 hi hS hT hpw
      have hi2 : i = n1 := by omega
      subst hi2
      refine j_aloadn0 (pc := 23) hC d_m_hexadecimal_23 ?_
      refine j_V0i (pc := 24) (q0 := 0) (ci := 3) hC cw_M_181 (rmD_in (by decide)) (Nat.le_of_ble_eq_true rfl) rfl rfl d_m_hexadecimal_24 (c_m_hexDigit (c0 + i) z hz (by omega)) (fun r w2 h1 => ?_)
      obtain ⟨h1, rfl⟩ := h1
      rcases h1 with ⟨h1, rfl⟩ | ⟨h1, rfl⟩
      · exact absurd h1.2 (hn1 h1.1)
      · refine j_if_ge (pc := 27) hC 44 d_m_hexadecimal_27 (by decide) (fun q => ?_) (fun q => ?_)
        · exact absurd q (by decide)
        · refine j_aloadn0 (pc := 30) hC d_m_hexadecimal_30 ?_
          refine j_bipush (pc := 31) (v := 46) hC d_m_hexadecimal_31 (by decide) ?_
          refine j_V1i (pc := 33) (q0 := 0) (ci := 3) hC cw_M_110 (rmD_in (by decide)) (Nat.le_of_ble_eq_true rfl) rfl rfl d_m_hexadecimal_33 (c_m_is 46 (c0 + i) z hz (by omega)) (fun r w2 h2 => ?_)
          obtain ⟨h2, rfl⟩ := h2
          rcases h2 with ⟨h2, rfl⟩ | ⟨h2, rfl⟩
          · have hc2 : c2 = c0 + i + 1 := by
              rcases hD.2.2.2.1 with ⟨g1, g2, g3⟩ | ⟨g1, g2, g3⟩
              · exact g2
              · exact absurd h2 g1
            refine j_if_eq (pc := 36) hC 141 d_m_hexadecimal_36 (by decide) (fun q2 => ?_) (fun q2 => ?_)
            · exact absurd q2 (by decide)
            · refine j_iload6 (pc := 39) hC d_m_hexadecimal_39 ?_
              refine j_if_ne (pc := 41) hC 141 d_m_hexadecimal_41 (by decide) (fun q3 => ?_) (fun q3 => ?_)
              · exact absurd rfl q3
              · refine j_aloadn0 (pc := 44) hC d_m_hexadecimal_44 ?_
                refine j_bipush (pc := 45) (v := 46) hC d_m_hexadecimal_45 (by decide) ?_
                refine j_V1i (pc := 47) (q0 := 0) (ci := 3) hC cw_M_110 (rmD_in (by decide)) (Nat.le_of_ble_eq_true rfl) rfl rfl d_m_hexadecimal_47 (c_m_is 46 (c0 + i) z hz (by omega)) (fun r w2 h4 => ?_)
                obtain ⟨h4, rfl⟩ := h4
                rcases h4 with ⟨h4, rfl⟩ | ⟨h4, rfl⟩
                · refine j_if_eq (pc := 50) hC 69 d_m_hexadecimal_50 (by decide) (fun q4 => ?_) (fun q4 => ?_)
                  · exact absurd q4 (by decide)
                  · refine j_iconst (pc := 53) (v := 1) hC d_m_hexadecimal_53 (by decide) ?_
                    refine j_istore6 (pc := 54) hC d_m_hexadecimal_54 (by decide) (by first | exact trivial | exact rfl) ?_
                    refine j_aloadn0 (pc := 56) hC d_m_hexadecimal_56 ?_
                    refine j_dup (pc := 57) hC d_m_hexadecimal_57 rfl ?_
                    refine jg_M_94 (pc := 58) hC d_m_hexadecimal_58 ?_
                    refine j_iconst (pc := 61) (v := 1) hC d_m_hexadecimal_61 (by decide) ?_
                    refine j_iadd (pc := 62) hC d_m_hexadecimal_62 ?_
                    refine jp_M_94 (pc := 63) hC d_m_hexadecimal_63 ?_
                    refine j_goto (pc := 66) hC 23 d_m_hexadecimal_66 (by decide) ?_
                    refine J.to rfl rfl rfl ?_ (k23B n2 0 mv T Rv mo pw o8 (by omega) h2 hS (by omega) (by omega))
                    rw [nI_1, hc2]
                · exact absurd h2 h4
          · have hc2 : c2 = c0 + i ∧ n2 = 0 := by
              rcases hD.2.2.2.1 with ⟨g1, g2, g3⟩ | ⟨g1, g2, g3⟩
              · exact absurd g1 h2
              · exact ⟨g2, g3⟩
            have e1 : c3 = c0 + i := by omega
            refine j_if_eq (pc := 36) hC 141 d_m_hexadecimal_36 (by decide) (fun q2 => ?_) (fun q2 => ?_)
            · refine J.to rfl ?_ rfl ?_ (k141 mv T Rv mo pw 0 o8 ?_ ?_ (by omega))
              · rw [hc2.2]
                rfl
              · rw [e1]
              · rw [hc2.2]
                exact hS
              · rw [hc2.2, hpw]
                omega
            · exact absurd rfl q2
    | succ d ih =>
      intro i mv T Rv mo pw o8 hi hS hT hpw
      have hdi := hdA i (by omega)
      refine j_aloadn0 (pc := 23) hC d_m_hexadecimal_23 ?_
      refine j_V0i (pc := 24) (q0 := 0) (ci := 3) hC cw_M_181 (rmD_in (by decide)) (Nat.le_of_ble_eq_true rfl) rfl rfl d_m_hexadecimal_24 (c_m_hexDigit (c0 + i) z hz (by omega)) (fun r w2 h1 => ?_)
      obtain ⟨h1, rfl⟩ := h1
      rcases h1 with ⟨h1, rfl⟩ | ⟨h1, rfl⟩
      · refine j_if_ge (pc := 27) hC 44 d_m_hexadecimal_27 (by decide) (fun q => ?_) (fun q => ?_)
        · refine k44 false i (c0 + i) mv T Rv mo pw o8 (by omega) (by omega) hdi (hEA i (by omega)) hS (by omega) (by omega) (fun mv' T' Rv' mo' pw' o8' hS' hT' hpw' => ?_)
          simp only [Bool.false_eq_true, if_false] at hpw'
          exact ih (i + 1) mv' T' Rv' mo' pw' o8' (by omega) hS' (by omega) (by omega)
        · exact absurd (nI_pos' (by omega)) q
      · exact absurd ⟨by omega, hdi⟩ h1
  refine j_aloadn0 (pc := 0) hC d_m_hexadecimal_0 ?_
  refine j_dup (pc := 1) hC d_m_hexadecimal_1 rfl ?_
  refine jg_M_94 (pc := 2) hC d_m_hexadecimal_2 ?_
  refine j_iconst (pc := 5) (v := 2) hC d_m_hexadecimal_5 (by decide) ?_
  refine j_iadd (pc := 6) hC d_m_hexadecimal_6 ?_
  refine jp_M_94 (pc := 7) hC d_m_hexadecimal_7 ?_
  refine j_lconst (pc := 10) (v := 0) hC d_m_hexadecimal_10 (by decide) ?_
  refine j_lstoren1 (pc := 11) hC d_m_hexadecimal_11 (by decide) (by first | exact trivial | exact rfl) ?_
  refine j_lconst (pc := 12) (v := 0) hC d_m_hexadecimal_12 (by decide) ?_
  refine j_lstoren3 (pc := 13) hC d_m_hexadecimal_13 (by decide) (by first | exact trivial | exact rfl) ?_
  refine j_iconst (pc := 14) (v := 0) hC d_m_hexadecimal_14 (by decide) ?_
  refine j_istore5 (pc := 15) hC d_m_hexadecimal_15 (by decide) (by first | exact trivial | exact rfl) ?_
  refine j_iconst (pc := 17) (v := 0) hC d_m_hexadecimal_17 (by decide) ?_
  refine j_istore6 (pc := 18) hC d_m_hexadecimal_18 (by decide) (by first | exact trivial | exact rfl) ?_
  refine j_iconst (pc := 20) (v := 0) hC d_m_hexadecimal_20 (by decide) ?_
  refine j_istore7 (pc := 21) hC d_m_hexadecimal_21 (by decide) (by first | exact trivial | exact rfl) ?_
  refine J.to rfl rfl rfl ?_ (k23A n1 0 0 0 0 false 0 none (by omega) hS_0 (by omega) rfl)
  rw [show nI a0 + 2 = nI (a0 + 2) from nI_add a0 2, hc0]
end MH

