section MD
variable {l : Launch} {D : va_G} {X : jX} {g : Nat → Nat} {ca : Nat → ClassId} {td cd us dc : Int32} {pt : Int64} {ps sp en ep hn hp : Int32} {tp : Nat → Int32} {lm : Nat → Int64} {dd xd yd : Nat → Int32}
set_option maxHeartbeats 4000000 in
theorem c_m_decimal_f (c0 z : Nat) (hz : z ≤ 8192) (ha : c0 ≤ z) (hx : ¬ hxs tp c0 z) : jM l y_m_decimal b_m_decimal 5 (some .long) (rmD 3) D (tyM ca) X [.ref (g 10)] (wm g ca td cd (24) (-149) us dc pt (nI c0) (nI z) en ep hn hp tp lm dd xd yd) (jPl fun r w => ∃ (ps2 us2 dc2 en2 ep2 hn2 hp2 : Int32) (pt2 : Int64) (lm2 : Nat → Int64) (dd2 xd2 yd2 : Nat → Int32), vR 23 939 2139095040 tp c0 z false r ps2 ∧ w = wm g ca td cd (24) (-149) (us2) (dc2) (pt2) (ps2) (nI z) (en2) (ep2) (hn2) (hp2) tp (lm2) (dd2) (xd2) (yd2)) := by
  refine jM.of [some (.ref (g 10)), none, none, none, none] (by simp [jle, jent, Value.category]) rfl (Nat.le_of_ble_eq_true rfl) ?_
  intro p e s m args below meth c sz hC
  obtain ⟨c1, n1, n2, c2, c3, hD⟩ := scD_ex tp c0 z false ⟨fun y => (by cases y), fun y => absurd y hx⟩
  have hc0 : c0 = c1 := hD.2.1.symm
  subst hc0
  have hle := scD_le ha hD
  have hG : dgs tp 10 c0 n1 c2 c3 (n1 + n2) := scD_dgs hz ha hD
  have hE := tdg_lt (b := 10) (by omega) hG
  have hEA : ∀ j, j < n1 → tdg tp c0 n1 c2 (n1 + n2) j = dg (tp (c0 + j)) := by
    intro j hj
    unfold tdg
    rw [if_pos hj]
  have hEB : ∀ i, i < n2 → tdg tp c0 n1 c2 (n1 + n2) (n1 + i) = dg (tp (c2 + i)) := by
    intro i hi
    unfold tdg
    rw [if_neg (by omega), if_pos (by omega), show n1 + i - n1 = i by omega]
  have hdA : ∀ j, j < n1 → dg (tp (c0 + j)) < 10 := fun j hj => by rw [← hEA j hj]; exact hE j
  have hdB : ∀ i, i < n2 → dg (tp (c2 + i)) < 10 := fun i hi => by rw [← hEB i hi]; exact hE _
  have hn1 : c0 + n1 < z → ¬ dg (tp (c0 + n1)) < 10 := by
    intro y
    have e : n1 = rn tp 10 c0 (z - c0) := hD.2.2.1
    have h := rn_end tp 10 (z - c0) c0 (by omega)
    rw [← e] at h
    exact h
  have hn2 : isc tp (c0 + n1) z 46 → c3 < z → ¬ dg (tp c3) < 10 := by
    intro y1 y2
    rcases hD.2.2.2.1 with ⟨g1, g2, g3⟩ | ⟨g1, g2, g3⟩
    · have e : n2 = rn tp 10 c2 (z - c2) := g3
      have h := rn_end tp 10 (z - c2) c2 (by omega)
      rw [← e] at h
      rw [hle.2.2.2.2]
      exact h
    · exact absurd y1 g1
  generalize hEE : tdg tp c0 n1 c2 (n1 + n2) = E at *
  have h46 : ∀ x : Nat, dg (tp x) < 10 → ¬ isc tp x z 46 := by
    intro x h1 h2
    rw [h2.2] at h1
    exact absurd h1 (by decide)
  have hDl : hv 10 E (n1 + n2) < 10 ^ (n1 + n2) := hv_lt (fun i _ => hE i)
  -- behind the exponent
  have k245 : ∀ (k : Nat) (dd2 : Nat → Int32) (pt3 : Int64) (ev : Int) (me : Bool) (c5 n3 c6 : Nat) (o1 o2 o3 o4 : Option Value), rS E (n1 + n2) k dd2 → 0 < n1 + n2 → scE tp c3 z false true (me = true) c5 n3 c6 → (ev = ei tp me c5 n3 ∨ (10000000 ≤ ev ∧ 10000000 ≤ ei tp me c5 n3) ∨ (ev ≤ -10000000 ∧ ei tp me c5 n3 ≤ -10000000)) → pt3.toInt = (k : Int) - n2 + ev → ∀ dn, dn ≤ k → (∀ i, dn ≤ i → i < k → dd2 i = 0) → J p l e (rmD 3) s m args below meth c D (va_A (wm g ca td cd (24) (-149) us dc pt (nI c0) (nI z) en ep hn hp tp lm dd xd yd) sz) 5 (MQ below (jQ D (wm g ca td cd (24) (-149) us dc pt (nI c0) (nI z) en ep hn hp tp lm dd xd yd) sz (jPl fun r w => ∃ (ps2 us2 dc2 en2 ep2 hn2 hp2 : Int32) (pt2 : Int64) (lm2 : Nat → Int64) (dd2 xd2 yd2 : Nat → Int32), vR 23 939 2139095040 tp c0 z false r ps2 ∧ w = wm g ca td cd (24) (-149) (us2) (dc2) (pt2) (ps2) (nI z) (en2) (ep2) (hn2) (hp2) tp (lm2) (dd2) (xd2) (yd2))) args s 0 0 (va_A (wm g ca td cd (24) (-149) us dc pt (nI c0) (nI z) en ep hn hp tp lm dd xd yd) sz)) 245 [some (.ref (g 10)), o1, o2, o3, o4] [] (wm g ca td cd (24) (-149) us (nI dn) (pt3) (nI c6) (nI z) en ep hn hp tp lm (dd2) xd yd) := by
    intro k dd2 pt3 ev me c5 n3 c6 o1 o2 o3 o4 hS h0 hX hev hpt dn hdn hz0
    obtain ⟨z0, e1, e2, e3, e4⟩ := hS
    have hQ : scQ tp c0 z false c0 n1 n2 c2 c3 me c5 n3 c6 := ⟨hD, h0, hX⟩
    have hval : hv 10 E (n1 + n2) = hv 10 (fun i => E (z0 + i)) k := by
      rw [e1, hv_app, hv_zero 10 e2]
      omega
    have hzE : ∀ i, dn ≤ i → i < k → E (z0 + i) = 0 := by
      intro i hi hi2
      have y := hz0 i hi hi2
      rw [e4 i hi2] at y
      have := hE (z0 + i)
      exact (nI_eq (b := 0) (by omega) (by omega)).mp y
    have fin : ∀ sv' : Nat, kR 23 939 2139095040 (dN (hv 10 E (n1 + n2)) (ev - n2)) (dM (ev - n2)) sv' → kR 23 939 2139095040 (dN (hv 10 (tdg tp c0 n1 c2 (n1 + n2)) (n1 + n2)) (ei tp me c5 n3 - (n2 : Int))) (dM (ei tp me c5 n3 - (n2 : Int))) sv' := by
      intro sv' h
      rw [hEE]
      exact dec_cut (by omega) (by rw [kG_inf_f]; exact p400_f) p401_f hDl (by omega) h
    refine j_aloadn0 (pc := 245) hC d_m_decimal_245 ?_
    refine jg_M_144 (pc := 246) hC d_m_decimal_246 ?_
    refine j_if_ne (pc := 249) hC 256 d_m_decimal_249 (by decide) (fun h1 => ?_) (fun h1 => ?_)
    · have hdn0 : 0 < dn := Nat.pos_of_ne_zero (fun y => h1 (by rw [y]; rfl))
      refine j_aloadn0 (pc := 256) hC d_m_decimal_256 ?_
      refine j_V0l (pc := 257) (q0 := 0) (ci := 3) hC cw_M_156 (rmD_in (by decide)) (Nat.le_of_ble_eq_true rfl) rfl rfl d_m_decimal_257 (c_m_nearest_f (fun i => E (z0 + i)) dn (10000 + ((dn : Int) - pt3.toInt).toNat) pt3.toInt (fun i hi => e4 i (by omega)) (fun i _ => hE _) hdn0 (by omega) (e3 (by omega)) rfl (by omega) (by omega)) (fun r w2 h2 => ?_)
      obtain ⟨sa, us2, en2, ep2, hn2', hp2, lm2, xd2, yd2, hsa, hkR, rfl, rfl⟩ := h2
      refine j_lret hC d_m_decimal_260 ⟨_, rfl, nI c6, _, _, _, _, _, _, _, _, _, _, _, Or.inl ⟨c0, n1, n2, c2, c3, me, c5, n3, c6, hQ, rfl, sa, hsa, fun y => (by cases y), fun _ => fin sa ?_, rfl⟩, rfl⟩
      rw [hval]
      exact dec_of_sv hdn hzE (by omega) (by omega) hkR
    · have hdn0 : dn = 0 := (nI_eq (b := 0) (by omega) (by omega)).mp h1
      subst hdn0
      refine j_lconst (pc := 252) (v := 0) hC d_m_decimal_252 (by decide) ?_
      refine j_goto (pc := 253) hC 260 d_m_decimal_253 (by decide) ?_
      refine j_lret hC d_m_decimal_260 ⟨_, rfl, nI c6, _, _, _, _, _, _, _, _, _, _, _, Or.inl ⟨c0, n1, n2, c2, c3, me, c5, n3, c6, hQ, rfl, 0, by omega, fun y => (by cases y), fun _ => fin 0 ?_, rfl⟩, rfl⟩
      rw [hval, hv_zero 10 (fun i hi => hzE i (by omega) hi)]
      exact dec_zero (by omega)
  have k211 : ∀ (k : Nat) (dd2 : Nat → Int32) (pt3 : Int64) (ev : Int) (me : Bool) (c5 n3 c6 : Nat) (o1 o2 o3 o4 : Option Value), rS E (n1 + n2) k dd2 → 0 < n1 + n2 → scE tp c3 z false true (me = true) c5 n3 c6 → (ev = ei tp me c5 n3 ∨ (10000000 ≤ ev ∧ 10000000 ≤ ei tp me c5 n3) ∨ (ev ≤ -10000000 ∧ ei tp me c5 n3 ≤ -10000000)) → pt3.toInt = (k : Int) - n2 + ev → ∀ dn, dn ≤ k → (∀ i, dn ≤ i → i < k → dd2 i = 0) → J p l e (rmD 3) s m args below meth c D (va_A (wm g ca td cd (24) (-149) us dc pt (nI c0) (nI z) en ep hn hp tp lm dd xd yd) sz) 5 (MQ below (jQ D (wm g ca td cd (24) (-149) us dc pt (nI c0) (nI z) en ep hn hp tp lm dd xd yd) sz (jPl fun r w => ∃ (ps2 us2 dc2 en2 ep2 hn2 hp2 : Int32) (pt2 : Int64) (lm2 : Nat → Int64) (dd2 xd2 yd2 : Nat → Int32), vR 23 939 2139095040 tp c0 z false r ps2 ∧ w = wm g ca td cd (24) (-149) (us2) (dc2) (pt2) (ps2) (nI z) (en2) (ep2) (hn2) (hp2) tp (lm2) (dd2) (xd2) (yd2))) args s 0 0 (va_A (wm g ca td cd (24) (-149) us dc pt (nI c0) (nI z) en ep hn hp tp lm dd xd yd) sz)) 211 [some (.ref (g 10)), o1, o2, o3, o4] [] (wm g ca td cd (24) (-149) us (nI dn) (pt3) (nI c6) (nI z) en ep hn hp tp lm (dd2) xd yd) := by
    intro k dd2 pt3 ev me c5 n3 c6 o1 o2 o3 o4 hS h0 hX hev hpt dn
    have hk : k ≤ n1 + n2 := by
      obtain ⟨z0, e1, -⟩ := hS
      omega
    induction dn with
    | zero =>
      intro hdn hz0
      refine j_aloadn0 (pc := 211) hC d_m_decimal_211 ?_
      refine jg_M_144 (pc := 212) hC d_m_decimal_212 ?_
      refine j_if_le (pc := 215) hC 245 d_m_decimal_215 (by decide) (fun h1 => ?_) (fun h1 => ?_)
      · exact k245 k dd2 pt3 ev me c5 n3 c6 o1 o2 o3 o4 hS h0 hX hev hpt 0 hdn hz0
      · exact absurd (by decide) h1
    | succ dn ih =>
      intro hdn hz0
      have hcl : (nI dn).toNatClampNeg = dn := nI_clamp (by omega)
      refine j_aloadn0 (pc := 211) hC d_m_decimal_211 ?_
      refine jg_M_144 (pc := 212) hC d_m_decimal_212 ?_
      refine j_if_le (pc := 215) hC 245 d_m_decimal_215 (by decide) (fun h1 => ?_) (fun h1 => ?_)
      · exact absurd h1 (nI_nle (by omega) (by omega))
      · refine j_aloadn0 (pc := 218) hC d_m_decimal_218 ?_
        refine jg_M_27 (pc := 219) hC d_m_decimal_219 ?_
        refine j_aloadn0 (pc := 222) hC d_m_decimal_222 ?_
        refine jg_M_144 (pc := 223) hC d_m_decimal_223 ?_
        refine j_iconst (pc := 226) (v := 1) hC d_m_decimal_226 (by decide) ?_
        refine j_isub (pc := 227) hC d_m_decimal_227 ?_
        refine J.topi (nI_pred dn) ?_
        refine ja_digits_baload (pc := 228) hC (vp_in_nI (by omega) (by decide)) d_m_decimal_228 ?_
        refine j_if_ne (pc := 229) hC 245 d_m_decimal_229 (by decide) (fun h2 => ?_) (fun h2 => ?_)
        · exact k245 k dd2 pt3 ev me c5 n3 c6 o1 o2 o3 o4 hS h0 hX hev hpt (dn + 1) hdn hz0
        · rw [hcl] at h2
          refine j_aloadn0 (pc := 232) hC d_m_decimal_232 ?_
          refine j_dup (pc := 233) hC d_m_decimal_233 rfl ?_
          refine jg_M_144 (pc := 234) hC d_m_decimal_234 ?_
          refine j_iconst (pc := 237) (v := 1) hC d_m_decimal_237 (by decide) ?_
          refine j_isub (pc := 238) hC d_m_decimal_238 ?_
          refine jp_M_144 (pc := 239) hC d_m_decimal_239 ?_
          refine j_goto (pc := 242) hC 211 d_m_decimal_242 (by decide) ?_
          refine J.to rfl rfl rfl ?_ (ih (by omega) (fun i hi hi2 => ?_))
          · rw [nI_pred]
          · rcases Nat.lt_or_eq_of_le hi with y | y
            · exact hz0 i (by omega) hi2
            · rw [← y]; exact h2
  have k148 : ∀ (k : Nat) (dd2 : Nat → Int32) (pt2 : Int64) (b : Int32), rS E (n1 + n2) k dd2 → pt2.toInt = (k : Int) - n2 → J p l e (rmD 3) s m args below meth c D (va_A (wm g ca td cd (24) (-149) us dc pt (nI c0) (nI z) en ep hn hp tp lm dd xd yd) sz) 5 (MQ below (jQ D (wm g ca td cd (24) (-149) us dc pt (nI c0) (nI z) en ep hn hp tp lm dd xd yd) sz (jPl fun r w => ∃ (ps2 us2 dc2 en2 ep2 hn2 hp2 : Int32) (pt2 : Int64) (lm2 : Nat → Int64) (dd2 xd2 yd2 : Nat → Int32), vR 23 939 2139095040 tp c0 z false r ps2 ∧ w = wm g ca td cd (24) (-149) (us2) (dc2) (pt2) (ps2) (nI z) (en2) (ep2) (hn2) (hp2) tp (lm2) (dd2) (xd2) (yd2))) args s 0 0 (va_A (wm g ca td cd (24) (-149) us dc pt (nI c0) (nI z) en ep hn hp tp lm dd xd yd) sz)) 148 [some (.ref (g 10)), some (.int (nI (n1 + n2))), some (.int b), none, none] [] (wm g ca td cd (24) (-149) us (nI k) (pt2) (nI c3) (nI z) en ep hn hp tp lm (dd2) xd yd) := by
    intro k dd2 pt2 b hS hpt
    have hk : k ≤ n1 + n2 := by
      obtain ⟨z0, e1, -⟩ := hS
      omega
    refine j_iloadn1 (pc := 148) hC d_m_decimal_148 ?_
    refine j_if_ne (pc := 149) hC 156 d_m_decimal_149 (by decide) (fun h1 => ?_) (fun h1 => ?_)
    · have h0 : 0 < n1 + n2 := Nat.pos_of_ne_zero (fun y => h1 (by rw [y]; rfl))
      have k174 : (isc tp c3 z 101 ∨ isc tp c3 z 69) → J p l e (rmD 3) s m args below meth c D (va_A (wm g ca td cd (24) (-149) us dc pt (nI c0) (nI z) en ep hn hp tp lm dd xd yd) sz) 5 (MQ below (jQ D (wm g ca td cd (24) (-149) us dc pt (nI c0) (nI z) en ep hn hp tp lm dd xd yd) sz (jPl fun r w => ∃ (ps2 us2 dc2 en2 ep2 hn2 hp2 : Int32) (pt2 : Int64) (lm2 : Nat → Int64) (dd2 xd2 yd2 : Nat → Int32), vR 23 939 2139095040 tp c0 z false r ps2 ∧ w = wm g ca td cd (24) (-149) (us2) (dc2) (pt2) (ps2) (nI z) (en2) (ep2) (hn2) (hp2) tp (lm2) (dd2) (xd2) (yd2))) args s 0 0 (va_A (wm g ca td cd (24) (-149) us dc pt (nI c0) (nI z) en ep hn hp tp lm dd xd yd) sz)) 174 [some (.ref (g 10)), some (.int (nI (n1 + n2))), some (.int b), none, none] [] (wm g ca td cd (24) (-149) us (nI k) (pt2) (nI c3) (nI z) en ep hn hp tp lm (dd2) xd yd) := by
        intro hE1
        have hc3z : c3 < z := by rcases hE1 with y | y <;> exact y.1
        refine j_aloadn0 (pc := 174) hC d_m_decimal_174 ?_
        refine j_dup (pc := 175) hC d_m_decimal_175 rfl ?_
        refine jg_M_94 (pc := 176) hC d_m_decimal_176 ?_
        refine j_iconst (pc := 179) (v := 1) hC d_m_decimal_179 (by decide) ?_
        refine j_iadd (pc := 180) hC d_m_decimal_180 ?_
        refine jp_M_94 (pc := 181) hC d_m_decimal_181 ?_
        refine J.to rfl rfl rfl (w' := wm g ca td cd (24) (-149) us (nI k) (pt2) (nI (c3 + 1)) (nI z) en ep hn hp tp lm (dd2) xd yd) (by rw [nI_1]) ?_
        refine j_aloadn0 (pc := 184) hC d_m_decimal_184 ?_
        refine j_V0l (pc := 185) (q0 := 0) (ci := 3) hC cw_M_153 (rmD_in (by decide)) (Nat.le_of_ble_eq_true rfl) rfl rfl d_m_decimal_185 (c_m_exponent (c3 + 1) z hz (by omega)) (fun r w2 h2 => ?_)
        obtain ⟨me, c5, n3, hm1, hm2, hm3, hm4, rfl⟩ := h2
        have hm2' : sgP tp (c3 + 1) z ∧ c5 = c3 + 2 ∨ ¬ sgP tp (c3 + 1) z ∧ c5 = c3 + 1 := by
          rcases hm2 with y | y
          · exact Or.inl ⟨y.1, by omega⟩
          · exact Or.inr y
        rcases hm4 with ⟨y, rfl⟩ | ⟨y, hr⟩
        · refine j_lstoren3 (pc := 188) hC d_m_decimal_188 (by decide) (by first | exact trivial | exact rfl) ?_
          refine j_lloadn3 (pc := 189) hC d_m_decimal_189 ?_
          refine j_ldc2 (pc := 190) (v := -9223372036854775808) hC mk_M_55 d_m_decimal_190 ?_
          refine j_lcmp (pc := 193) hC d_m_decimal_193 ?_
          refine j_if_ne (pc := 194) hC 201 d_m_decimal_194 (by decide) (fun h3 => ?_) (fun h3 => ?_)
          · exact absurd (by decide) h3
          · refine j_ldc2 (pc := 197) (v := -1) hC mk_M_151 d_m_decimal_197 ?_
            exact j_lret hC d_m_decimal_200 ⟨_, rfl, _, _, _, _, _, _, _, _, _, _, _, _, Or.inr ⟨scQ_noE (mi := me = true) (c5 := c5) (n3 := n3) (c6 := c5 + n3) hD (Or.inr ⟨hE1, hm1, hm2', hm3, rfl, by rw [y]; rfl⟩), rfl, c5 + n3, exp_le hc3z hm2' hm3, rfl⟩, rfl⟩
        · have hdg : ∀ i, i < n3 → dg (tp (c5 + i)) < 10 := fun i hi => rn_in tp 10 (z - c5) c5 i (by rw [← hm3]; exact hi)
          have hxl := xC_lt (t := tp) (c := c5) (lim := 10000000) n3 hdg (by omega)
          have hxe := xC_eq (t := tp) (c := c5) (lim := 10000000) (by omega) n3
          have hX : scE tp c3 z false true (me = true) c5 n3 (c5 + n3) := Or.inr ⟨hE1, hm1, hm2', hm3, rfl, by rw [decide_eq_true y]⟩
          have hrT : r.toInt = if me then -(xC tp c5 10000000 n3 : Int) else (xC tp c5 10000000 n3 : Int) := by
            rw [hr]
            cases me
            · exact pk_lT (by omega)
            · show (-lN _).toInt = _
              rw [Int64.toInt_neg, pk_lT (by omega), Int.bmod_eq_of_le (by omega) (by omega)]
              rfl
          have hcut : (r.toInt = ei tp me c5 n3 ∨ (10000000 ≤ r.toInt ∧ 10000000 ≤ ei tp me c5 n3) ∨ (r.toInt ≤ -10000000 ∧ ei tp me c5 n3 ≤ -10000000)) := by
            rw [hrT]
            unfold ei
            cases me
            · simp only [Bool.false_eq_true, if_false]
              omega
            · simp only [if_true]
              omega
          have hrb : -100000000 < r.toInt ∧ r.toInt < 100000000 := by
            rw [hrT]
            cases me
            · simp only [Bool.false_eq_true, if_false]
              omega
            · simp only [if_true]
              omega
          have hne : ¬ r = -9223372036854775808 := by
            intro y
            rw [y] at hrb
            exact absurd hrb (by decide)
          refine j_lstoren3 (pc := 188) hC d_m_decimal_188 (by decide) (by first | exact trivial | exact rfl) ?_
          refine j_lloadn3 (pc := 189) hC d_m_decimal_189 ?_
          refine j_ldc2 (pc := 190) (v := -9223372036854775808) hC mk_M_55 d_m_decimal_190 ?_
          refine j_lcmp (pc := 193) hC d_m_decimal_193 ?_
          refine j_if_ne (pc := 194) hC 201 d_m_decimal_194 (by decide) (fun h3 => ?_) (fun h3 => ?_)
          · refine j_aloadn0 (pc := 201) hC d_m_decimal_201 ?_
            refine j_dup (pc := 202) hC d_m_decimal_202 rfl ?_
            refine jg_M_147 (pc := 203) hC d_m_decimal_203 ?_
            refine j_lloadn3 (pc := 206) hC d_m_decimal_206 ?_
            refine j_ladd (pc := 207) hC d_m_decimal_207 ?_
            refine jp_M_147 (pc := 208) hC d_m_decimal_208 ?_
            refine k211 k dd2 _ r.toInt me c5 n3 (c5 + n3) _ _ _ _ hS h0 hX hcut ?_ k (Nat.le_refl k) (fun i hi hi2 => absurd hi2 (by omega))
            rw [Int64.toInt_add, hpt, Int.bmod_eq_of_le (by omega) (by omega)]
          · exact absurd ((lg_cmp_eq _ _).mp h3) hne
      refine j_aloadn0 (pc := 156) hC d_m_decimal_156 ?_
      refine j_bipush (pc := 157) (v := 101) hC d_m_decimal_157 (by decide) ?_
      refine j_V1i (pc := 159) (q0 := 0) (ci := 3) hC cw_M_110 (rmD_in (by decide)) (Nat.le_of_ble_eq_true rfl) rfl rfl d_m_decimal_159 (c_m_is 101 c3 z hz (by omega)) (fun r w2 h2 => ?_)
      obtain ⟨h2, rfl⟩ := h2
      rcases h2 with ⟨h2, rfl⟩ | ⟨h2, rfl⟩
      · refine j_if_ne (pc := 162) hC 174 d_m_decimal_162 (by decide) (fun q => ?_) (fun q => ?_)
        · exact k174 (Or.inl h2)
        · exact absurd q (by decide)
      · refine j_if_ne (pc := 162) hC 174 d_m_decimal_162 (by decide) (fun q => ?_) (fun q => ?_)
        · exact absurd rfl q
        · refine j_aloadn0 (pc := 165) hC d_m_decimal_165 ?_
          refine j_bipush (pc := 166) (v := 69) hC d_m_decimal_166 (by decide) ?_
          refine j_V1i (pc := 168) (q0 := 0) (ci := 3) hC cw_M_110 (rmD_in (by decide)) (Nat.le_of_ble_eq_true rfl) rfl rfl d_m_decimal_168 (c_m_is 69 c3 z hz (by omega)) (fun r w2 h3 => ?_)
          obtain ⟨h3, rfl⟩ := h3
          rcases h3 with ⟨h3, rfl⟩ | ⟨h3, rfl⟩
          · refine j_if_eq (pc := 171) hC 211 d_m_decimal_171 (by decide) (fun q2 => ?_) (fun q2 => ?_)
            · exact absurd q2 (by decide)
            · exact k174 (Or.inr h3)
          · refine j_if_eq (pc := 171) hC 211 d_m_decimal_171 (by decide) (fun q2 => ?_) (fun q2 => ?_)
            · exact k211 k dd2 pt2 0 false c3 0 c3 _ _ _ _ hS h0 (Or.inl ⟨fun y => y.elim h2 h3, rfl, fun y => (by cases y), rfl, rfl, rfl⟩) (Or.inl rfl) (by omega) k (Nat.le_refl k) (fun i hi hi2 => absurd hi2 (by omega))
            · exact absurd rfl q2
    · have h0 : n1 + n2 = 0 := (nI_eq (b := 0) (by omega) (by omega)).mp h1
      refine j_ldc2 (pc := 152) (v := -1) hC mk_M_151 d_m_decimal_152 ?_
      exact j_lret hC d_m_decimal_155 ⟨_, rfl, _, _, _, _, _, _, _, _, _, _, _, _, Or.inr ⟨scQ_no0 hD h0, rfl, c3, by omega, rfl⟩, rfl⟩
  -- a digit
  have k34 : ∀ (b : Bool) (j x k : Nat) (dd2 : Nat → Int32) (pt2 : Int64), x < z → j < 8192 → dg (tp x) < 10 → E j = dg (tp x) → rS E j k dd2 → (¬ (k = 0 ∧ E j = 0) → J p l e (rmD 3) s m args below meth c D (va_A (wm g ca td cd (24) (-149) us dc pt (nI c0) (nI z) en ep hn hp tp lm dd xd yd) sz) 5 (MQ below (jQ D (wm g ca td cd (24) (-149) us dc pt (nI c0) (nI z) en ep hn hp tp lm dd xd yd) sz (jPl fun r w => ∃ (ps2 us2 dc2 en2 ep2 hn2 hp2 : Int32) (pt2 : Int64) (lm2 : Nat → Int64) (dd2 xd2 yd2 : Nat → Int32), vR 23 939 2139095040 tp c0 z false r ps2 ∧ w = wm g ca td cd (24) (-149) (us2) (dc2) (pt2) (ps2) (nI z) (en2) (ep2) (hn2) (hp2) tp (lm2) (dd2) (xd2) (yd2))) args s 0 0 (va_A (wm g ca td cd (24) (-149) us dc pt (nI c0) (nI z) en ep hn hp tp lm dd xd yd) sz)) 14 [some (.ref (g 10)), some (.int (nI (j + 1))), some (.int (if b then 1 else 0)), none, none] [] (wm g ca td cd (24) (-149) us (nI (k + 1)) (if b then pt2 else pt2 + 1) (nI (x + 1)) (nI z) en ep hn hp tp lm (upd dd2 k (nI (E j))) xd yd)) → (k = 0 → E j = 0 → J p l e (rmD 3) s m args below meth c D (va_A (wm g ca td cd (24) (-149) us dc pt (nI c0) (nI z) en ep hn hp tp lm dd xd yd) sz) 5 (MQ below (jQ D (wm g ca td cd (24) (-149) us dc pt (nI c0) (nI z) en ep hn hp tp lm dd xd yd) sz (jPl fun r w => ∃ (ps2 us2 dc2 en2 ep2 hn2 hp2 : Int32) (pt2 : Int64) (lm2 : Nat → Int64) (dd2 xd2 yd2 : Nat → Int32), vR 23 939 2139095040 tp c0 z false r ps2 ∧ w = wm g ca td cd (24) (-149) (us2) (dc2) (pt2) (ps2) (nI z) (en2) (ep2) (hn2) (hp2) tp (lm2) (dd2) (xd2) (yd2))) args s 0 0 (va_A (wm g ca td cd (24) (-149) us dc pt (nI c0) (nI z) en ep hn hp tp lm dd xd yd) sz)) 14 [some (.ref (g 10)), some (.int (nI (j + 1))), some (.int (if b then 1 else 0)), none, none] [] (wm g ca td cd (24) (-149) us (nI k) (if b then pt2 - 1 else pt2) (nI (x + 1)) (nI z) en ep hn hp tp lm (dd2) xd yd)) → J p l e (rmD 3) s m args below meth c D (va_A (wm g ca td cd (24) (-149) us dc pt (nI c0) (nI z) en ep hn hp tp lm dd xd yd) sz) 5 (MQ below (jQ D (wm g ca td cd (24) (-149) us dc pt (nI c0) (nI z) en ep hn hp tp lm dd xd yd) sz (jPl fun r w => ∃ (ps2 us2 dc2 en2 ep2 hn2 hp2 : Int32) (pt2 : Int64) (lm2 : Nat → Int64) (dd2 xd2 yd2 : Nat → Int32), vR 23 939 2139095040 tp c0 z false r ps2 ∧ w = wm g ca td cd (24) (-149) (us2) (dc2) (pt2) (ps2) (nI z) (en2) (ep2) (hn2) (hp2) tp (lm2) (dd2) (xd2) (yd2))) args s 0 0 (va_A (wm g ca td cd (24) (-149) us dc pt (nI c0) (nI z) en ep hn hp tp lm dd xd yd) sz)) 34 [some (.ref (g 10)), some (.int (nI j)), some (.int (if b then 1 else 0)), none, none] [] (wm g ca td cd (24) (-149) us (nI k) (pt2) (nI x) (nI z) en ep hn hp tp lm (dd2) xd yd) := by
    intro b j x k dd2 pt2 hxz hj hdx hEj hS hput hskip
    have hk : k ≤ j := by
      obtain ⟨z0, e1, -⟩ := hS
      omega
    have hcl : (nI x).toNatClampNeg = x := nI_clamp (by omega)
    have hdt := dg10.mp hdx
    have k135 : ∀ (dc' : Int32) (dd' : Nat → Int32) (pt' : Int64), J p l e (rmD 3) s m args below meth c D (va_A (wm g ca td cd (24) (-149) us dc pt (nI c0) (nI z) en ep hn hp tp lm dd xd yd) sz) 5 (MQ below (jQ D (wm g ca td cd (24) (-149) us dc pt (nI c0) (nI z) en ep hn hp tp lm dd xd yd) sz (jPl fun r w => ∃ (ps2 us2 dc2 en2 ep2 hn2 hp2 : Int32) (pt2 : Int64) (lm2 : Nat → Int64) (dd2 xd2 yd2 : Nat → Int32), vR 23 939 2139095040 tp c0 z false r ps2 ∧ w = wm g ca td cd (24) (-149) (us2) (dc2) (pt2) (ps2) (nI z) (en2) (ep2) (hn2) (hp2) tp (lm2) (dd2) (xd2) (yd2))) args s 0 0 (va_A (wm g ca td cd (24) (-149) us dc pt (nI c0) (nI z) en ep hn hp tp lm dd xd yd) sz)) 14 [some (.ref (g 10)), some (.int (nI (j + 1))), some (.int (if b then 1 else 0)), none, none] [] (wm g ca td cd (24) (-149) us (dc') (pt') (nI (x + 1)) (nI z) en ep hn hp tp lm (dd') xd yd) → J p l e (rmD 3) s m args below meth c D (va_A (wm g ca td cd (24) (-149) us dc pt (nI c0) (nI z) en ep hn hp tp lm dd xd yd) sz) 5 (MQ below (jQ D (wm g ca td cd (24) (-149) us dc pt (nI c0) (nI z) en ep hn hp tp lm dd xd yd) sz (jPl fun r w => ∃ (ps2 us2 dc2 en2 ep2 hn2 hp2 : Int32) (pt2 : Int64) (lm2 : Nat → Int64) (dd2 xd2 yd2 : Nat → Int32), vR 23 939 2139095040 tp c0 z false r ps2 ∧ w = wm g ca td cd (24) (-149) (us2) (dc2) (pt2) (ps2) (nI z) (en2) (ep2) (hn2) (hp2) tp (lm2) (dd2) (xd2) (yd2))) args s 0 0 (va_A (wm g ca td cd (24) (-149) us dc pt (nI c0) (nI z) en ep hn hp tp lm dd xd yd) sz)) 135 [some (.ref (g 10)), some (.int (nI (j + 1))), some (.int (if b then 1 else 0)), none, none] [] (wm g ca td cd (24) (-149) us (dc') (pt') (nI x) (nI z) en ep hn hp tp lm (dd') xd yd) := by
      intro dc' dd' pt' hk14
      refine j_aloadn0 (pc := 135) hC d_m_decimal_135 ?_
      refine j_dup (pc := 136) hC d_m_decimal_136 rfl ?_
      refine jg_M_94 (pc := 137) hC d_m_decimal_137 ?_
      refine j_iconst (pc := 140) (v := 1) hC d_m_decimal_140 (by decide) ?_
      refine j_iadd (pc := 141) hC d_m_decimal_141 ?_
      refine jp_M_94 (pc := 142) hC d_m_decimal_142 ?_
      refine j_goto (pc := 145) hC 14 d_m_decimal_145 (by decide) ?_
      refine J.to rfl rfl rfl ?_ hk14
      rw [nI_1]
    have k72 : ¬ (k = 0 ∧ E j = 0) → J p l e (rmD 3) s m args below meth c D (va_A (wm g ca td cd (24) (-149) us dc pt (nI c0) (nI z) en ep hn hp tp lm dd xd yd) sz) 5 (MQ below (jQ D (wm g ca td cd (24) (-149) us dc pt (nI c0) (nI z) en ep hn hp tp lm dd xd yd) sz (jPl fun r w => ∃ (ps2 us2 dc2 en2 ep2 hn2 hp2 : Int32) (pt2 : Int64) (lm2 : Nat → Int64) (dd2 xd2 yd2 : Nat → Int32), vR 23 939 2139095040 tp c0 z false r ps2 ∧ w = wm g ca td cd (24) (-149) (us2) (dc2) (pt2) (ps2) (nI z) (en2) (ep2) (hn2) (hp2) tp (lm2) (dd2) (xd2) (yd2))) args s 0 0 (va_A (wm g ca td cd (24) (-149) us dc pt (nI c0) (nI z) en ep hn hp tp lm dd xd yd) sz)) 72 [some (.ref (g 10)), some (.int (nI (j + 1))), some (.int (if b then 1 else 0)), none, none] [] (wm g ca td cd (24) (-149) us (nI k) (pt2) (nI x) (nI z) en ep hn hp tp lm (dd2) xd yd) := by
      intro hne
      refine j_aloadn0 (pc := 72) hC d_m_decimal_72 ?_
      refine jg_M_27 (pc := 73) hC d_m_decimal_73 ?_
      refine j_aloadn0 (pc := 76) hC d_m_decimal_76 ?_
      refine jg_M_144 (pc := 77) hC d_m_decimal_77 ?_
      refine j_aloadn0 (pc := 80) hC d_m_decimal_80 ?_
      refine jg_M_9 (pc := 81) hC d_m_decimal_81 ?_
      refine j_aloadn0 (pc := 84) hC d_m_decimal_84 ?_
      refine jg_M_94 (pc := 85) hC d_m_decimal_85 ?_
      refine ja_mtape_baload (pc := 88) hC (vp_in_nI (by omega) (by decide)) d_m_decimal_88 ?_
      refine j_bipush (pc := 89) (v := 48) hC d_m_decimal_89 (by decide) ?_
      refine j_isub (pc := 91) hC d_m_decimal_91 ?_
      refine J.topi (y := nI (E j)) (by rw [hcl, dg_48 hdt.1 hdt.2, hEj]) ?_
      refine j_i2b (pc := 92) hC d_m_decimal_92 ?_
      refine J.topi (i2b10 _ (by omega)) ?_
      refine ja_digits_bastore (pc := 93) hC (vp_in_nI (by omega) (by decide)) d_m_decimal_93 ?_
      refine j_aloadn0 (pc := 94) hC d_m_decimal_94 ?_
      refine j_dup (pc := 95) hC d_m_decimal_95 rfl ?_
      refine jg_M_144 (pc := 96) hC d_m_decimal_96 ?_
      refine j_iconst (pc := 99) (v := 1) hC d_m_decimal_99 (by decide) ?_
      refine j_iadd (pc := 100) hC d_m_decimal_100 ?_
      refine jp_M_144 (pc := 101) hC d_m_decimal_101 ?_
      have hw := hput hne
      refine J.to rfl rfl rfl (w' := wm g ca td cd (24) (-149) us (nI (k + 1)) (pt2) (nI x) (nI z) en ep hn hp tp lm (upd dd2 k (nI (E j))) xd yd) (by rw [nI_1, nI_clamp (show k < 2 ^ 31 by omega), nar10 _ (by omega)]) ?_
      cases b with
      | true =>
        refine j_iloadn2 (pc := 104) hC d_m_decimal_104 ?_
        refine j_if_ne (pc := 105) hC 135 d_m_decimal_105 (by decide) (fun q => ?_) (fun q => ?_)
        · exact k135 _ _ _ hw
        · exact absurd q (by decide)
      | false =>
        refine j_iloadn2 (pc := 104) hC d_m_decimal_104 ?_
        refine j_if_ne (pc := 105) hC 135 d_m_decimal_105 (by decide) (fun q => ?_) (fun q => ?_)
        · exact absurd rfl q
        · refine j_aloadn0 (pc := 108) hC d_m_decimal_108 ?_
          refine j_dup (pc := 109) hC d_m_decimal_109 rfl ?_
          refine jg_M_147 (pc := 110) hC d_m_decimal_110 ?_
          refine j_lconst (pc := 113) (v := 1) hC d_m_decimal_113 (by decide) ?_
          refine j_ladd (pc := 114) hC d_m_decimal_114 ?_
          refine jp_M_147 (pc := 115) hC d_m_decimal_115 ?_
          refine j_goto (pc := 118) hC 135 d_m_decimal_118 (by decide) ?_
          exact k135 _ _ _ hw
    refine j_aloadn0 (pc := 34) hC d_m_decimal_34 ?_
    refine j_bipush (pc := 35) (v := 46) hC d_m_decimal_35 (by decide) ?_
    refine j_V1i (pc := 37) (q0 := 0) (ci := 3) hC cw_M_110 (rmD_in (by decide)) (Nat.le_of_ble_eq_true rfl) rfl rfl d_m_decimal_37 (c_m_is 46 x z hz (by omega)) (fun r w2 h1 => ?_)
    obtain ⟨h1, rfl⟩ := h1
    rcases h1 with ⟨h1, rfl⟩ | ⟨h1, rfl⟩
    · exact absurd h1 (h46 x hdx)
    · refine j_if_eq (pc := 40) hC 48 d_m_decimal_40 (by decide) (fun q => ?_) (fun q => ?_)
      · refine j_iinc1 (pc := 48) hC d_m_decimal_48 (by decide) (by first | exact trivial | exact rfl) ?_
        refine J.to rfl (L' := [some (.ref (g 10)), some (.int (nI (j + 1))), some (.int (if b then 1 else 0)), none, none]) (by rw [← nI_1]; rfl) rfl rfl ?_
        refine j_aloadn0 (pc := 51) hC d_m_decimal_51 ?_
        refine jg_M_144 (pc := 52) hC d_m_decimal_52 ?_
        refine j_if_gt (pc := 55) hC 72 d_m_decimal_55 (by decide) (fun h2 => ?_) (fun h2 => ?_)
        · exact k72 (fun y => by rw [y.1] at h2; exact absurd h2 (by decide))
        · have hk0 : k = 0 := by
            rcases Nat.eq_zero_or_pos k with y | y
            · exact y
            · exact absurd ((nI_ltI (a := 0) (by omega) (by omega)).mpr y) h2
          refine j_aloadn0 (pc := 58) hC d_m_decimal_58 ?_
          refine jg_M_9 (pc := 59) hC d_m_decimal_59 ?_
          refine j_aloadn0 (pc := 62) hC d_m_decimal_62 ?_
          refine jg_M_94 (pc := 63) hC d_m_decimal_63 ?_
          refine ja_mtape_baload (pc := 66) hC (vp_in_nI (by omega) (by decide)) d_m_decimal_66 ?_
          refine j_bipush (pc := 67) (v := 48) hC d_m_decimal_67 (by decide) ?_
          refine j_icmp_eq (pc := 69) hC 121 d_m_decimal_69 (by decide) (fun h3 => ?_) (fun h3 => ?_)
          · rw [hcl] at h3
            have hE0 : E j = 0 := by
              rw [hEj, h3]
              rfl
            have hw := hskip hk0 hE0
            cases b with
            | true =>
              refine j_iloadn2 (pc := 121) hC d_m_decimal_121 ?_
              refine j_if_eq (pc := 122) hC 135 d_m_decimal_122 (by decide) (fun q2 => ?_) (fun q2 => ?_)
              · exact absurd q2 (by decide)
              · refine j_aloadn0 (pc := 125) hC d_m_decimal_125 ?_
                refine j_dup (pc := 126) hC d_m_decimal_126 rfl ?_
                refine jg_M_147 (pc := 127) hC d_m_decimal_127 ?_
                refine j_lconst (pc := 130) (v := 1) hC d_m_decimal_130 (by decide) ?_
                refine j_lsub (pc := 131) hC d_m_decimal_131 ?_
                refine jp_M_147 (pc := 132) hC d_m_decimal_132 ?_
                exact k135 _ _ _ hw
            | false =>
              refine j_iloadn2 (pc := 121) hC d_m_decimal_121 ?_
              refine j_if_eq (pc := 122) hC 135 d_m_decimal_122 (by decide) (fun q2 => ?_) (fun q2 => ?_)
              · exact k135 _ _ _ hw
              · exact absurd rfl q2
          · rw [hcl] at h3
            refine k72 (fun y => h3 ?_)
            have y2 := y.2
            rw [hEj] at y2
            have := dg_48 hdt.1 hdt.2
            rw [y2] at this
            refine Int32.toInt_inj.mp ?_
            unfold dg at y2
            rw [if_pos hdt] at y2
            have e48 : (48 : Int32).toInt = 48 := rfl
            omega
      · exact absurd rfl q
  have k14B : ∀ (d i k : Nat) (dd2 : Nat → Int32) (pt2 : Int64), i + d = n2 → isc tp (c0 + n1) z 46 → rS E (n1 + i) k dd2 → pt2.toInt = (k : Int) - i → J p l e (rmD 3) s m args below meth c D (va_A (wm g ca td cd (24) (-149) us dc pt (nI c0) (nI z) en ep hn hp tp lm dd xd yd) sz) 5 (MQ below (jQ D (wm g ca td cd (24) (-149) us dc pt (nI c0) (nI z) en ep hn hp tp lm dd xd yd) sz (jPl fun r w => ∃ (ps2 us2 dc2 en2 ep2 hn2 hp2 : Int32) (pt2 : Int64) (lm2 : Nat → Int64) (dd2 xd2 yd2 : Nat → Int32), vR 23 939 2139095040 tp c0 z false r ps2 ∧ w = wm g ca td cd (24) (-149) (us2) (dc2) (pt2) (ps2) (nI z) (en2) (ep2) (hn2) (hp2) tp (lm2) (dd2) (xd2) (yd2))) args s 0 0 (va_A (wm g ca td cd (24) (-149) us dc pt (nI c0) (nI z) en ep hn hp tp lm dd xd yd) sz)) 14 [some (.ref (g 10)), some (.int (nI (n1 + i))), some (.int 1), none, none] [] (wm g ca td cd (24) (-149) us (nI k) (pt2) (nI (c2 + i)) (nI z) en ep hn hp tp lm (dd2) xd yd) := by
    intro d
    induction d with
    | zero =>
      intro i k dd2 pt2 hi hpnt hS hpt
      have hi2 : i = n2 := by omega
      subst hi2
      have hc3 := hle.2.2.2.2
      rw [← hc3]
      refine j_aloadn0 (pc := 14) hC d_m_decimal_14 ?_
      refine j_V0i (pc := 15) (q0 := 0) (ci := 3) hC cw_M_134 (rmD_in (by decide)) (Nat.le_of_ble_eq_true rfl) rfl rfl d_m_decimal_15 (c_m_isDigit c3 z hz (by omega)) (fun r w2 h1 => ?_)
      obtain ⟨h1, rfl⟩ := h1
      rcases h1 with ⟨h1, rfl⟩ | ⟨h1, rfl⟩
      · exact absurd h1.2 (hn2 hpnt h1.1)
      · refine j_if_ne (pc := 18) hC 34 d_m_decimal_18 (by decide) (fun q => ?_) (fun q => ?_)
        · exact absurd rfl q
        · refine j_aloadn0 (pc := 21) hC d_m_decimal_21 ?_
          refine j_bipush (pc := 22) (v := 46) hC d_m_decimal_22 (by decide) ?_
          refine j_V1i (pc := 24) (q0 := 0) (ci := 3) hC cw_M_110 (rmD_in (by decide)) (Nat.le_of_ble_eq_true rfl) rfl rfl d_m_decimal_24 (c_m_is 46 c3 z hz (by omega)) (fun r w2 h2 => ?_)
          obtain ⟨h2, rfl⟩ := h2
          rcases h2 with ⟨h2, rfl⟩ | ⟨h2, rfl⟩
          · refine j_if_eq (pc := 27) hC 148 d_m_decimal_27 (by decide) (fun q2 => ?_) (fun q2 => ?_)
            · exact absurd q2 (by decide)
            · refine j_iloadn2 (pc := 30) hC d_m_decimal_30 ?_
              refine j_if_ne (pc := 31) hC 148 d_m_decimal_31 (by decide) (fun q3 => ?_) (fun q3 => ?_)
              · exact k148 k dd2 pt2 1 hS hpt
              · exact absurd q3 (by decide)
          · refine j_if_eq (pc := 27) hC 148 d_m_decimal_27 (by decide) (fun q2 => ?_) (fun q2 => ?_)
            · exact k148 k dd2 pt2 1 hS hpt
            · exact absurd rfl q2
    | succ d ih =>
      intro i k dd2 pt2 hi hpnt hS hpt
      have hc3 := hle.2.2.2.2
      have hdi := hdB i (by omega)
      have hk : k ≤ n1 + i := by
        obtain ⟨z0, e1, -⟩ := hS
        omega
      refine j_aloadn0 (pc := 14) hC d_m_decimal_14 ?_
      refine j_V0i (pc := 15) (q0 := 0) (ci := 3) hC cw_M_134 (rmD_in (by decide)) (Nat.le_of_ble_eq_true rfl) rfl rfl d_m_decimal_15 (c_m_isDigit (c2 + i) z hz (by omega)) (fun r w2 h1 => ?_)
      obtain ⟨h1, rfl⟩ := h1
      rcases h1 with ⟨h1, rfl⟩ | ⟨h1, rfl⟩
      · refine j_if_ne (pc := 18) hC 34 d_m_decimal_18 (by decide) (fun q => ?_) (fun q => ?_)
        · refine k34 true (n1 + i) (c2 + i) k dd2 pt2 (by omega) (by omega) hdi (hEB i (by omega)) hS (fun hne => ?_) (fun hk0 hE0 => ?_)
          · exact ih (i + 1) (k + 1) _ pt2 (by omega) hpnt (rS_put hS hne) (by omega)
          · subst hk0
            refine ih (i + 1) 0 dd2 (pt2 - 1) (by omega) hpnt (rS_skip hS hE0) ?_
            rw [Int64.toInt_sub, hpt, show (1 : Int64).toInt = 1 from rfl, Int.bmod_eq_of_le (by omega) (by omega)]
            omega
        · exact absurd q (by decide)
      · exact absurd ⟨by omega, hdi⟩ h1
  have k14A : ∀ (d i k : Nat) (dd2 : Nat → Int32), i + d = n1 → rS E i k dd2 → J p l e (rmD 3) s m args below meth c D (va_A (wm g ca td cd (24) (-149) us dc pt (nI c0) (nI z) en ep hn hp tp lm dd xd yd) sz) 5 (MQ below (jQ D (wm g ca td cd (24) (-149) us dc pt (nI c0) (nI z) en ep hn hp tp lm dd xd yd) sz (jPl fun r w => ∃ (ps2 us2 dc2 en2 ep2 hn2 hp2 : Int32) (pt2 : Int64) (lm2 : Nat → Int64) (dd2 xd2 yd2 : Nat → Int32), vR 23 939 2139095040 tp c0 z false r ps2 ∧ w = wm g ca td cd (24) (-149) (us2) (dc2) (pt2) (ps2) (nI z) (en2) (ep2) (hn2) (hp2) tp (lm2) (dd2) (xd2) (yd2))) args s 0 0 (va_A (wm g ca td cd (24) (-149) us dc pt (nI c0) (nI z) en ep hn hp tp lm dd xd yd) sz)) 14 [some (.ref (g 10)), some (.int (nI i)), some (.int 0), none, none] [] (wm g ca td cd (24) (-149) us (nI k) (lN k) (nI (c0 + i)) (nI z) en ep hn hp tp lm (dd2) xd yd) := by
    intro d
    induction d with
    | zero =>
      intro i k dd2 hi hS
      have hi2 : i = n1 := by omega
      subst hi2
      have hk : k ≤ i := by
        obtain ⟨z0, e1, -⟩ := hS
        omega
      refine j_aloadn0 (pc := 14) hC d_m_decimal_14 ?_
      refine j_V0i (pc := 15) (q0 := 0) (ci := 3) hC cw_M_134 (rmD_in (by decide)) (Nat.le_of_ble_eq_true rfl) rfl rfl d_m_decimal_15 (c_m_isDigit (c0 + i) z hz (by omega)) (fun r w2 h1 => ?_)
      obtain ⟨h1, rfl⟩ := h1
      rcases h1 with ⟨h1, rfl⟩ | ⟨h1, rfl⟩
      · exact absurd h1.2 (hn1 h1.1)
      · refine j_if_ne (pc := 18) hC 34 d_m_decimal_18 (by decide) (fun q => ?_) (fun q => ?_)
        · exact absurd rfl q
        · refine j_aloadn0 (pc := 21) hC d_m_decimal_21 ?_
          refine j_bipush (pc := 22) (v := 46) hC d_m_decimal_22 (by decide) ?_
          refine j_V1i (pc := 24) (q0 := 0) (ci := 3) hC cw_M_110 (rmD_in (by decide)) (Nat.le_of_ble_eq_true rfl) rfl rfl d_m_decimal_24 (c_m_is 46 (c0 + i) z hz (by omega)) (fun r w2 h2 => ?_)
          obtain ⟨h2, rfl⟩ := h2
          rcases h2 with ⟨h2, rfl⟩ | ⟨h2, rfl⟩
          · have hc2 : c2 = c0 + i + 1 := by
              rcases hD.2.2.2.1 with ⟨g1, g2, g3⟩ | ⟨g1, g2, g3⟩
              · exact g2
              · exact absurd h2 g1
            refine j_if_eq (pc := 27) hC 148 d_m_decimal_27 (by decide) (fun q2 => ?_) (fun q2 => ?_)
            · exact absurd q2 (by decide)
            · refine j_iloadn2 (pc := 30) hC d_m_decimal_30 ?_
              refine j_if_ne (pc := 31) hC 148 d_m_decimal_31 (by decide) (fun q3 => ?_) (fun q3 => ?_)
              · exact absurd rfl q3
              · refine j_aloadn0 (pc := 34) hC d_m_decimal_34 ?_
                refine j_bipush (pc := 35) (v := 46) hC d_m_decimal_35 (by decide) ?_
                refine j_V1i (pc := 37) (q0 := 0) (ci := 3) hC cw_M_110 (rmD_in (by decide)) (Nat.le_of_ble_eq_true rfl) rfl rfl d_m_decimal_37 (c_m_is 46 (c0 + i) z hz (by omega)) (fun r w2 h4 => ?_)
                obtain ⟨h4, rfl⟩ := h4
                rcases h4 with ⟨h4, rfl⟩ | ⟨h4, rfl⟩
                · refine j_if_eq (pc := 40) hC 48 d_m_decimal_40 (by decide) (fun q4 => ?_) (fun q4 => ?_)
                  · exact absurd q4 (by decide)
                  · refine j_iconst (pc := 43) (v := 1) hC d_m_decimal_43 (by decide) ?_
                    refine j_istoren2 (pc := 44) hC d_m_decimal_44 (by decide) (by first | exact trivial | exact rfl) ?_
                    refine j_goto (pc := 45) hC 135 d_m_decimal_45 (by decide) ?_
                    refine j_aloadn0 (pc := 135) hC d_m_decimal_135 ?_
                    refine j_dup (pc := 136) hC d_m_decimal_136 rfl ?_
                    refine jg_M_94 (pc := 137) hC d_m_decimal_137 ?_
                    refine j_iconst (pc := 140) (v := 1) hC d_m_decimal_140 (by decide) ?_
                    refine j_iadd (pc := 141) hC d_m_decimal_141 ?_
                    refine jp_M_94 (pc := 142) hC d_m_decimal_142 ?_
                    refine j_goto (pc := 145) hC 14 d_m_decimal_145 (by decide) ?_
                    refine J.to rfl rfl rfl ?_ (k14B n2 0 k dd2 (lN k) (by omega) h2 hS (by rw [pk_lT (by omega)]; omega))
                    rw [nI_1, hc2]
                · exact absurd h2 h4
          · have hc2 : c2 = c0 + i ∧ n2 = 0 := by
              rcases hD.2.2.2.1 with ⟨g1, g2, g3⟩ | ⟨g1, g2, g3⟩
              · exact absurd g1 h2
              · exact ⟨g2, g3⟩
            have e1 : c3 = c0 + i := by omega
            refine j_if_eq (pc := 27) hC 148 d_m_decimal_27 (by decide) (fun q2 => ?_) (fun q2 => ?_)
            · refine J.to rfl ?_ rfl ?_ (k148 k dd2 (lN k) 0 ?_ ?_)
              · rw [hc2.2]
                rfl
              · rw [e1]
              · rw [hc2.2]
                exact hS
              · rw [pk_lT (by omega), hc2.2]
                omega
            · exact absurd rfl q2
    | succ d ih =>
      intro i k dd2 hi hS
      have hdi := hdA i (by omega)
      have hk : k ≤ i := by
        obtain ⟨z0, e1, -⟩ := hS
        omega
      refine j_aloadn0 (pc := 14) hC d_m_decimal_14 ?_
      refine j_V0i (pc := 15) (q0 := 0) (ci := 3) hC cw_M_134 (rmD_in (by decide)) (Nat.le_of_ble_eq_true rfl) rfl rfl d_m_decimal_15 (c_m_isDigit (c0 + i) z hz (by omega)) (fun r w2 h1 => ?_)
      obtain ⟨h1, rfl⟩ := h1
      rcases h1 with ⟨h1, rfl⟩ | ⟨h1, rfl⟩
      · refine j_if_ne (pc := 18) hC 34 d_m_decimal_18 (by decide) (fun q => ?_) (fun q => ?_)
        · refine k34 false i (c0 + i) k dd2 (lN k) (by omega) (by omega) hdi (hEA i (by omega)) hS (fun hne => ?_) (fun hk0 hE0 => ?_)
          · refine J.to rfl rfl rfl ?_ (ih (i + 1) (k + 1) _ (by omega) (rS_put hS hne))
            rw [← lN_1]
            rfl
          · subst hk0
            exact ih (i + 1) 0 dd2 (by omega) (rS_skip hS hE0)
        · exact absurd q (by decide)
      · exact absurd ⟨by omega, hdi⟩ h1
  refine j_aloadn0 (pc := 0) hC d_m_decimal_0 ?_
  refine j_iconst (pc := 1) (v := 0) hC d_m_decimal_1 (by decide) ?_
  refine jp_M_144 (pc := 2) hC d_m_decimal_2 ?_
  refine j_aloadn0 (pc := 5) hC d_m_decimal_5 ?_
  refine j_lconst (pc := 6) (v := 0) hC d_m_decimal_6 (by decide) ?_
  refine jp_M_147 (pc := 7) hC d_m_decimal_7 ?_
  refine j_iconst (pc := 10) (v := 0) hC d_m_decimal_10 (by decide) ?_
  refine j_istoren1 (pc := 11) hC d_m_decimal_11 (by decide) (by first | exact trivial | exact rfl) ?_
  refine j_iconst (pc := 12) (v := 0) hC d_m_decimal_12 (by decide) ?_
  refine j_istoren2 (pc := 13) hC d_m_decimal_13 (by decide) (by first | exact trivial | exact rfl) ?_
  exact k14A n1 0 0 dd (by omega) (rS_0 _ _)
end MD

