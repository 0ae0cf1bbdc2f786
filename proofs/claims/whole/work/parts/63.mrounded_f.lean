section MX
variable {l : Launch} {D : va_G} {X : jX} {g : Nat → Nat} {ca : Nat → ClassId} {td cd us dc : Int32} {pt : Int64} {ps sp en ep hn hp : Int32} {tp : Nat → Int32} {lm : Nat → Int64} {dd xd yd : Nat → Int32}
theorem shr1_f : lN (2 ^ (23 + 1)) >>> ((1 : Int32).toInt64 &&& 63) = lN (2 ^ 23) := by decide +kernel
theorem inf_f : 2139095040 = 255 * 2 ^ 23 := by decide +kernel
set_option maxHeartbeats 4000000 in
theorem c_m_rounded_f (Dv T Rv mv : Nat) (x : Int) (pw : Int64) (mo : Bool) (hD : Dv = mv * 2 ^ T + Rv) (hR : Rv < 2 ^ T) (hmo : mo = true ↔ Rv ≠ 0) (h58 : Rv ≠ 0 → 2 ^ 58 ≤ mv) (hmv : mv < 2 ^ 62) (hpw : pw.toInt = x + T) (hb1 : -1000000000 < x + T) (hb2 : x + T < 1000000000) : jM l y_m_rounded b_m_rounded 17 (some .long) (rmD 2) D (tyM ca) X [.ref (g 10), .long (lN mv), .long pw, .int (if mo then 1 else 0)] (wm g ca td cd (24) (-149) us dc pt ps sp en ep hn hp tp lm dd xd yd) (jPl fun r w => ∃ s', s' ≤ 2139095040 ∧ kR 23 939 2139095040 (xN Dv x) (xM x) s' ∧ r = lN s' ∧ w = wm g ca td cd (24) (-149) us dc pt ps sp en ep hn hp tp lm dd xd yd) := by
  refine jM.of [some (.ref (g 10)), some (.long (lN mv)), none, some (.long pw), none, some (.int (if mo then 1 else 0)), none, none, none, none, none, none, none, none, none, none, none] (by simp [jle, jent, Value.category]) rfl (Nat.le_of_ble_eq_true rfl) ?_
  intro p e s m args below meth c sz hC
  have hinf := inf_f
  have hp0 : 0 < 2 ^ 23 := Nat.two_pow_pos _
  have k222 : ∀ (cv U : Nat) (uv : Int32) (o6 o7 o8 o10 o13 o14 o15 o16 : Option Value), uv.toInt = (U : Int) - 1088 → 939 ≤ U → U < 100000 → cv < 2 ^ (23 + 1) → (U = 939 ∨ 2 ^ 23 ≤ cv) → kR 23 939 2139095040 (xN Dv x) (xM x) (min 2139095040 ((U - 939) * 2 ^ 23 + cv)) → J p l e (rmD 2) s m args below meth c D (va_A (wm g ca td cd (24) (-149) us dc pt ps sp en ep hn hp tp lm dd xd yd) sz) 17 (MQ below (jQ D (wm g ca td cd (24) (-149) us dc pt ps sp en ep hn hp tp lm dd xd yd) sz (jPl fun r w => ∃ s', s' ≤ 2139095040 ∧ kR 23 939 2139095040 (xN Dv x) (xM x) s' ∧ r = lN s' ∧ w = wm g ca td cd (24) (-149) us dc pt ps sp en ep hn hp tp lm dd xd yd)) args s 0 0 (va_A (wm g ca td cd (24) (-149) us dc pt ps sp en ep hn hp tp lm dd xd yd) sz)) 222 [some (.ref (g 10)), some (.long (lN mv)), none, some (.long pw), none, some (.int (if mo then 1 else 0)), o6, o7, o8, some (.int uv), o10, some (.long (lN cv)), none, o13, o14, o15, o16] [] (wm g ca td cd (24) (-149) us dc pt ps sp en ep hn hp tp lm dd xd yd) := by
    intro cv U uv o6 o7 o8 o10 o13 o14 o15 o16 huv hU1 hU2 hc hcU hk
    rw [Nat.pow_succ] at hc
    refine j_lload11 (pc := 222) hC d_m_rounded_222 ?_
    refine j_aloadn0 (pc := 224) hC d_m_rounded_224 ?_
    refine j_V0l (pc := 225) (q0 := 0) (ci := 3) hC cw_M_63 (rmD_in (by decide)) (Nat.le_of_ble_eq_true rfl) rfl rfl d_m_rounded_225 (c_m_fraction_f) (fun r w2 h1 => ?_)
    obtain ⟨rfl, rfl⟩ := h1
    refine j_lcmp (pc := 228) hC d_m_rounded_228 ?_
    refine j_if_gt (pc := 229) hC 235 d_m_rounded_229 (by decide) (fun h1 => ?_) (fun h1 => ?_)
    · have h1 := (pk_lLT (by omega) (by omega)).mp ((lg_cmp_gt _ _).mp h1)
      have e1 : (1 : Int32).toInt = 1 := rfl
      have el : (-149 : Int32).toInt = -149 := rfl
      have es : (uv - -149).toInt = (U : Int) - 939 := by
        rw [tsub (by rw [huv, el]; omega) (by rw [huv, el]; omega), huv, el]
        omega
      have ee : uv - -149 + 1 = nI (U - 939 + 1) := nI_to (by omega) (by
        rw [tadd (by rw [es, e1]; omega) (by rw [es, e1]; omega), es, e1]
        omega)
      refine j_iload9 (pc := 235) hC d_m_rounded_235 ?_
      refine j_aloadn0 (pc := 237) hC d_m_rounded_237 ?_
      refine jg_M_48 (pc := 238) hC d_m_rounded_238 ?_
      refine j_isub (pc := 241) hC d_m_rounded_241 ?_
      refine j_iconst (pc := 242) (v := 1) hC d_m_rounded_242 (by decide) ?_
      refine j_iadd (pc := 243) hC d_m_rounded_243 ?_
      refine J.topi ee ?_
      refine j_i2l (pc := 244) hC d_m_rounded_244 ?_
      refine J.topl (nI_l (by omega)) ?_
      refine j_lstore13 (pc := 245) hC d_m_rounded_245 (by decide) (by first | exact trivial | exact rfl) ?_
      refine j_lload13 (pc := 247) hC d_m_rounded_247 ?_
      refine j_aloadn0 (pc := 249) hC d_m_rounded_249 ?_
      refine j_V0l (pc := 250) (q0 := 0) (ci := 3) hC cw_M_59 (rmD_in (by decide)) (Nat.le_of_ble_eq_true rfl) rfl rfl d_m_rounded_250 (c_m_infinity_f) (fun r w2 h2 => ?_)
      obtain ⟨rfl, rfl⟩ := h2
      refine j_aloadn0 (pc := 253) hC d_m_rounded_253 ?_
      refine jg_M_45 (pc := 254) hC d_m_rounded_254 ?_
      refine j_iconst (pc := 257) (v := 1) hC d_m_rounded_257 (by decide) ?_
      refine j_isub (pc := 258) hC d_m_rounded_258 ?_
      refine j_lushr (pc := 259) hC d_m_rounded_259 ?_
      refine J.topl (y := lN 255) (by decide +kernel) ?_
      refine j_lcmp (pc := 260) hC d_m_rounded_260 ?_
      refine j_if_lt (pc := 261) hC 271 d_m_rounded_261 (by decide) (fun h2 => ?_) (fun h2 => ?_)
      · have h2 := (pk_lLT (by omega) (by omega)).mp ((lg_cmp_lt _ _).mp h2)
        refine j_lload13 (pc := 271) hC d_m_rounded_271 ?_
        refine j_aloadn0 (pc := 273) hC d_m_rounded_273 ?_
        refine jg_M_45 (pc := 274) hC d_m_rounded_274 ?_
        refine j_iconst (pc := 277) (v := 1) hC d_m_rounded_277 (by decide) ?_
        refine j_isub (pc := 278) hC d_m_rounded_278 ?_
        refine J.topi (y := nI 23) (by decide) ?_
        refine j_lshl (pc := 279) hC d_m_rounded_279 ?_
        refine J.topl (wb_shl (U - 939 + 1) (k := 23) (by omega)) ?_
        refine j_lload11 (pc := 280) hC d_m_rounded_280 ?_
        refine j_aloadn0 (pc := 282) hC d_m_rounded_282 ?_
        refine j_V0l (pc := 283) (q0 := 0) (ci := 3) hC cw_M_63 (rmD_in (by decide)) (Nat.le_of_ble_eq_true rfl) rfl rfl d_m_rounded_283 (c_m_fraction_f) (fun r w2 h3 => ?_)
        obtain ⟨rfl, rfl⟩ := h3
        refine j_land (pc := 286) hC d_m_rounded_286 ?_
        refine J.topl (wb_mask (by omega) (by omega)) ?_
        have hro := rd_out (p := 23) (e := 255) (U := U - 939) (c := cv) (by omega) (by omega) hc h2 (by decide)
        rw [← hinf] at hro
        refine j_lor (pc := 287) hC d_m_rounded_287 ?_
        refine j_lret hC d_m_rounded_288 ⟨_, rfl, (U - 939) * 2 ^ 23 + cv, hro.1, ?_, hro.2, rfl⟩
        rw [Nat.min_eq_right hro.1] at hk
        exact hk
      · have h2 : ¬ U - 939 + 1 < 255 := fun y => h2 ((lg_cmp_lt _ _).mpr ((pk_lLT (by omega) (by omega)).mpr y))
        have hbig := rd_big (p := 23) (e := 255) (U := U - 939) (c := cv) (by omega) h2 (by omega)
        rw [← hinf] at hbig
        refine j_aloadn0 (pc := 264) hC d_m_rounded_264 ?_
        refine j_V0l (pc := 265) (q0 := 0) (ci := 3) hC cw_M_59 (rmD_in (by decide)) (Nat.le_of_ble_eq_true rfl) rfl rfl d_m_rounded_265 (c_m_infinity_f) (fun r w2 h3 => ?_)
        obtain ⟨rfl, rfl⟩ := h3
        refine j_goto (pc := 268) hC 288 d_m_rounded_268 (by decide) ?_
        refine j_lret hC d_m_rounded_288 ⟨_, rfl, 2139095040, Nat.le_refl _, ?_, rfl, rfl⟩
        rw [Nat.min_eq_left hbig] at hk
        exact hk
    · have h1 : ¬ 2 ^ 23 - 1 < cv := fun y => h1 ((lg_cmp_gt _ _).mpr ((pk_lLT (by omega) (by omega)).mpr y))
      have hUu : U = 939 := by omega
      refine j_lload11 (pc := 232) hC d_m_rounded_232 ?_
      refine j_lret hC d_m_rounded_234 ⟨_, rfl, cv, by omega, ?_, rfl, rfl⟩
      rw [hUu, Nat.sub_self, Nat.zero_mul, Nat.zero_add, Nat.min_eq_right (by omega)] at hk
      exact hk
  have k197 : ∀ (cv U : Nat) (uv : Int32) (o6 : Option Value) (q7 : Int64) (o10 : Int32) (o13 o14 o15 o16 : Option Value), uv.toInt = (U : Int) - 1088 → 939 ≤ U → U < 10000 → cv ≤ 2 ^ (23 + 1) → (U = 939 ∨ 2 ^ 23 ≤ cv) → kR 23 939 2139095040 (xN Dv x) (xM x) (min 2139095040 ((U - 939) * 2 ^ 23 + cv)) → J p l e (rmD 2) s m args below meth c D (va_A (wm g ca td cd (24) (-149) us dc pt ps sp en ep hn hp tp lm dd xd yd) sz) 17 (MQ below (jQ D (wm g ca td cd (24) (-149) us dc pt ps sp en ep hn hp tp lm dd xd yd) sz (jPl fun r w => ∃ s', s' ≤ 2139095040 ∧ kR 23 939 2139095040 (xN Dv x) (xM x) s' ∧ r = lN s' ∧ w = wm g ca td cd (24) (-149) us dc pt ps sp en ep hn hp tp lm dd xd yd)) args s 0 0 (va_A (wm g ca td cd (24) (-149) us dc pt ps sp en ep hn hp tp lm dd xd yd) sz)) 197 [some (.ref (g 10)), some (.long (lN mv)), none, some (.long pw), none, some (.int (if mo then 1 else 0)), o6, some (.long q7), none, some (.int uv), some (.int o10), some (.long (lN cv)), none, o13, o14, o15, o16] [] (wm g ca td cd (24) (-149) us dc pt ps sp en ep hn hp tp lm dd xd yd) := by
    intro cv U uv o6 q7 o10 o13 o14 o15 o16 huv hU1 hU2 hc hcU hk
    have hps : (2 : Nat) ^ (23 + 1) = 2 ^ 23 * 2 := Nat.pow_succ _ _
    refine j_lload11 (pc := 197) hC d_m_rounded_197 ?_
    refine j_ldc2 (pc := 199) (v := 2) hC mk_M_163 d_m_rounded_199 ?_
    refine j_aloadn0 (pc := 202) hC d_m_rounded_202 ?_
    refine j_V0l (pc := 203) (q0 := 0) (ci := 3) hC cw_M_63 (rmD_in (by decide)) (Nat.le_of_ble_eq_true rfl) rfl rfl d_m_rounded_203 (c_m_fraction_f) (fun r w2 h1 => ?_)
    obtain ⟨rfl, rfl⟩ := h1
    refine j_lmul (pc := 206) hC d_m_rounded_206 ?_
    refine j_lconst (pc := 207) (v := 1) hC d_m_rounded_207 (by decide) ?_
    refine j_ladd (pc := 208) hC d_m_rounded_208 ?_
    refine J.topl (y := lN (2 ^ (23 + 1) - 1)) (by decide +kernel) ?_
    refine j_lcmp (pc := 209) hC d_m_rounded_209 ?_
    refine j_if_le (pc := 210) hC 222 d_m_rounded_210 (by decide) (fun h1 => ?_) (fun h1 => ?_)
    · have h1 := (pk_lLE (by omega) (by omega)).mp ((lg_cmp_le _ _).mp h1)
      exact k222 cv U uv o6 _ _ _ o13 o14 o15 o16 huv hU1 (by omega) (by omega) hcU hk
    · have h1 : ¬ cv ≤ 2 ^ (23 + 1) - 1 := fun y => h1 ((lg_cmp_le _ _).mpr ((pk_lLE (by omega) (by omega)).mpr y))
      have hcv : cv = 2 ^ (23 + 1) := by omega
      subst hcv
      refine j_lload11 (pc := 213) hC d_m_rounded_213 ?_
      refine j_iconst (pc := 215) (v := 1) hC d_m_rounded_215 (by decide) ?_
      refine j_lshr (pc := 216) hC d_m_rounded_216 ?_
      refine J.topl shr1_f ?_
      have e1 : (Int32.ofInt 1).toInt = 1 := rfl
      refine j_lstore11 (pc := 217) hC d_m_rounded_217 (by decide) (by first | exact trivial | exact rfl) ?_
      refine j_iinc9 (pc := 219) hC d_m_rounded_219 (by decide) (by first | exact trivial | exact rfl) ?_
      refine k222 (2 ^ 23) (U + 1) _ o6 _ _ _ o13 o14 o15 o16 ?_ (by omega) (by omega) (by omega) (Or.inr (Nat.le_refl _)) ?_
      · rw [tadd (by rw [huv, e1]; omega) (by rw [huv, e1]; omega), huv, e1]
        omega
      · rw [rd_carry hU1]
        exact hk
  refine j_lloadn1 (pc := 0) hC d_m_rounded_0 ?_
  refine j_lconst (pc := 1) (v := 0) hC d_m_rounded_1 (by decide) ?_
  refine j_lcmp (pc := 2) hC d_m_rounded_2 ?_
  refine j_if_ne (pc := 3) hC 8 d_m_rounded_3 (by decide) (fun h1 => ?_) (fun h1 => ?_)
  · have hm0 : 0 < mv := Nat.pos_of_ne_zero (fun y => h1 ((lg_cmp_eq _ _).mpr (by rw [y]; rfl)))
    refine j_bipush (pc := 8) (v := 64) hC d_m_rounded_8 (by decide) ?_
    refine j_lloadn1 (pc := 10) hC d_m_rounded_10 ?_
    refine j_S1i (pc := 11) hC cw_M_190 (rmD_in (by decide)) (Nat.le_of_ble_eq_true rfl) d_m_rounded_11 (c_n_nlz mv hmv) (fun r w2 h2 => ?_)
    obtain ⟨⟨nb, hnb1, hnb2, rfl⟩, rfl⟩ := h2
    have hnb0 : 0 < nb := by
      rcases Nat.eq_zero_or_pos nb with q | q
      · have := hnb2.1
        rw [q, Nat.pow_zero] at this
        omega
      · exact q
    have hlo := hnb2.2 hnb0
    have hhi := hnb2.1
    have hnb62 : nb ≤ 62 := by
      rcases Nat.lt_or_ge 62 nb with y | y
      · have := Nat.pow_le_pow_right (n := 2) (by omega) (show 62 ≤ nb - 1 by omega)
        omega
      · exact y
    have hnb58 : Rv ≠ 0 → 59 ≤ nb := by
      intro y
      rcases Nat.lt_or_ge nb 59 with y2 | y2
      · have := Nat.pow_le_pow_right (n := 2) (by omega) (show nb ≤ 58 by omega)
        have := h58 y
        omega
      · exact y2
    have hDlo : 2 ^ (nb - 1 + T) ≤ Dv := by
      rw [hD, Nat.pow_add]
      exact Nat.le_trans (Nat.mul_le_mul_right _ hlo) (Nat.le_add_right _ _)
    have hDhi : Dv < 2 ^ (nb + T) := by
      rw [hD, Nat.pow_add]
      have := Nat.mul_le_mul_right (2 ^ T) hhi
      rw [Nat.succ_mul] at this
      omega
    refine j_isub (pc := 14) hC d_m_rounded_14 ?_
    refine J.topi (y := nI nb) (by
      rw [show (64 : Int32) = nI 64 from rfl, pk_sub (by omega)]
      congr 1
      omega) ?_
    refine j_istore6 (pc := 15) hC d_m_rounded_15 (by decide) (by first | exact trivial | exact rfl) ?_
    refine j_lloadn3 (pc := 17) hC d_m_rounded_17 ?_
    refine j_iload6 (pc := 18) hC d_m_rounded_18 ?_
    refine j_i2l (pc := 20) hC d_m_rounded_20 ?_
    refine J.to rfl rfl (by rw [nI_l (by omega)]) rfl ?_
    refine j_ladd (pc := 21) hC d_m_rounded_21 ?_
    have htop : (pw + lN nb).toInt = x + T + nb := by
      rw [Int64.toInt_add, hpw, pk_lT (by omega), Int.bmod_eq_of_le (by omega) (by omega)]
    generalize pw + lN nb = top at htop ⊢
    have e5 : (5000 : Int64).toInt = 5000 := rfl
    have e5m : (-5000 : Int64).toInt = -5000 := rfl
    refine j_lstore7 (pc := 22) hC d_m_rounded_22 (by decide) (by first | exact trivial | exact rfl) ?_
    refine j_lload7 (pc := 24) hC d_m_rounded_24 ?_
    refine j_ldc2 (pc := 26) (v := 5000) hC mk_M_193 d_m_rounded_26 ?_
    refine j_lcmp (pc := 29) hC d_m_rounded_29 ?_
    refine j_if_le (pc := 30) hC 38 d_m_rounded_30 (by decide) (fun h2 => ?_) (fun h2 => ?_)
    · have h2 := (lg_cmp_le _ _).mp h2
      rw [Int64.le_iff_toInt_le, e5, htop] at h2
      refine j_lload7 (pc := 38) hC d_m_rounded_38 ?_
      refine j_ldc2 (pc := 40) (v := -5000) hC mk_M_195 d_m_rounded_40 ?_
      refine j_lcmp (pc := 43) hC d_m_rounded_43 ?_
      refine j_if_ge (pc := 44) hC 49 d_m_rounded_44 (by decide) (fun h3 => ?_) (fun h3 => ?_)
      · have h3 := (lg_cmp_ge _ _).mp h3
        rw [Int64.le_iff_toInt_le, e5m, htop] at h3
        have etop : top.toInt32.toInt = x + T + nb := by
          rw [Int64.toInt_toInt32, htop, Int.bmod_eq_of_le (by omega) (by omega)]
        have epw : pw.toInt32.toInt = x + T := by
          rw [Int64.toInt_toInt32, hpw, Int.bmod_eq_of_le (by omega) (by omega)]
        have eb : (24 : Int32).toInt = 24 := rfl
        have el : (-149 : Int32).toInt = -149 := rfl
        have etb : (top.toInt32 - 24).toInt = x + T + nb - 24 := by
          rw [tsub (by rw [etop, eb]; omega) (by rw [etop, eb]; omega), etop, eb]
        have k79 : ∀ uv : Int32, (uv.toInt = x + T + nb - 24 ∧ -149 ≤ uv.toInt ∨ uv.toInt = -149 ∧ x + T + nb - 24 ≤ uv.toInt) → J p l e (rmD 2) s m args below meth c D (va_A (wm g ca td cd (24) (-149) us dc pt ps sp en ep hn hp tp lm dd xd yd) sz) 17 (MQ below (jQ D (wm g ca td cd (24) (-149) us dc pt ps sp en ep hn hp tp lm dd xd yd) sz (jPl fun r w => ∃ s', s' ≤ 2139095040 ∧ kR 23 939 2139095040 (xN Dv x) (xM x) s' ∧ r = lN s' ∧ w = wm g ca td cd (24) (-149) us dc pt ps sp en ep hn hp tp lm dd xd yd)) args s 0 0 (va_A (wm g ca td cd (24) (-149) us dc pt ps sp en ep hn hp tp lm dd xd yd) sz)) 79 [some (.ref (g 10)), some (.long (lN mv)), none, some (.long pw), none, some (.int (if mo then 1 else 0)), some (.int (nI nb)), some (.long top), none, none, none, none, none, none, none, none, none] [.int uv] (wm g ca td cd (24) (-149) us dc pt ps sp en ep hn hp tp lm dd xd yd) := by
          intro uv huv
          obtain ⟨U, hU⟩ : ∃ U : Nat, uv.toInt = (U : Int) - 1088 := ⟨(uv.toInt + 1088).toNat, by omega⟩
          have hUu : 939 ≤ U := by omega
          have hU1 : U < 10000 := by omega
          have edr : (uv - pw.toInt32).toInt = (U : Int) - 1088 - (x + T) := by
            rw [tsub (by rw [hU, epw]; omega) (by rw [hU, epw]; omega), hU, epw]
          refine j_istore9 (pc := 79) hC d_m_rounded_79 (by decide) (by first | exact trivial | exact rfl) ?_
          refine j_iload9 (pc := 81) hC d_m_rounded_81 ?_
          refine j_lloadn3 (pc := 83) hC d_m_rounded_83 ?_
          refine j_l2i (pc := 84) hC d_m_rounded_84 ?_
          refine j_isub (pc := 85) hC d_m_rounded_85 ?_
          generalize hdv : uv - pw.toInt32 = dv at edr ⊢
          refine j_istore10 (pc := 86) hC d_m_rounded_86 (by decide) (by first | exact trivial | exact rfl) ?_
          refine j_iload10 (pc := 88) hC d_m_rounded_88 ?_
          refine j_if_gt (pc := 90) hC 103 d_m_rounded_90 (by decide) (fun h4 => ?_) (fun h4 => ?_)
          · rw [i32lt] at h4
            have h4 : 0 < dv.toInt := h4
            obtain ⟨dr, hdr⟩ : ∃ dr : Nat, dv.toInt = (dr : Int) := ⟨dv.toInt.toNat, by omega⟩
            have hdvn : dv = nI dr := nI_to (by omega) hdr
            subst hdvn
            have hdr0 : 0 < dr := by omega
            have hxU : (U : Int) = ((dr + T : Nat) : Int) + x + 1088 := by omega
            obtain ⟨hdiv, hmod⟩ := hx_div (k := dr) hD hR
            have hTp := Nat.two_pow_pos T
            have hcl : mv / 2 ^ dr < 2 ^ (23 + 1) := by
              rw [Nat.div_lt_iff_lt_mul (Nat.two_pow_pos _), ← Nat.pow_add]
              exact Nat.lt_of_lt_of_le hhi (Nat.pow_le_pow_right (by omega) (by omega))
            have hcU : U = 939 ∨ 2 ^ 23 ≤ mv / 2 ^ dr := by
              rcases huv with ⟨y, -⟩ | ⟨y, -⟩
              · right
                rw [Nat.le_div_iff_mul_le (Nat.two_pow_pos _), ← Nat.pow_add, show 23 + dr = nb - 1 by omega]
                exact hlo
              · left
                omega
            have hround := hx_round (p := 23) (u := 939) (inf := 2139095040) (D := Dv) (U := U) (c := mv / 2 ^ dr) (E := dr + T) (x := x) (by omega) hUu (by omega) hdiv.symm hcl hcU hxU (by omega)
            rw [hmod, show dr + T - 1 = dr - 1 + T by omega, Nat.pow_add] at hround

            refine j_iload10 (pc := 103) hC d_m_rounded_103 ?_
            refine j_iload6 (pc := 105) hC d_m_rounded_105 ?_
            refine j_icmp_le (pc := 107) hC 116 d_m_rounded_107 (by decide) (fun h5 => ?_) (fun h5 => ?_)
            · have h5 := (nI_leI (by omega) (by omega)).mp h5
              have hml := Nat.mod_lt mv (Nat.two_pow_pos dr)
              have hp62 : 2 ^ dr ≤ 2 ^ 62 := Nat.pow_le_pow_right (by omega) (by omega)
              have hpd : 2 ^ (dr - 1) ≤ 2 ^ dr := Nat.pow_le_pow_right (by omega) (by omega)
              have hdm := Nat.div_add_mod mv (2 ^ dr)
              have hdle : mv / 2 ^ dr ≤ mv := Nat.div_le_self _ _
              have e63 : (nI dr ≤ (63 : Int32)) := (nI_leI (b := 63) (by omega) (by omega)).mpr (by omega)
              refine j_iload10 (pc := 116) hC d_m_rounded_116 ?_
              refine j_bipush (pc := 118) (v := 63) hC d_m_rounded_118 (by decide) ?_
              refine j_icmp_le (pc := 120) hC 127 d_m_rounded_120 (by decide) (fun h6 => ?_) (fun h6 => ?_)
              · refine j_lloadn1 (pc := 127) hC d_m_rounded_127 ?_
                refine j_iload10 (pc := 128) hC d_m_rounded_128 ?_
                refine j_lushr (pc := 130) hC d_m_rounded_130 ?_
                refine J.topl (wb_shr (by omega) (by omega)) ?_
                refine j_lstore11 (pc := 131) hC d_m_rounded_131 (by decide) (by first | exact trivial | exact rfl) ?_
                refine j_lloadn1 (pc := 133) hC d_m_rounded_133 ?_
                refine j_iload10 (pc := 134) hC d_m_rounded_134 ?_
                refine j_bipush (pc := 136) (v := 63) hC d_m_rounded_136 (by decide) ?_
                refine j_icmp_le (pc := 138) hC 145 d_m_rounded_138 (by decide) (fun h7 => ?_) (fun h7 => ?_)
                · refine j_lload11 (pc := 145) hC d_m_rounded_145 ?_
                  refine j_iload10 (pc := 147) hC d_m_rounded_147 ?_
                  refine j_lshl (pc := 149) hC d_m_rounded_149 ?_
                  refine J.topl (wb_shl _ (by omega)) ?_
                  refine j_lsub (pc := 150) hC d_m_rounded_150 ?_
                  refine J.topl (y := lN (mv % 2 ^ dr)) (by
                    rw [lN_sub (by rw [Nat.mul_comm]; omega)]
                    congr 1
                    rw [Nat.mul_comm]
                    omega) ?_
                  refine j_lstore13 (pc := 151) hC d_m_rounded_151 (by decide) (by first | exact trivial | exact rfl) ?_
                  refine j_lconst (pc := 153) (v := 1) hC d_m_rounded_153 (by decide) ?_
                  refine j_iload10 (pc := 154) hC d_m_rounded_154 ?_
                  refine j_iconst (pc := 156) (v := 1) hC d_m_rounded_156 (by decide) ?_
                  refine j_isub (pc := 157) hC d_m_rounded_157 ?_
                  refine J.to rfl rfl (S' := [.int (nI (dr - 1)), .long 1]) (by
                    rw [show (1 : Int32) = nI 1 from rfl, pk_sub (by omega)]) rfl ?_
                  refine j_lshl (pc := 158) hC d_m_rounded_158 ?_
                  refine J.topl (y := lN (2 ^ (dr - 1))) (by
                    have h := wb_shl 1 (k := dr - 1) (by omega)
                    rw [Nat.one_mul] at h
                    exact h) ?_
                  -- the three cases of the rest
                  have kup : ∀ (o13 o14 o15 o16 : Option Value), (2 ^ (dr - 1) < mv % 2 ^ dr ∨ (mv % 2 ^ dr = 2 ^ (dr - 1) ∧ (mo = true ∨ mv / 2 ^ dr % 2 = 1))) → J p l e (rmD 2) s m args below meth c D (va_A (wm g ca td cd (24) (-149) us dc pt ps sp en ep hn hp tp lm dd xd yd) sz) 17 (MQ below (jQ D (wm g ca td cd (24) (-149) us dc pt ps sp en ep hn hp tp lm dd xd yd) sz (jPl fun r w => ∃ s', s' ≤ 2139095040 ∧ kR 23 939 2139095040 (xN Dv x) (xM x) s' ∧ r = lN s' ∧ w = wm g ca td cd (24) (-149) us dc pt ps sp en ep hn hp tp lm dd xd yd)) args s 0 0 (va_A (wm g ca td cd (24) (-149) us dc pt ps sp en ep hn hp tp lm dd xd yd) sz)) 191 [some (.ref (g 10)), some (.long (lN mv)), none, some (.long pw), none, some (.int (if mo then 1 else 0)), some (.int (nI nb)), some (.long top), none, some (.int uv), some (.int (nI dr)), some (.long (lN (mv / 2 ^ dr))), none, o13, o14, o15, o16] [] (wm g ca td cd (24) (-149) us dc pt ps sp en ep hn hp tp lm dd xd yd) := by
                    intro o13 o14 o15 o16 hy
                    refine j_lload11 (pc := 191) hC d_m_rounded_191 ?_
                    refine j_lconst (pc := 193) (v := 1) hC d_m_rounded_193 (by decide) ?_
                    refine j_ladd (pc := 194) hC d_m_rounded_194 ?_
                    refine j_lstore11 (pc := 195) hC d_m_rounded_195 (by decide) (by first | exact trivial | exact rfl) ?_
                    refine J.to rfl ?_ rfl rfl (k197 (mv / 2 ^ dr + 1) U uv (some (.int (nI nb))) top (nI dr) o13 o14 o15 o16 hU hUu hU1 (by omega) (by omega) ?_)
                    · rw [lN_1]
                    · rw [if_pos] at hround
                      · rw [← Nat.add_assoc]
                        exact hround
                      · rcases hy with y | ⟨y, y2⟩
                        · left
                          have h := Nat.mul_le_mul_right (2 ^ T) y
                          rw [Nat.succ_mul] at h
                          omega
                        · rw [y]
                          by_cases hR0 : Rv = 0
                          · right
                            refine ⟨by omega, ?_⟩
                            rcases y2 with y3 | y3
                            · exact absurd hR0 (hmo.mp y3)
                            · exact y3
                          · left
                            omega
                  have kno : ∀ (o13 o14 o15 o16 : Option Value), ¬ (2 ^ (dr - 1) < mv % 2 ^ dr ∨ (mv % 2 ^ dr = 2 ^ (dr - 1) ∧ (mo = true ∨ mv / 2 ^ dr % 2 = 1))) → J p l e (rmD 2) s m args below meth c D (va_A (wm g ca td cd (24) (-149) us dc pt ps sp en ep hn hp tp lm dd xd yd) sz) 17 (MQ below (jQ D (wm g ca td cd (24) (-149) us dc pt ps sp en ep hn hp tp lm dd xd yd) sz (jPl fun r w => ∃ s', s' ≤ 2139095040 ∧ kR 23 939 2139095040 (xN Dv x) (xM x) s' ∧ r = lN s' ∧ w = wm g ca td cd (24) (-149) us dc pt ps sp en ep hn hp tp lm dd xd yd)) args s 0 0 (va_A (wm g ca td cd (24) (-149) us dc pt ps sp en ep hn hp tp lm dd xd yd) sz)) 197 [some (.ref (g 10)), some (.long (lN mv)), none, some (.long pw), none, some (.int (if mo then 1 else 0)), some (.int (nI nb)), some (.long top), none, some (.int uv), some (.int (nI dr)), some (.long (lN (mv / 2 ^ dr))), none, o13, o14, o15, o16] [] (wm g ca td cd (24) (-149) us dc pt ps sp en ep hn hp tp lm dd xd yd) := by
                    intro o13 o14 o15 o16 hy
                    refine k197 (mv / 2 ^ dr) U uv _ _ _ o13 o14 o15 o16 hU hUu hU1 (by omega) hcU ?_
                    rw [if_neg] at hround
                    · exact hround
                    · intro y
                      apply hy
                      rcases Nat.lt_trichotomy (mv % 2 ^ dr) (2 ^ (dr - 1)) with q | q | q
                      · have h := Nat.mul_le_mul_right (2 ^ T) q
                        rw [Nat.succ_mul] at h
                        omega
                      · right
                        refine ⟨q, ?_⟩
                        rw [q] at y
                        rcases y with y | y
                        · left
                          exact hmo.mpr (by omega)
                        · exact Or.inr y.2
                      · exact Or.inl q
                  refine j_lstore15 (pc := 159) hC d_m_rounded_159 (by decide) (by first | exact trivial | exact rfl) ?_
                  refine j_lload13 (pc := 161) hC d_m_rounded_161 ?_
                  refine j_lload15 (pc := 163) hC d_m_rounded_163 ?_
                  refine j_lcmp (pc := 165) hC d_m_rounded_165 ?_
                  refine j_if_gt (pc := 166) hC 191 d_m_rounded_166 (by decide) (fun h8 => ?_) (fun h8 => ?_)
                  · have h8 := (pk_lLT (by omega) (by omega)).mp ((lg_cmp_gt _ _).mp h8)
                    exact kup _ _ _ _ (Or.inl h8)
                  · have h8 : ¬ 2 ^ (dr - 1) < mv % 2 ^ dr := fun y => h8 ((lg_cmp_gt _ _).mpr ((pk_lLT (by omega) (by omega)).mpr y))
                    refine j_lload13 (pc := 169) hC d_m_rounded_169 ?_
                    refine j_lload15 (pc := 171) hC d_m_rounded_171 ?_
                    refine j_lcmp (pc := 173) hC d_m_rounded_173 ?_
                    refine j_if_ne (pc := 174) hC 197 d_m_rounded_174 (by decide) (fun h9 => ?_) (fun h9 => ?_)
                    · have h9 : ¬ mv % 2 ^ dr = 2 ^ (dr - 1) := fun y => h9 ((lg_cmp_eq _ _).mpr ((pk_lEQ (by omega) (by omega)).mpr y))
                      exact kno _ _ _ _ (fun y => by
                        rcases y with y | y
                        · exact h8 y
                        · exact h9 y.1)
                    · have h9 := (pk_lEQ (by omega) (by omega)).mp ((lg_cmp_eq _ _).mp h9)
                      cases mo with
                      | true =>
                        refine j_iload5 (pc := 177) hC d_m_rounded_177 ?_
                        refine j_if_ne (pc := 179) hC 191 d_m_rounded_179 (by decide) (fun q => ?_) (fun q => ?_)
                        · exact kup _ _ _ _ (Or.inr ⟨h9, Or.inl rfl⟩)
                        · exact absurd q (by decide)
                      | false =>
                        refine j_iload5 (pc := 177) hC d_m_rounded_177 ?_
                        refine j_if_ne (pc := 179) hC 191 d_m_rounded_179 (by decide) (fun q => ?_) (fun q => ?_)
                        · exact absurd rfl q
                        · refine j_lload11 (pc := 182) hC d_m_rounded_182 ?_
                          refine j_lconst (pc := 184) (v := 1) hC d_m_rounded_184 (by decide) ?_
                          refine j_land (pc := 185) hC d_m_rounded_185 ?_
                          refine J.topl (wb_a1 (by omega)) ?_
                          refine j_lconst (pc := 186) (v := 1) hC d_m_rounded_186 (by decide) ?_
                          refine j_lcmp (pc := 187) hC d_m_rounded_187 ?_
                          refine j_if_ne (pc := 188) hC 197 d_m_rounded_188 (by decide) (fun h10 => ?_) (fun h10 => ?_)
                          · have h10 : ¬ mv / 2 ^ dr % 2 = 1 := fun y => h10 ((lg_cmp_eq _ _).mpr (by rw [y]; rfl))
                            exact kno _ _ _ _ (fun y => by
                              rcases y with y | ⟨y, y2⟩
                              · exact h8 y
                              · rcases y2 with y2 | y2
                                · cases y2
                                · exact h10 y2)
                          · have h10 := (pk_lEQ (b := 1) (by omega) (by omega)).mp ((lg_cmp_eq _ _).mp h10)
                            exact kup _ _ _ _ (Or.inr ⟨h9, Or.inr h10⟩)
                · exact absurd e63 h7
              · exact absurd e63 h6
            · have h5 : ¬ dr ≤ nb := fun y => h5 ((nI_leI (by omega) (by omega)).mpr y)
              have hml : mv < 2 ^ (dr - 1) := Nat.lt_of_lt_of_le hhi (Nat.pow_le_pow_right (by omega) (by omega))
              have hml2 : mv < 2 ^ dr := Nat.lt_of_lt_of_le hhi (Nat.pow_le_pow_right (by omega) (by omega))
              have hUe : U = 939 := by omega
              refine j_lconst (pc := 110) (v := 0) hC d_m_rounded_110 (by decide) ?_
              refine j_lstore11 (pc := 111) hC d_m_rounded_111 (by decide) (by first | exact trivial | exact rfl) ?_
              refine j_goto (pc := 113) hC 197 d_m_rounded_113 (by decide) ?_
              refine k197 0 U uv _ _ _ none none none none hU hUu hU1 (by omega) (Or.inl hUe) ?_
              rw [Nat.div_eq_of_lt hml2, Nat.mod_eq_of_lt hml2, if_neg] at hround
              · exact hround
              · have h := Nat.mul_le_mul_right (2 ^ T) hml
                rw [Nat.succ_mul] at h
                omega
          · rw [i32lt] at h4
            have h4 : ¬ 0 < dv.toInt := h4
            obtain ⟨kr, hkr⟩ : ∃ kr : Nat, dv.toInt = -(kr : Int) := ⟨(-dv.toInt).toNat, by omega⟩
            have hneg : -dv = nI kr := nI_to (by omega) (by
              rw [Int32.toInt_neg, hkr, Int.bmod_eq_of_le (by omega) (by omega)]
              omega)
            have hR0 : Rv = 0 := by
              rcases Nat.eq_zero_or_pos Rv with y | y
              · exact y
              · have := hnb58 (by omega)
                omega
            have hcl : mv * 2 ^ kr ≤ 2 ^ (23 + 1) := by
              refine Nat.le_trans (Nat.mul_le_mul_right _ (Nat.le_of_lt hhi)) ?_
              rw [← Nat.pow_add]
              exact Nat.pow_le_pow_right (by omega) (by omega)
            have hcU : U = 939 ∨ 2 ^ 23 ≤ mv * 2 ^ kr := by
              rcases huv with ⟨y, -⟩ | ⟨y, -⟩
              · right
                refine Nat.le_trans ?_ (Nat.mul_le_mul_right _ hlo)
                rw [← Nat.pow_add]
                exact Nat.pow_le_pow_right (by omega) (by omega)
              · left
                omega
            refine j_lloadn1 (pc := 93) hC d_m_rounded_93 ?_
            refine j_iload10 (pc := 94) hC d_m_rounded_94 ?_
            refine j_ineg (pc := 96) hC d_m_rounded_96 ?_
            refine J.topi hneg ?_
            refine j_lshl (pc := 97) hC d_m_rounded_97 ?_
            refine J.topl (wb_shl mv (k := kr) (by omega)) ?_
            refine j_lstore11 (pc := 98) hC d_m_rounded_98 (by decide) (by first | exact trivial | exact rfl) ?_
            refine j_goto (pc := 100) hC 197 d_m_rounded_100 (by decide) ?_
            refine k197 (mv * 2 ^ kr) U uv _ _ _ none none none none hU hUu hU1 hcl hcU (hx_exact (by omega) ?_)
            rw [kG_c hUu hcl hcU, hD, hR0]
            unfold xM xN
            rw [Nat.add_zero, Nat.mul_assoc, Nat.mul_assoc, Nat.mul_assoc, ← Nat.pow_add, ← Nat.pow_add, ← Nat.pow_add, show kr + (U + (-x - 1088).toNat) = T + (x + 1088).toNat by omega]
        refine j_lload7 (pc := 49) hC d_m_rounded_49 ?_
        refine j_l2i (pc := 51) hC d_m_rounded_51 ?_
        refine j_aloadn0 (pc := 52) hC d_m_rounded_52 ?_
        refine jg_M_45 (pc := 53) hC d_m_rounded_53 ?_
        refine j_isub (pc := 56) hC d_m_rounded_56 ?_
        refine j_aloadn0 (pc := 57) hC d_m_rounded_57 ?_
        refine jg_M_48 (pc := 58) hC d_m_rounded_58 ?_
        refine j_icmp_le (pc := 61) hC 75 d_m_rounded_61 (by decide) (fun h4 => ?_) (fun h4 => ?_)
        · rw [i32le, etb, el] at h4
          refine j_aloadn0 (pc := 75) hC d_m_rounded_75 ?_
          refine jg_M_48 (pc := 76) hC d_m_rounded_76 ?_
          exact k79 _ (Or.inr ⟨el, by rw [el]; exact h4⟩)
        · rw [i32le, etb, el] at h4
          refine j_lload7 (pc := 64) hC d_m_rounded_64 ?_
          refine j_l2i (pc := 66) hC d_m_rounded_66 ?_
          refine j_aloadn0 (pc := 67) hC d_m_rounded_67 ?_
          refine jg_M_45 (pc := 68) hC d_m_rounded_68 ?_
          refine j_isub (pc := 71) hC d_m_rounded_71 ?_
          refine j_goto (pc := 72) hC 79 d_m_rounded_72 (by decide) ?_
          exact k79 _ (Or.inl ⟨etb, by rw [etb]; omega⟩)
      · have h3 : ¬ -5000 ≤ x + T + nb := fun y => h3 ((lg_cmp_ge _ _).mpr (by rw [Int64.le_iff_toInt_le, e5m, htop]; exact y))
        refine j_lconst (pc := 47) (v := 0) hC d_m_rounded_47 (by decide) ?_
        exact j_lret hC d_m_rounded_48 ⟨_, rfl, 0, by omega, hx_zero (by omega) hDhi (by omega), rfl, rfl⟩
    · have h2 : ¬ x + T + nb ≤ 5000 := fun y => h2 ((lg_cmp_le _ _).mpr (by rw [Int64.le_iff_toInt_le, e5, htop]; exact y))
      refine j_aloadn0 (pc := 33) hC d_m_rounded_33 ?_
      refine j_V0l (pc := 34) (q0 := 0) (ci := 3) hC cw_M_59 (rmD_in (by decide)) (Nat.le_of_ble_eq_true rfl) rfl rfl d_m_rounded_34 (c_m_infinity_f) (fun r w2 h3 => ?_)
      obtain ⟨rfl, rfl⟩ := h3
      exact j_lret hC d_m_rounded_37 ⟨_, rfl, 2139095040, Nat.le_refl _, hx_inf (by omega) (Nat.le_of_eq kG_inf_f) hDlo (by omega), rfl, rfl⟩
  · have h1 := (lg_cmp_eq _ _).mp h1
    have hm0 : mv = 0 := (pk_lEQ (b := 0) (by omega) (by omega)).mp h1
    have hR0 : Rv = 0 := by
      rcases Nat.eq_zero_or_pos Rv with y | y
      · exact y
      · have := h58 (by omega)
        omega
    have hD0 : Dv = 0 := by rw [hD, hm0, hR0, Nat.zero_mul]
    refine j_lconst (pc := 6) (v := 0) hC d_m_rounded_6 (by decide) ?_
    refine j_lret hC d_m_rounded_7 ⟨_, rfl, 0, by omega, ?_, rfl, rfl⟩
    rw [hD0]
    exact hx_0 (by omega)
end MX

