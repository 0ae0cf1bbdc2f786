section MV
variable {l : Launch} {D : va_G} {X : jX} {g : Nat → Nat} {ca : Nat → ClassId} {td cd us dc : Int32} {pt : Int64} {ps sp en ep hn hp : Int32} {tp : Nat → Int32} {lm : Nat → Int64} {dd xd yd : Nat → Int32}
set_option maxHeartbeats 4000000 in
theorem c_m_value_d (n : Nat) (hN : n ≤ 8192) : jM l y_m_value b_m_value 7 (some .long) (rmD 5) D (tyM ca) X [.ref (g 10)] (wm g ca (nI n) cd (53) (-1074) us dc pt ps sp en ep hn hp tp lm dd xd yd) (jPl fun r w => ∃ (a z b : Nat) (mi : Bool) (cd2 ps2 us2 dc2 en2 ep2 hn2 hp2 : Int32) (pt2 : Int64) (lm2 : Nat → Int64) (dd2 xd2 yd2 : Nat → Int32), scB tp n a z b mi ∧ ((isN tp b z ∧ cd2 = 0 ∧ ansR 52 14 9218868437227405312 9221120237041090560 (-9223372036854775808) tp b z mi r) ∨ (¬ isN tp b z ∧ cd2 = 1)) ∧ w = wm g ca (0) (cd2) (53) (-1074) (us2) (dc2) (pt2) (ps2) (nI z) (en2) (ep2) (hn2) (hp2) tp (lm2) (dd2) (xd2) (yd2)) := by
  refine jM.of [some (.ref (g 10)), none, none, none, none, none, none] (by simp [jle, jent, Value.category]) rfl (Nat.le_of_ble_eq_true rfl) ?_
  intro p e s m args below meth c sz hC
  have ez : (0 : Int32).toInt = 0 := rfl
  have e32 : (32 : Int32).toInt = 32 := rfl
  -- behind the sign
  have k170 : ∀ (a z b : Nat) (mi : Bool), scB tp n a z b mi → z ≤ 8192 → b ≤ z → J p l e (rmD 5) s m args below meth c D (va_A (wm g ca (nI n) cd (53) (-1074) us dc pt ps sp en ep hn hp tp lm dd xd yd) sz) 7 (MQ below (jQ D (wm g ca (nI n) cd (53) (-1074) us dc pt ps sp en ep hn hp tp lm dd xd yd) sz (jPl fun r w => ∃ (a z b : Nat) (mi : Bool) (cd2 ps2 us2 dc2 en2 ep2 hn2 hp2 : Int32) (pt2 : Int64) (lm2 : Nat → Int64) (dd2 xd2 yd2 : Nat → Int32), scB tp n a z b mi ∧ ((isN tp b z ∧ cd2 = 0 ∧ ansR 52 14 9218868437227405312 9221120237041090560 (-9223372036854775808) tp b z mi r) ∨ (¬ isN tp b z ∧ cd2 = 1)) ∧ w = wm g ca (0) (cd2) (53) (-1074) (us2) (dc2) (pt2) (ps2) (nI z) (en2) (ep2) (hn2) (hp2) tp (lm2) (dd2) (xd2) (yd2))) args s 0 0 (va_A (wm g ca (nI n) cd (53) (-1074) us dc pt ps sp en ep hn hp tp lm dd xd yd) sz)) 170 [some (.ref (g 10)), some (.int (if mi then 1 else 0)), some (.long (if mi then (-9223372036854775808) else 0)), none, none, none, none] [] (wm g ca (0) (0) (53) (-1074) us dc pt (nI b) (nI z) en ep hn hp tp lm dd xd yd) := by
    intro a z b mi hB hz hb
    have hsg : ∀ v : Int64, (if mi then (-9223372036854775808) else 0) ||| v = if mi then v ||| (-9223372036854775808) else v := by
      intro v
      cases mi
      · exact or0 v
      · exact orc _ _
    refine j_aloadn0 (pc := 170) hC d_m_value_170 ?_
    refine j_ldcS (pc := 171) hC (jC_str hC).1.2.2.2.2.2.2.1 d_m_value_171 ?_
    refine j_V1i (pc := 173) (q0 := 0) (ci := 3) hC cw_M_119 (rmD_in (by decide)) (Nat.le_of_ble_eq_true rfl) rfl rfl d_m_value_173 (c_m_word 0 b z (by omega) hz hb) (fun r w2 h1 => ?_)
    obtain ⟨h1, rfl⟩ := h1
    rcases h1 with ⟨h1, rfl⟩ | ⟨h1, rfl⟩
    · refine j_if_eq (pc := 176) hC 184 d_m_value_176 (by decide) (fun q => ?_) (fun q => ?_)
      · exact absurd q (by decide)
      · refine j_aloadn0 (pc := 179) hC d_m_value_179 ?_
        refine j_V0l (pc := 180) (q0 := 0) (ci := 3) hC cw_M_123 (rmD_in (by decide)) (Nat.le_of_ble_eq_true rfl) rfl rfl d_m_value_180 (c_m_none_d) (fun r w2 h2 => ?_)
        obtain ⟨rfl, rfl⟩ := h2
        exact j_lret hC d_m_value_183 ⟨_, rfl, a, z, b, mi, _, _, _, _, _, _, _, _, _, _, _, _, _, hB, Or.inl ⟨Or.inl h1, rfl, Or.inl ⟨h1, rfl⟩⟩, rfl⟩
    · refine j_if_eq (pc := 176) hC 184 d_m_value_176 (by decide) (fun q => ?_) (fun q => ?_)
      · refine j_aloadn0 (pc := 184) hC d_m_value_184 ?_
        refine j_ldcS (pc := 185) hC (jC_str hC).1.2.2.2.2.2.2.2 d_m_value_185 ?_
        refine j_V1i (pc := 187) (q0 := 0) (ci := 3) hC cw_M_119 (rmD_in (by decide)) (Nat.le_of_ble_eq_true rfl) rfl rfl d_m_value_187 (c_m_word 1 b z (by omega) hz hb) (fun r w2 h2 => ?_)
        obtain ⟨h2, rfl⟩ := h2
        rcases h2 with ⟨h2, rfl⟩ | ⟨h2, rfl⟩
        · refine j_if_eq (pc := 190) hC 200 d_m_value_190 (by decide) (fun q2 => ?_) (fun q2 => ?_)
          · exact absurd q2 (by decide)
          · refine j_lloadn2 (pc := 193) hC d_m_value_193 ?_
            refine j_aloadn0 (pc := 194) hC d_m_value_194 ?_
            refine j_V0l (pc := 195) (q0 := 0) (ci := 3) hC cw_M_59 (rmD_in (by decide)) (Nat.le_of_ble_eq_true rfl) rfl rfl d_m_value_195 (c_m_infinity_d) (fun r w2 h3 => ?_)
            obtain ⟨rfl, rfl⟩ := h3
            refine j_lor (pc := 198) hC d_m_value_198 ?_
            exact j_lret hC d_m_value_199 ⟨_, rfl, a, z, b, mi, _, _, _, _, _, _, _, _, _, _, _, _, _, hB, Or.inl ⟨Or.inr (Or.inl h2), rfl, Or.inr (Or.inl ⟨h1, h2, hsg _⟩)⟩, rfl⟩
        · refine j_if_eq (pc := 190) hC 200 d_m_value_190 (by decide) (fun q2 => ?_) (fun q2 => ?_)
          · have hNo : ∀ hq : ¬ scNum tp b z, ¬ isN tp b z := fun hq y => y.elim h1 (fun y => y.elim h2 hq)
            -- the end
            have k379 : ∀ (L : List (Option Value)) (ps2 us2 dc2 en2 ep2 hn2 hp2 : Int32) (pt2 : Int64) (lm2 : Nat → Int64) (dd2 xd2 yd2 : Nat → Int32), (∃ T, L = some (.ref (g 10)) :: T) → ¬ scNum tp b z → J p l e (rmD 5) s m args below meth c D (va_A (wm g ca (nI n) cd (53) (-1074) us dc pt ps sp en ep hn hp tp lm dd xd yd) sz) 7 (MQ below (jQ D (wm g ca (nI n) cd (53) (-1074) us dc pt ps sp en ep hn hp tp lm dd xd yd) sz (jPl fun r w => ∃ (a z b : Nat) (mi : Bool) (cd2 ps2 us2 dc2 en2 ep2 hn2 hp2 : Int32) (pt2 : Int64) (lm2 : Nat → Int64) (dd2 xd2 yd2 : Nat → Int32), scB tp n a z b mi ∧ ((isN tp b z ∧ cd2 = 0 ∧ ansR 52 14 9218868437227405312 9221120237041090560 (-9223372036854775808) tp b z mi r) ∨ (¬ isN tp b z ∧ cd2 = 1)) ∧ w = wm g ca (0) (cd2) (53) (-1074) (us2) (dc2) (pt2) (ps2) (nI z) (en2) (ep2) (hn2) (hp2) tp (lm2) (dd2) (xd2) (yd2))) args s 0 0 (va_A (wm g ca (nI n) cd (53) (-1074) us dc pt ps sp en ep hn hp tp lm dd xd yd) sz)) 379 L [] (wm g ca (0) (0) (53) (-1074) (us2) (dc2) (pt2) (ps2) (nI z) (en2) (ep2) (hn2) (hp2) tp (lm2) (dd2) (xd2) (yd2)) := by
              intro L ps2 us2 dc2 en2 ep2 hn2 hp2 pt2 lm2 dd2 xd2 yd2 hL hno
              obtain ⟨T, rfl⟩ := hL
              refine j_aloadn0 (pc := 379) hC d_m_value_379 ?_
              refine j_iconst (pc := 380) (v := 1) hC d_m_value_380 (by decide) ?_
              refine jp_M_30 (pc := 381) hC d_m_value_381 ?_
              refine j_lconst (pc := 384) (v := 0) hC d_m_value_384 (by decide) ?_
              exact j_lret hC d_m_value_385 ⟨_, rfl, a, z, b, mi, 1, _, _, _, _, _, _, _, _, _, _, _, _, hB, Or.inr ⟨hNo hno, rfl⟩, rfl⟩
            have k361 : ∀ (hx : Bool) (r : Int64) (q' : Nat) (us2 dc2 en2 ep2 hn2 hp2 : Int32) (pt2 : Int64) (lm2 : Nat → Int64) (dd2 xd2 yd2 : Nat → Int32), q' ≤ z → (¬ scNum tp b z ∧ (r = -1 ∨ q' < z) ∨ (scNum tp b z ∧ q' = z ∧ ∃ s', s' ≤ 9218868437227405312 ∧ r = lN s' ∧ numR 52 14 9218868437227405312 tp b z s')) → J p l e (rmD 5) s m args below meth c D (va_A (wm g ca (nI n) cd (53) (-1074) us dc pt ps sp en ep hn hp tp lm dd xd yd) sz) 7 (MQ below (jQ D (wm g ca (nI n) cd (53) (-1074) us dc pt ps sp en ep hn hp tp lm dd xd yd) sz (jPl fun r w => ∃ (a z b : Nat) (mi : Bool) (cd2 ps2 us2 dc2 en2 ep2 hn2 hp2 : Int32) (pt2 : Int64) (lm2 : Nat → Int64) (dd2 xd2 yd2 : Nat → Int32), scB tp n a z b mi ∧ ((isN tp b z ∧ cd2 = 0 ∧ ansR 52 14 9218868437227405312 9221120237041090560 (-9223372036854775808) tp b z mi r) ∨ (¬ isN tp b z ∧ cd2 = 1)) ∧ w = wm g ca (0) (cd2) (53) (-1074) (us2) (dc2) (pt2) (ps2) (nI z) (en2) (ep2) (hn2) (hp2) tp (lm2) (dd2) (xd2) (yd2))) args s 0 0 (va_A (wm g ca (nI n) cd (53) (-1074) us dc pt ps sp en ep hn hp tp lm dd xd yd) sz)) 361 [some (.ref (g 10)), some (.int (if mi then 1 else 0)), some (.long (if mi then (-9223372036854775808) else 0)), none, some (.int (if hx then 1 else 0)), some (.long r), none] [] (wm g ca (0) (0) (53) (-1074) (us2) (dc2) (pt2) (nI q') (nI z) (en2) (ep2) (hn2) (hp2) tp (lm2) (dd2) (xd2) (yd2)) := by
              intro hx r q' us2 dc2 en2 ep2 hn2 hp2 pt2 lm2 dd2 xd2 yd2 hq' hcase
              refine j_lload5 (pc := 361) hC d_m_value_361 ?_
              refine j_lconst (pc := 363) (v := 0) hC d_m_value_363 (by decide) ?_
              refine j_lcmp (pc := 364) hC d_m_value_364 ?_
              refine j_if_lt (pc := 365) hC 379 d_m_value_365 (by decide) (fun h5 => ?_) (fun h5 => ?_)
              · refine k379 _ _ _ _ _ _ _ _ _ _ _ _ _ ⟨_, rfl⟩ ?_
                rcases hcase with hc | ⟨c1, c2, s', hs1, hs2, hs3⟩
                · exact hc.1
                · have h5 := (lg_cmp_lt _ _).mp h5
                  rw [hs2, show (0 : Int64) = lN 0 from rfl, pk_lLT (by omega) (by omega)] at h5
                  omega
              · refine j_aloadn0 (pc := 368) hC d_m_value_368 ?_
                refine jg_M_94 (pc := 369) hC d_m_value_369 ?_
                refine j_aloadn0 (pc := 372) hC d_m_value_372 ?_
                refine jg_M_97 (pc := 373) hC d_m_value_373 ?_
                refine j_icmp_ge (pc := 376) hC 386 d_m_value_376 (by decide) (fun h6 => ?_) (fun h6 => ?_)
                · rw [nI_leI (by omega) (by omega)] at h6
                  rcases hcase with ⟨hc, hc2⟩ | ⟨c1, c2, s', hs1, hs2, hs3⟩
                  · rcases hc2 with hc2 | hc2
                    · rw [hc2] at h5
                      exact absurd (by decide) h5
                    · omega
                  · refine j_lloadn2 (pc := 386) hC d_m_value_386 ?_
                    refine j_lload5 (pc := 387) hC d_m_value_387 ?_
                    refine j_lor (pc := 389) hC d_m_value_389 ?_
                    exact j_lret hC d_m_value_390 ⟨_, rfl, a, z, b, mi, 0, _, _, _, _, _, _, _, _, _, _, _, _, hB, Or.inl ⟨Or.inr (Or.inr c1), rfl, Or.inr (Or.inr ⟨h1, h2, s', hs1, hs3, by rw [hsg, hs2]⟩)⟩, rfl⟩
                · rw [nI_leI (by omega) (by omega)] at h6
                  refine k379 _ _ _ _ _ _ _ _ _ _ _ _ _ ⟨_, rfl⟩ ?_
                  rcases hcase with hc | ⟨c1, c2, -⟩
                  · exact hc.1
                  · omega
            have k284 : ∀ (hx : Bool) (r : Int64) (ps2 us2 dc2 en2 ep2 hn2 hp2 : Int32) (pt2 : Int64) (lm2 : Nat → Int64) (dd2 xd2 yd2 : Nat → Int32), (hx = true ↔ hxs tp b z) → vR 52 14 9218868437227405312 tp b z hx r ps2 → J p l e (rmD 5) s m args below meth c D (va_A (wm g ca (nI n) cd (53) (-1074) us dc pt ps sp en ep hn hp tp lm dd xd yd) sz) 7 (MQ below (jQ D (wm g ca (nI n) cd (53) (-1074) us dc pt ps sp en ep hn hp tp lm dd xd yd) sz (jPl fun r w => ∃ (a z b : Nat) (mi : Bool) (cd2 ps2 us2 dc2 en2 ep2 hn2 hp2 : Int32) (pt2 : Int64) (lm2 : Nat → Int64) (dd2 xd2 yd2 : Nat → Int32), scB tp n a z b mi ∧ ((isN tp b z ∧ cd2 = 0 ∧ ansR 52 14 9218868437227405312 9221120237041090560 (-9223372036854775808) tp b z mi r) ∨ (¬ isN tp b z ∧ cd2 = 1)) ∧ w = wm g ca (0) (cd2) (53) (-1074) (us2) (dc2) (pt2) (ps2) (nI z) (en2) (ep2) (hn2) (hp2) tp (lm2) (dd2) (xd2) (yd2))) args s 0 0 (va_A (wm g ca (nI n) cd (53) (-1074) us dc pt ps sp en ep hn hp tp lm dd xd yd) sz)) 284 [some (.ref (g 10)), some (.int (if mi then 1 else 0)), some (.long (if mi then (-9223372036854775808) else 0)), none, some (.int (if hx then 1 else 0)), some (.long r), none] [] (wm g ca (0) (0) (53) (-1074) (us2) (dc2) (pt2) (ps2) (nI z) (en2) (ep2) (hn2) (hp2) tp (lm2) (dd2) (xd2) (yd2)) := by
              intro hx r ps2 us2 dc2 en2 ep2 hn2 hp2 pt2 lm2 dd2 xd2 yd2 hh hv
              obtain ⟨q', hq', rfl, hgo⟩ : ∃ q', q' ≤ z ∧ ps2 = nI q' ∧ ∀ q2, (isSf tp q' z ∧ q2 = z ∨ ¬ isSf tp q' z ∧ q2 < z ∨ ¬ scNum tp b z ∧ r = -1) → (¬ scNum tp b z ∧ (r = -1 ∨ q2 < z) ∨ (scNum tp b z ∧ q2 = z ∧ ∃ s', s' ≤ 9218868437227405312 ∧ r = lN s' ∧ numR 52 14 9218868437227405312 tp b z s')) := by
                rcases hv with ⟨c0, n1, n2, c2, c3, me, c5, n3, c6, hQ, hps, s', hs1, hs2, hs3, hs4⟩ | ⟨hno, hr, q', hq', hps⟩
                · have hle := scD_le hb hQ.1
                  have hle2 := scE_le hle.2.2.2.1 hQ.2.2
                  refine ⟨c6, hle2.1, hps, fun q2 hq2 => ?_⟩
                  rcases hq2 with ⟨y1, y2⟩ | ⟨y1, y2⟩ | ⟨y1, y2⟩
                  · have hNn : scN tp b z hx c0 n1 n2 c2 c3 me c5 n3 c6 := ⟨hQ.1, hQ.2.1, hQ.2.2, y1⟩
                    exact Or.inr ⟨⟨hx, c0, n1, n2, c2, c3, me, c5, n3, c6, hNn⟩, y2, s', hs1, hs4, hx, c0, n1, n2, c2, c3, me, c5, n3, c6, hNn, hs2, hs3⟩
                  · exact Or.inl ⟨scNum_sf hQ y1, Or.inr y2⟩
                  · exact Or.inl ⟨y1, Or.inl y2⟩
                · refine ⟨q', hq', hps, fun q2 _ => Or.inl ⟨scNum_no hh hno, Or.inl hr⟩⟩
              have hbad : ¬ isSf tp q' z ∨ isSf tp q' z := by
                by_cases y : isSf tp q' z
                · exact Or.inr y
                · exact Or.inl y
              have hcl : (nI q').toNatClampNeg = q' := nI_clamp (by omega)
              have k351 : q' < z → (tp q' = 102 ∨ tp q' = 70 ∨ tp q' = 100 ∨ tp q' = 68) → J p l e (rmD 5) s m args below meth c D (va_A (wm g ca (nI n) cd (53) (-1074) us dc pt ps sp en ep hn hp tp lm dd xd yd) sz) 7 (MQ below (jQ D (wm g ca (nI n) cd (53) (-1074) us dc pt ps sp en ep hn hp tp lm dd xd yd) sz (jPl fun r w => ∃ (a z b : Nat) (mi : Bool) (cd2 ps2 us2 dc2 en2 ep2 hn2 hp2 : Int32) (pt2 : Int64) (lm2 : Nat → Int64) (dd2 xd2 yd2 : Nat → Int32), scB tp n a z b mi ∧ ((isN tp b z ∧ cd2 = 0 ∧ ansR 52 14 9218868437227405312 9221120237041090560 (-9223372036854775808) tp b z mi r) ∨ (¬ isN tp b z ∧ cd2 = 1)) ∧ w = wm g ca (0) (cd2) (53) (-1074) (us2) (dc2) (pt2) (ps2) (nI z) (en2) (ep2) (hn2) (hp2) tp (lm2) (dd2) (xd2) (yd2))) args s 0 0 (va_A (wm g ca (nI n) cd (53) (-1074) us dc pt ps sp en ep hn hp tp lm dd xd yd) sz)) 351 [some (.ref (g 10)), some (.int (if mi then 1 else 0)), some (.long (if mi then (-9223372036854775808) else 0)), none, some (.int (if hx then 1 else 0)), some (.long r), none] [] (wm g ca (0) (0) (53) (-1074) (us2) (dc2) (pt2) (nI q') (nI z) (en2) (ep2) (hn2) (hp2) tp (lm2) (dd2) (xd2) (yd2)) := by
                intro y1 y2
                refine j_aloadn0 (pc := 351) hC d_m_value_351 ?_
                refine j_dup (pc := 352) hC d_m_value_352 rfl ?_
                refine jg_M_94 (pc := 353) hC d_m_value_353 ?_
                refine j_iconst (pc := 356) (v := 1) hC d_m_value_356 (by decide) ?_
                refine j_iadd (pc := 357) hC d_m_value_357 ?_
                refine jp_M_94 (pc := 358) hC d_m_value_358 ?_
                refine J.to rfl rfl rfl ?_ (k361 hx r (q' + 1) us2 dc2 en2 ep2 hn2 hp2 pt2 lm2 dd2 xd2 yd2 (by omega) (hgo (q' + 1) ?_))
                · rw [nI_1]
                · by_cases y3 : q' + 1 = z
                  · exact Or.inl ⟨isSf_iff.mpr (Or.inr ⟨y3, y2⟩), y3⟩
                  · refine Or.inr (Or.inl ⟨fun y4 => ?_, by omega⟩)
                    rcases isSf_iff.mp y4 with y5 | y5
                    · omega
                    · exact y3 y5.1
              refine j_aloadn0 (pc := 284) hC d_m_value_284 ?_
              refine jg_M_94 (pc := 285) hC d_m_value_285 ?_
              refine j_aloadn0 (pc := 288) hC d_m_value_288 ?_
              refine jg_M_97 (pc := 289) hC d_m_value_289 ?_
              refine j_icmp_ge (pc := 292) hC 361 d_m_value_292 (by decide) (fun h5 => ?_) (fun h5 => ?_)
              · rw [nI_leI (by omega) (by omega)] at h5
                have : q' = z := by omega
                exact k361 hx r q' us2 dc2 en2 ep2 hn2 hp2 pt2 lm2 dd2 xd2 yd2 hq' (hgo q' (Or.inl ⟨isSf_iff.mpr (Or.inl this), this⟩))
              · rw [nI_leI (by omega) (by omega)] at h5
                refine j_aloadn0 (pc := 295) hC d_m_value_295 ?_
                refine jg_M_9 (pc := 296) hC d_m_value_296 ?_
                refine j_aloadn0 (pc := 299) hC d_m_value_299 ?_
                refine jg_M_94 (pc := 300) hC d_m_value_300 ?_
                refine ja_mtape_baload (pc := 303) hC (vp_in_nI (by omega) (by decide)) d_m_value_303 ?_
                refine j_bipush (pc := 304) (v := 102) hC d_m_value_304 (by decide) ?_
                refine j_icmp_eq (pc := 306) hC 351 d_m_value_306 (by decide) (fun h6 => ?_) (fun h6 => ?_)
                · rw [hcl] at h6
                  exact k351 (by omega) (Or.inl h6)
                · rw [hcl] at h6
                  refine j_aloadn0 (pc := 309) hC d_m_value_309 ?_
                  refine jg_M_9 (pc := 310) hC d_m_value_310 ?_
                  refine j_aloadn0 (pc := 313) hC d_m_value_313 ?_
                  refine jg_M_94 (pc := 314) hC d_m_value_314 ?_
                  refine ja_mtape_baload (pc := 317) hC (vp_in_nI (by omega) (by decide)) d_m_value_317 ?_
                  refine j_bipush (pc := 318) (v := 70) hC d_m_value_318 (by decide) ?_
                  refine j_icmp_eq (pc := 320) hC 351 d_m_value_320 (by decide) (fun h7 => ?_) (fun h7 => ?_)
                  · rw [hcl] at h7
                    exact k351 (by omega) (Or.inr (Or.inl h7))
                  · rw [hcl] at h7
                    refine j_aloadn0 (pc := 323) hC d_m_value_323 ?_
                    refine jg_M_9 (pc := 324) hC d_m_value_324 ?_
                    refine j_aloadn0 (pc := 327) hC d_m_value_327 ?_
                    refine jg_M_94 (pc := 328) hC d_m_value_328 ?_
                    refine ja_mtape_baload (pc := 331) hC (vp_in_nI (by omega) (by decide)) d_m_value_331 ?_
                    refine j_bipush (pc := 332) (v := 100) hC d_m_value_332 (by decide) ?_
                    refine j_icmp_eq (pc := 334) hC 351 d_m_value_334 (by decide) (fun h8 => ?_) (fun h8 => ?_)
                    · rw [hcl] at h8
                      exact k351 (by omega) (Or.inr (Or.inr (Or.inl h8)))
                    · rw [hcl] at h8
                      refine j_aloadn0 (pc := 337) hC d_m_value_337 ?_
                      refine jg_M_9 (pc := 338) hC d_m_value_338 ?_
                      refine j_aloadn0 (pc := 341) hC d_m_value_341 ?_
                      refine jg_M_94 (pc := 342) hC d_m_value_342 ?_
                      refine ja_mtape_baload (pc := 345) hC (vp_in_nI (by omega) (by decide)) d_m_value_345 ?_
                      refine j_bipush (pc := 346) (v := 68) hC d_m_value_346 (by decide) ?_
                      refine j_icmp_ne (pc := 348) hC 361 d_m_value_348 (by decide) (fun h9 => ?_) (fun h9 => ?_)
                      · rw [hcl] at h9
                        refine k361 hx r q' us2 dc2 en2 ep2 hn2 hp2 pt2 lm2 dd2 xd2 yd2 hq' (hgo q' (Or.inr (Or.inl ⟨fun y4 => ?_, by omega⟩)))
                        rcases isSf_iff.mp y4 with y5 | ⟨y5, y6 | y6 | y6 | y6⟩
                        · omega
                        · exact h6 y6
                        · exact h7 y6
                        · exact h8 y6
                        · exact h9 y6
                      · rw [hcl] at h9
                        exact k351 (by omega) (Or.inr (Or.inr (Or.inr h9)))
            have k264 : ∀ (hx : Bool), (hx = true ↔ hxs tp b z) → J p l e (rmD 5) s m args below meth c D (va_A (wm g ca (nI n) cd (53) (-1074) us dc pt ps sp en ep hn hp tp lm dd xd yd) sz) 7 (MQ below (jQ D (wm g ca (nI n) cd (53) (-1074) us dc pt ps sp en ep hn hp tp lm dd xd yd) sz (jPl fun r w => ∃ (a z b : Nat) (mi : Bool) (cd2 ps2 us2 dc2 en2 ep2 hn2 hp2 : Int32) (pt2 : Int64) (lm2 : Nat → Int64) (dd2 xd2 yd2 : Nat → Int32), scB tp n a z b mi ∧ ((isN tp b z ∧ cd2 = 0 ∧ ansR 52 14 9218868437227405312 9221120237041090560 (-9223372036854775808) tp b z mi r) ∨ (¬ isN tp b z ∧ cd2 = 1)) ∧ w = wm g ca (0) (cd2) (53) (-1074) (us2) (dc2) (pt2) (ps2) (nI z) (en2) (ep2) (hn2) (hp2) tp (lm2) (dd2) (xd2) (yd2))) args s 0 0 (va_A (wm g ca (nI n) cd (53) (-1074) us dc pt ps sp en ep hn hp tp lm dd xd yd) sz)) 264 [some (.ref (g 10)), some (.int (if mi then 1 else 0)), some (.long (if mi then (-9223372036854775808) else 0)), none, none, none, none] [.int (if hx then 1 else 0)] (wm g ca (0) (0) (53) (-1074) us dc pt (nI b) (nI z) en ep hn hp tp lm dd xd yd) := by
              intro hx hh
              cases hx with
              | true =>
                refine j_istore4 (pc := 264) hC d_m_value_264 (by decide) (by first | exact trivial | exact rfl) ?_
                refine j_iload4 (pc := 266) hC d_m_value_266 ?_
                refine j_if_eq (pc := 268) hC 278 d_m_value_268 (by decide) (fun q3 => ?_) (fun q3 => ?_)
                · exact absurd q3 (by decide)
                · refine j_aloadn0 (pc := 271) hC d_m_value_271 ?_
                  refine j_V0l (pc := 272) (q0 := 0) (ci := 3) hC cw_M_128 (rmD_in (by decide)) (Nat.le_of_ble_eq_true rfl) rfl rfl d_m_value_272 (c_m_hexadecimal_d b z hz hb (hh.mp rfl)) (fun r w2 h5 => ?_)
                  obtain ⟨ps2, hv, rfl⟩ := h5
                  refine j_goto (pc := 275) hC 282 d_m_value_275 (by decide) ?_
                  refine j_lstore5 (pc := 282) hC d_m_value_282 (by decide) (by first | exact trivial | exact rfl) ?_
                  exact k284 true _ _ _ _ _ _ _ _ _ _ _ _ _ hh hv
              | false =>
                refine j_istore4 (pc := 264) hC d_m_value_264 (by decide) (by first | exact trivial | exact rfl) ?_
                refine j_iload4 (pc := 266) hC d_m_value_266 ?_
                refine j_if_eq (pc := 268) hC 278 d_m_value_268 (by decide) (fun q3 => ?_) (fun q3 => ?_)
                · refine j_aloadn0 (pc := 278) hC d_m_value_278 ?_
                  refine j_V0l (pc := 279) (q0 := 0) (ci := 3) hC cw_M_131 (rmD_in (by decide)) (Nat.le_of_ble_eq_true rfl) rfl rfl d_m_value_279 (c_m_decimal_d b z hz hb (fun y => by have := hh.mpr y; cases this)) (fun r w2 h5 => ?_)
                  obtain ⟨ps2, us2, dc2, en2, ep2, hn2, hp2, pt2, lm2, dd2, xd2, yd2, hv, rfl⟩ := h5
                  refine j_lstore5 (pc := 282) hC d_m_value_282 (by decide) (by first | exact trivial | exact rfl) ?_
                  exact k284 false _ _ _ _ _ _ _ _ _ _ _ _ _ hh hv
                · exact absurd rfl q3
            have k263 : ¬ hxs tp b z → J p l e (rmD 5) s m args below meth c D (va_A (wm g ca (nI n) cd (53) (-1074) us dc pt ps sp en ep hn hp tp lm dd xd yd) sz) 7 (MQ below (jQ D (wm g ca (nI n) cd (53) (-1074) us dc pt ps sp en ep hn hp tp lm dd xd yd) sz (jPl fun r w => ∃ (a z b : Nat) (mi : Bool) (cd2 ps2 us2 dc2 en2 ep2 hn2 hp2 : Int32) (pt2 : Int64) (lm2 : Nat → Int64) (dd2 xd2 yd2 : Nat → Int32), scB tp n a z b mi ∧ ((isN tp b z ∧ cd2 = 0 ∧ ansR 52 14 9218868437227405312 9221120237041090560 (-9223372036854775808) tp b z mi r) ∨ (¬ isN tp b z ∧ cd2 = 1)) ∧ w = wm g ca (0) (cd2) (53) (-1074) (us2) (dc2) (pt2) (ps2) (nI z) (en2) (ep2) (hn2) (hp2) tp (lm2) (dd2) (xd2) (yd2))) args s 0 0 (va_A (wm g ca (nI n) cd (53) (-1074) us dc pt ps sp en ep hn hp tp lm dd xd yd) sz)) 263 [some (.ref (g 10)), some (.int (if mi then 1 else 0)), some (.long (if mi then (-9223372036854775808) else 0)), none, none, none, none] [] (wm g ca (0) (0) (53) (-1074) us dc pt (nI b) (nI z) en ep hn hp tp lm dd xd yd) := by
              intro hno
              refine j_iconst (pc := 263) (v := 0) hC d_m_value_263 (by decide) ?_
              exact k264 false ⟨fun y => (by cases y), fun y => absurd y hno⟩
            have k259 : hxs tp b z → J p l e (rmD 5) s m args below meth c D (va_A (wm g ca (nI n) cd (53) (-1074) us dc pt ps sp en ep hn hp tp lm dd xd yd) sz) 7 (MQ below (jQ D (wm g ca (nI n) cd (53) (-1074) us dc pt ps sp en ep hn hp tp lm dd xd yd) sz (jPl fun r w => ∃ (a z b : Nat) (mi : Bool) (cd2 ps2 us2 dc2 en2 ep2 hn2 hp2 : Int32) (pt2 : Int64) (lm2 : Nat → Int64) (dd2 xd2 yd2 : Nat → Int32), scB tp n a z b mi ∧ ((isN tp b z ∧ cd2 = 0 ∧ ansR 52 14 9218868437227405312 9221120237041090560 (-9223372036854775808) tp b z mi r) ∨ (¬ isN tp b z ∧ cd2 = 1)) ∧ w = wm g ca (0) (cd2) (53) (-1074) (us2) (dc2) (pt2) (ps2) (nI z) (en2) (ep2) (hn2) (hp2) tp (lm2) (dd2) (xd2) (yd2))) args s 0 0 (va_A (wm g ca (nI n) cd (53) (-1074) us dc pt ps sp en ep hn hp tp lm dd xd yd) sz)) 259 [some (.ref (g 10)), some (.int (if mi then 1 else 0)), some (.long (if mi then (-9223372036854775808) else 0)), none, none, none, none] [] (wm g ca (0) (0) (53) (-1074) us dc pt (nI b) (nI z) en ep hn hp tp lm dd xd yd) := by
              intro hyes
              refine j_iconst (pc := 259) (v := 1) hC d_m_value_259 (by decide) ?_
              refine j_goto (pc := 260) hC 264 d_m_value_260 (by decide) ?_
              exact k264 true ⟨fun _ => hyes, fun _ => rfl⟩
            have e1 : nI b + 1 = nI (b + 1) := nI_1 b
            have hcl : (nI b).toNatClampNeg = b := nI_clamp (by omega)
            have hcl1 : (nI (b + 1)).toNatClampNeg = b + 1 := nI_clamp (by omega)
            refine j_aloadn0 (pc := 200) hC d_m_value_200 ?_
            refine jg_M_94 (pc := 201) hC d_m_value_201 ?_
            refine j_iconst (pc := 204) (v := 1) hC d_m_value_204 (by decide) ?_
            refine j_iadd (pc := 205) hC d_m_value_205 ?_
            refine j_aloadn0 (pc := 206) hC d_m_value_206 ?_
            refine jg_M_97 (pc := 207) hC d_m_value_207 ?_
            refine j_icmp_ge (pc := 210) hC 263 d_m_value_210 (by decide) (fun h5 => ?_) (fun h5 => ?_)
            · rw [e1, nI_leI (by omega) (by omega)] at h5
              exact k263 (fun y => by have := y.1; omega)
            · rw [e1, nI_leI (by omega) (by omega)] at h5
              refine j_aloadn0 (pc := 213) hC d_m_value_213 ?_
              refine jg_M_9 (pc := 214) hC d_m_value_214 ?_
              refine j_aloadn0 (pc := 217) hC d_m_value_217 ?_
              refine jg_M_94 (pc := 218) hC d_m_value_218 ?_
              refine ja_mtape_baload (pc := 221) hC (vp_in_nI (by omega) (by decide)) d_m_value_221 ?_
              refine j_bipush (pc := 222) (v := 48) hC d_m_value_222 (by decide) ?_
              refine j_icmp_ne (pc := 224) hC 263 d_m_value_224 (by decide) (fun h6 => ?_) (fun h6 => ?_)
              · rw [hcl] at h6
                exact k263 (fun y => h6 y.2.1)
              · rw [hcl] at h6
                refine j_aloadn0 (pc := 227) hC d_m_value_227 ?_
                refine jg_M_9 (pc := 228) hC d_m_value_228 ?_
                refine j_aloadn0 (pc := 231) hC d_m_value_231 ?_
                refine jg_M_94 (pc := 232) hC d_m_value_232 ?_
                refine j_iconst (pc := 235) (v := 1) hC d_m_value_235 (by decide) ?_
                refine j_iadd (pc := 236) hC d_m_value_236 ?_
                refine J.topi e1 ?_
                refine ja_mtape_baload (pc := 237) hC (vp_in_nI (by omega) (by decide)) d_m_value_237 ?_
                refine j_bipush (pc := 238) (v := 120) hC d_m_value_238 (by decide) ?_
                refine j_icmp_eq (pc := 240) hC 259 d_m_value_240 (by decide) (fun h7 => ?_) (fun h7 => ?_)
                · rw [hcl1] at h7
                  exact k259 ⟨by omega, h6, Or.inl h7⟩
                · rw [hcl1] at h7
                  refine j_aloadn0 (pc := 243) hC d_m_value_243 ?_
                  refine jg_M_9 (pc := 244) hC d_m_value_244 ?_
                  refine j_aloadn0 (pc := 247) hC d_m_value_247 ?_
                  refine jg_M_94 (pc := 248) hC d_m_value_248 ?_
                  refine j_iconst (pc := 251) (v := 1) hC d_m_value_251 (by decide) ?_
                  refine j_iadd (pc := 252) hC d_m_value_252 ?_
                  refine J.topi e1 ?_
                  refine ja_mtape_baload (pc := 253) hC (vp_in_nI (by omega) (by decide)) d_m_value_253 ?_
                  refine j_bipush (pc := 254) (v := 88) hC d_m_value_254 (by decide) ?_
                  refine j_icmp_ne (pc := 256) hC 263 d_m_value_256 (by decide) (fun h8 => ?_) (fun h8 => ?_)
                  · rw [hcl1] at h8
                    exact k263 (fun y => y.2.2.elim h7 h8)
                  · rw [hcl1] at h8
                    exact k259 ⟨by omega, h6, Or.inr h8⟩
          · exact absurd rfl q2
      · exact absurd rfl q
  have k152 : ∀ (a z b : Nat) (mi : Bool), scB tp n a z b mi → z ≤ 8192 → b ≤ z → J p l e (rmD 5) s m args below meth c D (va_A (wm g ca (nI n) cd (53) (-1074) us dc pt ps sp en ep hn hp tp lm dd xd yd) sz) 7 (MQ below (jQ D (wm g ca (nI n) cd (53) (-1074) us dc pt ps sp en ep hn hp tp lm dd xd yd) sz (jPl fun r w => ∃ (a z b : Nat) (mi : Bool) (cd2 ps2 us2 dc2 en2 ep2 hn2 hp2 : Int32) (pt2 : Int64) (lm2 : Nat → Int64) (dd2 xd2 yd2 : Nat → Int32), scB tp n a z b mi ∧ ((isN tp b z ∧ cd2 = 0 ∧ ansR 52 14 9218868437227405312 9221120237041090560 (-9223372036854775808) tp b z mi r) ∨ (¬ isN tp b z ∧ cd2 = 1)) ∧ w = wm g ca (0) (cd2) (53) (-1074) (us2) (dc2) (pt2) (ps2) (nI z) (en2) (ep2) (hn2) (hp2) tp (lm2) (dd2) (xd2) (yd2))) args s 0 0 (va_A (wm g ca (nI n) cd (53) (-1074) us dc pt ps sp en ep hn hp tp lm dd xd yd) sz)) 152 [some (.ref (g 10)), some (.int (if mi then 1 else 0)), none, none, none, none, none] [] (wm g ca (0) cd (53) (-1074) us dc pt (nI b) (nI z) en ep hn hp tp lm dd xd yd) := by
    intro a z b mi hB hz hb
    have hk := k170 a z b mi hB hz hb
    cases mi with
    | true =>
      refine j_iloadn1 (pc := 152) hC d_m_value_152 ?_
      refine j_if_eq (pc := 153) hC 163 d_m_value_153 (by decide) (fun q => ?_) (fun q => ?_)
      · exact absurd q (by decide)
      · refine j_aloadn0 (pc := 156) hC d_m_value_156 ?_
        refine j_V0l (pc := 157) (q0 := 0) (ci := 3) hC cw_M_114 (rmD_in (by decide)) (Nat.le_of_ble_eq_true rfl) rfl rfl d_m_value_157 (c_m_sign_d) (fun r w2 h1 => ?_)
        obtain ⟨rfl, rfl⟩ := h1
        refine j_goto (pc := 160) hC 164 d_m_value_160 (by decide) ?_
        refine j_lstoren2 (pc := 164) hC d_m_value_164 (by decide) (by first | exact trivial | exact rfl) ?_
        refine j_aloadn0 (pc := 165) hC d_m_value_165 ?_
        refine j_iconst (pc := 166) (v := 0) hC d_m_value_166 (by decide) ?_
        refine jp_M_30 (pc := 167) hC d_m_value_167 ?_
        exact hk
    | false =>
      refine j_iloadn1 (pc := 152) hC d_m_value_152 ?_
      refine j_if_eq (pc := 153) hC 163 d_m_value_153 (by decide) (fun q => ?_) (fun q => ?_)
      · refine j_lconst (pc := 163) (v := 0) hC d_m_value_163 (by decide) ?_
        refine j_lstoren2 (pc := 164) hC d_m_value_164 (by decide) (by first | exact trivial | exact rfl) ?_
        refine j_aloadn0 (pc := 165) hC d_m_value_165 ?_
        refine j_iconst (pc := 166) (v := 0) hC d_m_value_166 (by decide) ?_
        refine jp_M_30 (pc := 167) hC d_m_value_167 ?_
        exact hk
      · exact absurd rfl q
  have k122 : ∀ (a z : Nat), a = ld tp 0 n → z = tr tp a (n - a) → a ≤ z → z ≤ 8192 → J p l e (rmD 5) s m args below meth c D (va_A (wm g ca (nI n) cd (53) (-1074) us dc pt ps sp en ep hn hp tp lm dd xd yd) sz) 7 (MQ below (jQ D (wm g ca (nI n) cd (53) (-1074) us dc pt ps sp en ep hn hp tp lm dd xd yd) sz (jPl fun r w => ∃ (a z b : Nat) (mi : Bool) (cd2 ps2 us2 dc2 en2 ep2 hn2 hp2 : Int32) (pt2 : Int64) (lm2 : Nat → Int64) (dd2 xd2 yd2 : Nat → Int32), scB tp n a z b mi ∧ ((isN tp b z ∧ cd2 = 0 ∧ ansR 52 14 9218868437227405312 9221120237041090560 (-9223372036854775808) tp b z mi r) ∨ (¬ isN tp b z ∧ cd2 = 1)) ∧ w = wm g ca (0) (cd2) (53) (-1074) (us2) (dc2) (pt2) (ps2) (nI z) (en2) (ep2) (hn2) (hp2) tp (lm2) (dd2) (xd2) (yd2))) args s 0 0 (va_A (wm g ca (nI n) cd (53) (-1074) us dc pt ps sp en ep hn hp tp lm dd xd yd) sz)) 122 [some (.ref (g 10)), none, none, none, none, none, none] [] (wm g ca (0) cd (53) (-1074) us dc pt (nI a) (nI z) en ep hn hp tp lm dd xd yd) := by
    intro a z ha hz haz hz8
    refine j_aloadn0 (pc := 122) hC d_m_value_122 ?_
    refine j_bipush (pc := 123) (v := 45) hC d_m_value_123 (by decide) ?_
    refine j_V1i (pc := 125) (q0 := 0) (ci := 3) hC cw_M_110 (rmD_in (by decide)) (Nat.le_of_ble_eq_true rfl) rfl rfl d_m_value_125 (c_m_is 45 a z hz8 haz) (fun r w2 h1 => ?_)
    obtain ⟨h1, rfl⟩ := h1
    rcases h1 with ⟨h1, rfl⟩ | ⟨h1, rfl⟩
    · have := h1.1
      refine j_istoren1 (pc := 128) hC d_m_value_128 (by decide) (by first | exact trivial | exact rfl) ?_
      refine j_iloadn1 (pc := 129) hC d_m_value_129 ?_
      refine j_if_ne (pc := 130) hC 142 d_m_value_130 (by decide) (fun q => ?_) (fun q => ?_)
      · refine j_aloadn0 (pc := 142) hC d_m_value_142 ?_
        refine j_dup (pc := 143) hC d_m_value_143 rfl ?_
        refine jg_M_94 (pc := 144) hC d_m_value_144 ?_
        refine j_iconst (pc := 147) (v := 1) hC d_m_value_147 (by decide) ?_
        refine j_iadd (pc := 148) hC d_m_value_148 ?_
        refine jp_M_94 (pc := 149) hC d_m_value_149 ?_
        refine J.to rfl rfl rfl ?_ (k152 a z (a + 1) true ⟨ha, hz, ⟨fun _ => h1, fun _ => rfl⟩, Or.inl ⟨Or.inl h1, rfl⟩⟩ hz8 (by omega))
        rw [nI_1]
      · exact absurd q (by decide)
    · refine j_istoren1 (pc := 128) hC d_m_value_128 (by decide) (by first | exact trivial | exact rfl) ?_
      refine j_iloadn1 (pc := 129) hC d_m_value_129 ?_
      refine j_if_ne (pc := 130) hC 142 d_m_value_130 (by decide) (fun q => ?_) (fun q => ?_)
      · exact absurd rfl q
      · refine j_aloadn0 (pc := 133) hC d_m_value_133 ?_
        refine j_bipush (pc := 134) (v := 43) hC d_m_value_134 (by decide) ?_
        refine j_V1i (pc := 136) (q0 := 0) (ci := 3) hC cw_M_110 (rmD_in (by decide)) (Nat.le_of_ble_eq_true rfl) rfl rfl d_m_value_136 (c_m_is 43 a z hz8 haz) (fun r w2 h2 => ?_)
        obtain ⟨h2, rfl⟩ := h2
        rcases h2 with ⟨h2, rfl⟩ | ⟨h2, rfl⟩
        · have := h2.1
          refine j_if_eq (pc := 139) hC 152 d_m_value_139 (by decide) (fun q2 => ?_) (fun q2 => ?_)
          · exact absurd q2 (by decide)
          · refine j_aloadn0 (pc := 142) hC d_m_value_142 ?_
            refine j_dup (pc := 143) hC d_m_value_143 rfl ?_
            refine jg_M_94 (pc := 144) hC d_m_value_144 ?_
            refine j_iconst (pc := 147) (v := 1) hC d_m_value_147 (by decide) ?_
            refine j_iadd (pc := 148) hC d_m_value_148 ?_
            refine jp_M_94 (pc := 149) hC d_m_value_149 ?_
            refine J.to rfl rfl rfl ?_ (k152 a z (a + 1) false ⟨ha, hz, ⟨fun y => (by cases y), fun y => absurd y h1⟩, Or.inl ⟨Or.inr h2, rfl⟩⟩ hz8 (by omega))
            rw [nI_1]
        · refine j_if_eq (pc := 139) hC 152 d_m_value_139 (by decide) (fun q2 => ?_) (fun q2 => ?_)
          · exact k152 a z a false ⟨ha, hz, ⟨fun y => (by cases y), fun y => absurd y h1⟩, Or.inr ⟨fun y => y.elim h1 h2, rfl⟩⟩ hz8 haz
          · exact absurd rfl q2
  have loop2 : ∀ (k : Nat) (a : Nat), a + k ≤ n → a = ld tp 0 n → tr tp a k = tr tp a (n - a) → J p l e (rmD 5) s m args below meth c D (va_A (wm g ca (nI n) cd (53) (-1074) us dc pt ps sp en ep hn hp tp lm dd xd yd) sz) 7 (MQ below (jQ D (wm g ca (nI n) cd (53) (-1074) us dc pt ps sp en ep hn hp tp lm dd xd yd) sz (jPl fun r w => ∃ (a z b : Nat) (mi : Bool) (cd2 ps2 us2 dc2 en2 ep2 hn2 hp2 : Int32) (pt2 : Int64) (lm2 : Nat → Int64) (dd2 xd2 yd2 : Nat → Int32), scB tp n a z b mi ∧ ((isN tp b z ∧ cd2 = 0 ∧ ansR 52 14 9218868437227405312 9221120237041090560 (-9223372036854775808) tp b z mi r) ∨ (¬ isN tp b z ∧ cd2 = 1)) ∧ w = wm g ca (0) (cd2) (53) (-1074) (us2) (dc2) (pt2) (ps2) (nI z) (en2) (ep2) (hn2) (hp2) tp (lm2) (dd2) (xd2) (yd2))) args s 0 0 (va_A (wm g ca (nI n) cd (53) (-1074) us dc pt ps sp en ep hn hp tp lm dd xd yd) sz)) 68 [some (.ref (g 10)), none, none, none, none, none, none] [] (wm g ca (0) cd (53) (-1074) us dc pt (nI a) (nI (a + k)) en ep hn hp tp lm dd xd yd) := by
    intro k
    induction k with
    | zero =>
      intro a hk ha ht
      refine j_aloadn0 (pc := 68) hC d_m_value_68 ?_
      refine jg_M_97 (pc := 69) hC d_m_value_69 ?_
      refine j_aloadn0 (pc := 72) hC d_m_value_72 ?_
      refine jg_M_94 (pc := 73) hC d_m_value_73 ?_
      refine j_icmp_le (pc := 76) hC 122 d_m_value_76 (by decide) (fun h1 => ?_) (fun h1 => ?_)
      · exact k122 a (a + 0) ha (by rw [← ht]; rfl) (by omega) (by omega)
      · rw [nI_leI (by omega) (by omega)] at h1
        omega
    | succ k ih =>
      intro a hk ha ht
      have hout : ¬ (0 ≤ (tp (a + k)).toInt ∧ (tp (a + k)).toInt ≤ 32) → J p l e (rmD 5) s m args below meth c D (va_A (wm g ca (nI n) cd (53) (-1074) us dc pt ps sp en ep hn hp tp lm dd xd yd) sz) 7 (MQ below (jQ D (wm g ca (nI n) cd (53) (-1074) us dc pt ps sp en ep hn hp tp lm dd xd yd) sz (jPl fun r w => ∃ (a z b : Nat) (mi : Bool) (cd2 ps2 us2 dc2 en2 ep2 hn2 hp2 : Int32) (pt2 : Int64) (lm2 : Nat → Int64) (dd2 xd2 yd2 : Nat → Int32), scB tp n a z b mi ∧ ((isN tp b z ∧ cd2 = 0 ∧ ansR 52 14 9218868437227405312 9221120237041090560 (-9223372036854775808) tp b z mi r) ∨ (¬ isN tp b z ∧ cd2 = 1)) ∧ w = wm g ca (0) (cd2) (53) (-1074) (us2) (dc2) (pt2) (ps2) (nI z) (en2) (ep2) (hn2) (hp2) tp (lm2) (dd2) (xd2) (yd2))) args s 0 0 (va_A (wm g ca (nI n) cd (53) (-1074) us dc pt ps sp en ep hn hp tp lm dd xd yd) sz)) 122 [some (.ref (g 10)), none, none, none, none, none, none] [] (wm g ca (0) cd (53) (-1074) us dc pt (nI a) (nI (a + (k + 1))) en ep hn hp tp lm dd xd yd) := by
        intro hb
        refine k122 a (a + (k + 1)) ha ?_ (by omega) (by omega)
        rw [← ht, tr, if_neg hb]
        omega
      have hcl : (nI (a + k)).toNatClampNeg = a + k := nI_clamp (by omega)
      have ep1 : nI (a + (k + 1)) - 1 = nI (a + k) := by rw [show a + (k + 1) = a + k + 1 by omega, nI_pred]
      refine j_aloadn0 (pc := 68) hC d_m_value_68 ?_
      refine jg_M_97 (pc := 69) hC d_m_value_69 ?_
      refine j_aloadn0 (pc := 72) hC d_m_value_72 ?_
      refine jg_M_94 (pc := 73) hC d_m_value_73 ?_
      refine j_icmp_le (pc := 76) hC 122 d_m_value_76 (by decide) (fun h1 => ?_) (fun h1 => ?_)
      · rw [nI_leI (by omega) (by omega)] at h1
        omega
      · refine j_aloadn0 (pc := 79) hC d_m_value_79 ?_
        refine jg_M_9 (pc := 80) hC d_m_value_80 ?_
        refine j_aloadn0 (pc := 83) hC d_m_value_83 ?_
        refine jg_M_97 (pc := 84) hC d_m_value_84 ?_
        refine j_iconst (pc := 87) (v := 1) hC d_m_value_87 (by decide) ?_
        refine j_isub (pc := 88) hC d_m_value_88 ?_
        refine J.topi ep1 ?_
        refine ja_mtape_baload (pc := 89) hC (vp_in_nI (by omega) (by decide)) d_m_value_89 ?_
        refine j_if_lt (pc := 90) hC 122 d_m_value_90 (by decide) (fun h2 => ?_) (fun h2 => ?_)
        · rw [hcl, i32lt, ez] at h2
          exact hout (by omega)
        · rw [hcl, i32lt, ez] at h2
          refine j_aloadn0 (pc := 93) hC d_m_value_93 ?_
          refine jg_M_9 (pc := 94) hC d_m_value_94 ?_
          refine j_aloadn0 (pc := 97) hC d_m_value_97 ?_
          refine jg_M_97 (pc := 98) hC d_m_value_98 ?_
          refine j_iconst (pc := 101) (v := 1) hC d_m_value_101 (by decide) ?_
          refine j_isub (pc := 102) hC d_m_value_102 ?_
          refine J.topi ep1 ?_
          refine ja_mtape_baload (pc := 103) hC (vp_in_nI (by omega) (by decide)) d_m_value_103 ?_
          refine j_bipush (pc := 104) (v := 32) hC d_m_value_104 (by decide) ?_
          refine j_icmp_gt (pc := 106) hC 122 d_m_value_106 (by decide) (fun h3 => ?_) (fun h3 => ?_)
          · rw [hcl, i32lt, e32] at h3
            exact hout (by omega)
          · rw [hcl, i32lt, e32] at h3
            refine j_aloadn0 (pc := 109) hC d_m_value_109 ?_
            refine j_dup (pc := 110) hC d_m_value_110 rfl ?_
            refine jg_M_97 (pc := 111) hC d_m_value_111 ?_
            refine j_iconst (pc := 114) (v := 1) hC d_m_value_114 (by decide) ?_
            refine j_isub (pc := 115) hC d_m_value_115 ?_
            refine jp_M_97 (pc := 116) hC d_m_value_116 ?_
            refine j_goto (pc := 119) hC 68 d_m_value_119 (by decide) ?_
            refine J.to rfl rfl rfl ?_ (ih a (by omega) ha (by rw [← ht, tr, if_pos (by omega)]))
            rw [ep1]
  have loop1 : ∀ (k : Nat) (a : Nat), a + k = n → ld tp 0 n = ld tp a k → J p l e (rmD 5) s m args below meth c D (va_A (wm g ca (nI n) cd (53) (-1074) us dc pt ps sp en ep hn hp tp lm dd xd yd) sz) 7 (MQ below (jQ D (wm g ca (nI n) cd (53) (-1074) us dc pt ps sp en ep hn hp tp lm dd xd yd) sz (jPl fun r w => ∃ (a z b : Nat) (mi : Bool) (cd2 ps2 us2 dc2 en2 ep2 hn2 hp2 : Int32) (pt2 : Int64) (lm2 : Nat → Int64) (dd2 xd2 yd2 : Nat → Int32), scB tp n a z b mi ∧ ((isN tp b z ∧ cd2 = 0 ∧ ansR 52 14 9218868437227405312 9221120237041090560 (-9223372036854775808) tp b z mi r) ∨ (¬ isN tp b z ∧ cd2 = 1)) ∧ w = wm g ca (0) (cd2) (53) (-1074) (us2) (dc2) (pt2) (ps2) (nI z) (en2) (ep2) (hn2) (hp2) tp (lm2) (dd2) (xd2) (yd2))) args s 0 0 (va_A (wm g ca (nI n) cd (53) (-1074) us dc pt ps sp en ep hn hp tp lm dd xd yd) sz)) 18 [some (.ref (g 10)), none, none, none, none, none, none] [] (wm g ca (0) cd (53) (-1074) us dc pt (nI a) (nI n) en ep hn hp tp lm dd xd yd) := by
    intro k
    induction k with
    | zero =>
      intro a hk ha
      refine j_aloadn0 (pc := 18) hC d_m_value_18 ?_
      refine jg_M_94 (pc := 19) hC d_m_value_19 ?_
      refine j_aloadn0 (pc := 22) hC d_m_value_22 ?_
      refine jg_M_97 (pc := 23) hC d_m_value_23 ?_
      refine j_icmp_ge (pc := 26) hC 68 d_m_value_26 (by decide) (fun h1 => ?_) (fun h1 => ?_)
      · refine J.to rfl rfl rfl ?_ (loop2 (n - a) a (by omega) (by rw [ha, ld]) rfl)
        rw [show a + (n - a) = n by omega]
      · rw [nI_leI (by omega) (by omega)] at h1
        omega
    | succ k ih =>
      intro a hk ha
      have hout : ¬ (0 ≤ (tp a).toInt ∧ (tp a).toInt ≤ 32) → J p l e (rmD 5) s m args below meth c D (va_A (wm g ca (nI n) cd (53) (-1074) us dc pt ps sp en ep hn hp tp lm dd xd yd) sz) 7 (MQ below (jQ D (wm g ca (nI n) cd (53) (-1074) us dc pt ps sp en ep hn hp tp lm dd xd yd) sz (jPl fun r w => ∃ (a z b : Nat) (mi : Bool) (cd2 ps2 us2 dc2 en2 ep2 hn2 hp2 : Int32) (pt2 : Int64) (lm2 : Nat → Int64) (dd2 xd2 yd2 : Nat → Int32), scB tp n a z b mi ∧ ((isN tp b z ∧ cd2 = 0 ∧ ansR 52 14 9218868437227405312 9221120237041090560 (-9223372036854775808) tp b z mi r) ∨ (¬ isN tp b z ∧ cd2 = 1)) ∧ w = wm g ca (0) (cd2) (53) (-1074) (us2) (dc2) (pt2) (ps2) (nI z) (en2) (ep2) (hn2) (hp2) tp (lm2) (dd2) (xd2) (yd2))) args s 0 0 (va_A (wm g ca (nI n) cd (53) (-1074) us dc pt ps sp en ep hn hp tp lm dd xd yd) sz)) 68 [some (.ref (g 10)), none, none, none, none, none, none] [] (wm g ca (0) cd (53) (-1074) us dc pt (nI a) (nI n) en ep hn hp tp lm dd xd yd) := by
        intro hb
        refine J.to rfl rfl rfl ?_ (loop2 (n - a) a (by omega) (by rw [ha, ld, if_neg hb]) rfl)
        rw [show a + (n - a) = n by omega]
      have hcl : (nI a).toNatClampNeg = a := nI_clamp (by omega)
      refine j_aloadn0 (pc := 18) hC d_m_value_18 ?_
      refine jg_M_94 (pc := 19) hC d_m_value_19 ?_
      refine j_aloadn0 (pc := 22) hC d_m_value_22 ?_
      refine jg_M_97 (pc := 23) hC d_m_value_23 ?_
      refine j_icmp_ge (pc := 26) hC 68 d_m_value_26 (by decide) (fun h1 => ?_) (fun h1 => ?_)
      · rw [nI_leI (by omega) (by omega)] at h1
        omega
      · refine j_aloadn0 (pc := 29) hC d_m_value_29 ?_
        refine jg_M_9 (pc := 30) hC d_m_value_30 ?_
        refine j_aloadn0 (pc := 33) hC d_m_value_33 ?_
        refine jg_M_94 (pc := 34) hC d_m_value_34 ?_
        refine ja_mtape_baload (pc := 37) hC (vp_in_nI (by omega) (by decide)) d_m_value_37 ?_
        refine j_if_lt (pc := 38) hC 68 d_m_value_38 (by decide) (fun h2 => ?_) (fun h2 => ?_)
        · rw [hcl, i32lt, ez] at h2
          exact hout (by omega)
        · rw [hcl, i32lt, ez] at h2
          refine j_aloadn0 (pc := 41) hC d_m_value_41 ?_
          refine jg_M_9 (pc := 42) hC d_m_value_42 ?_
          refine j_aloadn0 (pc := 45) hC d_m_value_45 ?_
          refine jg_M_94 (pc := 46) hC d_m_value_46 ?_
          refine ja_mtape_baload (pc := 49) hC (vp_in_nI (by omega) (by decide)) d_m_value_49 ?_
          refine j_bipush (pc := 50) (v := 32) hC d_m_value_50 (by decide) ?_
          refine j_icmp_gt (pc := 52) hC 68 d_m_value_52 (by decide) (fun h3 => ?_) (fun h3 => ?_)
          · rw [hcl, i32lt, e32] at h3
            exact hout (by omega)
          · rw [hcl, i32lt, e32] at h3
            refine j_aloadn0 (pc := 55) hC d_m_value_55 ?_
            refine j_dup (pc := 56) hC d_m_value_56 rfl ?_
            refine jg_M_94 (pc := 57) hC d_m_value_57 ?_
            refine j_iconst (pc := 60) (v := 1) hC d_m_value_60 (by decide) ?_
            refine j_iadd (pc := 61) hC d_m_value_61 ?_
            refine jp_M_94 (pc := 62) hC d_m_value_62 ?_
            refine j_goto (pc := 65) hC 18 d_m_value_65 (by decide) ?_
            refine J.to rfl rfl rfl ?_ (ih (a + 1) (by omega) (by rw [ha, ld, if_pos (by omega)]))
            rw [nI_1]
  refine j_aloadn0 (pc := 0) hC d_m_value_0 ?_
  refine j_iconst (pc := 1) (v := 0) hC d_m_value_1 (by decide) ?_
  refine jp_M_94 (pc := 2) hC d_m_value_2 ?_
  refine j_aloadn0 (pc := 5) hC d_m_value_5 ?_
  refine j_aloadn0 (pc := 6) hC d_m_value_6 ?_
  refine jg_M_34 (pc := 7) hC d_m_value_7 ?_
  refine jp_M_97 (pc := 10) hC d_m_value_10 ?_
  refine j_aloadn0 (pc := 13) hC d_m_value_13 ?_
  refine j_iconst (pc := 14) (v := 0) hC d_m_value_14 (by decide) ?_
  refine jp_M_34 (pc := 15) hC d_m_value_15 ?_
  exact loop1 n 0 (by omega) rfl
end MV

