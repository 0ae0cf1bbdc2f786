/-! THE LAW: parse, parseFloat -/
section LPA
variable {l : Launch} {D : va_G} {X : jX} {g : Nat → Nat} {ca : Nat → ClassId} {p : Program} {e : Env} {s : State} {m : MethodId} {args : Array Value} {below : List Frame} {meth : Method} {c : Code} {Q : State → Prop} {R : Room}
set_option maxHeartbeats 4000000 in
theorem law_parse (hl : l.stackTraces = false) (hC : jC p s m args meth c b_l_law 8 (some .boolean) "DecimalReaderLaw" D (tyL ca) (fun q => s.heap.size ≤ q) X) (hW : jW s) {b i : Nat} {kc ks : Nat} (hR : 11 ≤ R.frames ∧ 440 ≤ R.locals) (hcs : kc + 1 ≤ R.cells ∧ ks + 6 ≤ R.slots) (n : Nat) (hn : n ≤ 8192) (tp : Nat → Int32) (w : va_W) (hw : lwW g ca n tp w) (o5 o6 o7 : Option Value)
    (k : ∀ (n' : Nat) (tp' : Nat → Int32) (w' : va_W) (o5 o6 o7 : Option Value), n' ≤ 8192 → lwW g ca n' tp' w' → JC p l e R s m args below meth c D (fun q => s.heap.size ≤ q) 8 Q (kc + 1) (ks + 6) 315 [some (.ref b), some (.ref (g 0)), some (.ref (g 10)), some (.ref (g 20)), some (.int (nI i)), o5, o6, o7] [] w') :
    JC p l e R s m args below meth c D (fun q => s.heap.size ≤ q) 8 Q kc ks 228 [some (.ref b), some (.ref (g 0)), some (.ref (g 10)), some (.ref (g 20)), some (.int (nI i)), o5, o6, o7] [] w := by
  obtain ⟨cd, bi, ls, us, dc, pt, mps, msp, en, ep, hn2, hp, lm, dd, xd, yd, ps, sp, ng, fm, df, dt, wg, ex, hg, mo, lb, wo, ov, rfl⟩ := hw
  refine k_aloadn1 (pc := 228) hC d_l_law_228 ?_
  refine k_aloadn3 (pc := 229) hC d_l_law_229 ?_
  refine k_callH (pc := 230) (As := [.ref (g 0), .ref (g 20)]) hC hW cw_L_48.1 cw_L_48.2.1 cw_L_48.2.2.1 cw_L_48.2.2.2.1 cw_L_48.2.2.2.2.1 cw_L_48.2.2.2.2.2 ⟨rfl, rfl, by show 9 + 1 ≤ R.frames; omega, by show 8 + (3 + 11) + 360 ≤ R.locals; omega⟩ rfl (Nat.le_of_ble_eq_true rfl) d_l_law_230 (jMH.frame _ _ (fun _ h => h) (c_l_parse hl n hn)) hcs (fun r w' h => ?_)
  obtain ⟨u, hu, rfl⟩ := h
  refine k_istore5 (pc := 233) hC d_l_law_233 (by decide) (by first | exact trivial | exact rfl) ?_
  refine k_aloadn2 (pc := 235) hC d_l_law_235 ?_
  rcases hu with ⟨ra, a1, z1, b1, mi1, ps2, fm2, df2, dt2, wg2, ex2, hg2, mo2, lb2, wo2, hB1, hY1, hA1, rfl, rfl⟩ | ⟨a1, z1, b1, mi1, ps2, fm2, df2, dt2, wg2, ex2, hg2, mo2, lb2, wo2, hB1, hN1, rfl, rfl⟩
  · refine k_callV (pc := 236) (As := []) (q0 := 0) (ci := 3) hC cw_L_51 ⟨rfl, rfl, by show 6 + 1 ≤ R.frames; omega, by show 8 + (1 + 11) + 240 ≤ R.locals; omega⟩ rfl (Nat.le_of_ble_eq_true rfl) rfl rfl d_l_law_236 hcs (jM.frame [] _ (tyL_M ca) (c_m_parse n hn)) (fun v w' h => ?_)
    obtain ⟨u, ⟨rb, rfl, a2, z2, b2, mi2, cd2, ps3, us2, dc2, en2, ep2, hn3, hp2, pt2, lm2, dd2, xd2, yd2, hB2, hR2, rfl⟩, rfl⟩ := h
    obtain ⟨rfl, rfl, rfl, rfl⟩ := scB_fun hB1 hB2
    rcases hR2 with ⟨-, rfl, hA2⟩ | ⟨hN2, -⟩
    · have hr := ansR_fun hA1 hA2
      subst hr
      show JC _ _ _ _ _ _ _ _ _ _ _ _ _ _ _ _ 239 _ (.long _ :: []) _
      refine k_lstore6 (pc := 239) hC d_l_law_239 (by decide) (by first | exact trivial | exact rfl) ?_
      refine k_aloadn2 (pc := 241) hC d_l_law_241 ?_
      refine k_callV (pc := 242) (As := []) (q0 := 0) (ci := 3) hC cw_L_41 ⟨rfl, rfl, by show 0 + 1 ≤ R.frames; omega, by show 8 + (1 + 11) + 0 ≤ R.locals; omega⟩ rfl (Nat.le_of_ble_eq_true rfl) rfl rfl d_l_law_242 hcs (jM.frame [] _ (tyL_M ca) c_m_thrown) (fun v w' h => ?_)
      obtain ⟨u, ⟨r, rfl, rfl, rfl⟩, rfl⟩ := h
      show JC _ _ _ _ _ _ _ _ _ _ _ _ _ _ _ _ 245 _ (.int 0 :: []) _
      refine k_iload5 (pc := 245) hC d_l_law_245 ?_
      refine k_icmp_eq (pc := 247) hC 252 d_l_law_247 (by decide) (fun q => ?_) (fun q => absurd rfl q)
      refine k_iload5 (pc := 252) hC d_l_law_252 ?_
      refine k_if_ne (pc := 254) hC 268 d_l_law_254 (by decide) (fun q => absurd rfl q) (fun q => ?_)
      refine k_aloadn3 (pc := 257) hC d_l_law_257 ?_
      refine k_iconst (pc := 258) (v := 0) hC d_l_law_258 (by decide) ?_
      refine k_lald (pc := 259) (q0 := 15) (t0 := 0) hC rfl rfl (vp_in_nI (n := 0) (N := 1) (by decide) (by decide)) d_l_law_259 ?_
      refine k_lload6 (pc := 260) hC d_l_law_260 ?_
      refine k_lcmp (pc := 262) hC d_l_law_262 ?_
      refine k_if_eq (pc := 263) hC 268 d_l_law_263 (by decide) (fun q => ?_) (fun q => absurd ((lg_cmp_eq _ _).mpr rfl) q)
      refine k_goto (pc := 268) hC 315 d_l_law_268 (by decide) ?_
      exact k 0 tp _ _ _ _ (by omega) ⟨_, _, _, _, _, _, _, _, _, _, _, _, _, _, _, _, _, _, _, _, _, _, _, _, _, _, _, _, _, rfl⟩
    · exact absurd hY1 hN2
  · refine k_callV (pc := 236) (As := []) (q0 := 0) (ci := 3) hC cw_L_51 ⟨rfl, rfl, by show 6 + 1 ≤ R.frames; omega, by show 8 + (1 + 11) + 240 ≤ R.locals; omega⟩ rfl (Nat.le_of_ble_eq_true rfl) rfl rfl d_l_law_236 hcs (jM.frame [] _ (tyL_M ca) (c_m_parse n hn)) (fun v w' h => ?_)
    obtain ⟨u, ⟨rb, rfl, a2, z2, b2, mi2, cd2, ps3, us2, dc2, en2, ep2, hn3, hp2, pt2, lm2, dd2, xd2, yd2, hB2, hR2, rfl⟩, rfl⟩ := h
    obtain ⟨rfl, rfl, rfl, rfl⟩ := scB_fun hB1 hB2
    rcases hR2 with ⟨hY2, -, -⟩ | ⟨-, rfl⟩
    · exact absurd hY2 hN1
    · skip
      show JC _ _ _ _ _ _ _ _ _ _ _ _ _ _ _ _ 239 _ (.long _ :: []) _
      refine k_lstore6 (pc := 239) hC d_l_law_239 (by decide) (by first | exact trivial | exact rfl) ?_
      refine k_aloadn2 (pc := 241) hC d_l_law_241 ?_
      refine k_callV (pc := 242) (As := []) (q0 := 0) (ci := 3) hC cw_L_41 ⟨rfl, rfl, by show 0 + 1 ≤ R.frames; omega, by show 8 + (1 + 11) + 0 ≤ R.locals; omega⟩ rfl (Nat.le_of_ble_eq_true rfl) rfl rfl d_l_law_242 hcs (jM.frame [] _ (tyL_M ca) c_m_thrown) (fun v w' h => ?_)
      obtain ⟨u, ⟨r, rfl, rfl, rfl⟩, rfl⟩ := h
      show JC _ _ _ _ _ _ _ _ _ _ _ _ _ _ _ _ 245 _ (.int 1 :: []) _
      refine k_iload5 (pc := 245) hC d_l_law_245 ?_
      refine k_icmp_eq (pc := 247) hC 252 d_l_law_247 (by decide) (fun q => ?_) (fun q => absurd rfl q)
      refine k_iload5 (pc := 252) hC d_l_law_252 ?_
      refine k_if_ne (pc := 254) hC 268 d_l_law_254 (by decide) (fun q => ?_) (fun q => absurd q (by decide))
      refine k_goto (pc := 268) hC 315 d_l_law_268 (by decide) ?_
      exact k 0 tp _ _ _ _ (by omega) ⟨_, _, _, _, _, _, _, _, _, _, _, _, _, _, _, _, _, _, _, _, _, _, _, _, _, _, _, _, _, rfl⟩
set_option maxHeartbeats 4000000 in
theorem law_parseFloat (hl : l.stackTraces = false) (hC : jC p s m args meth c b_l_law 8 (some .boolean) "DecimalReaderLaw" D (tyL ca) (fun q => s.heap.size ≤ q) X) (hW : jW s) {b i : Nat} {kc ks : Nat} (hR : 11 ≤ R.frames ∧ 440 ≤ R.locals) (hcs : kc + 1 ≤ R.cells ∧ ks + 6 ≤ R.slots) (n : Nat) (hn : n ≤ 8192) (tp : Nat → Int32) (w : va_W) (hw : lwW g ca n tp w) (o5 o6 o7 : Option Value)
    (k : ∀ (n' : Nat) (tp' : Nat → Int32) (w' : va_W) (o5 o6 o7 : Option Value), n' ≤ 8192 → lwW g ca n' tp' w' → JC p l e R s m args below meth c D (fun q => s.heap.size ≤ q) 8 Q (kc + 1) (ks + 6) 315 [some (.ref b), some (.ref (g 0)), some (.ref (g 10)), some (.ref (g 20)), some (.int (nI i)), o5, o6, o7] [] w') :
    JC p l e R s m args below meth c D (fun q => s.heap.size ≤ q) 8 Q kc ks 271 [some (.ref b), some (.ref (g 0)), some (.ref (g 10)), some (.ref (g 20)), some (.int (nI i)), o5, o6, o7] [] w := by
  obtain ⟨cd, bi, ls, us, dc, pt, mps, msp, en, ep, hn2, hp, lm, dd, xd, yd, ps, sp, ng, fm, df, dt, wg, ex, hg, mo, lb, wo, ov, rfl⟩ := hw
  refine k_aloadn1 (pc := 271) hC d_l_law_271 ?_
  refine k_aloadn3 (pc := 272) hC d_l_law_272 ?_
  refine k_callH (pc := 273) (As := [.ref (g 0), .ref (g 20)]) hC hW cw_L_52.1 cw_L_52.2.1 cw_L_52.2.2.1 cw_L_52.2.2.2.1 cw_L_52.2.2.2.2.1 cw_L_52.2.2.2.2.2 ⟨rfl, rfl, by show 9 + 1 ≤ R.frames; omega, by show 8 + (3 + 11) + 360 ≤ R.locals; omega⟩ rfl (Nat.le_of_ble_eq_true rfl) d_l_law_273 (jMH.frame _ _ (fun _ h => h) (c_l_parseFloat hl n hn)) hcs (fun r w' h => ?_)
  obtain ⟨u, hu, rfl⟩ := h
  refine k_istore5 (pc := 276) hC d_l_law_276 (by decide) (by first | exact trivial | exact rfl) ?_
  refine k_aloadn2 (pc := 278) hC d_l_law_278 ?_
  rcases hu with ⟨ra, a1, z1, b1, mi1, ps2, fm2, df2, dt2, wg2, ex2, hg2, mo2, lb2, wo2, hB1, hY1, hA1, rfl, rfl⟩ | ⟨a1, z1, b1, mi1, ps2, fm2, df2, dt2, wg2, ex2, hg2, mo2, lb2, wo2, hB1, hN1, rfl, rfl⟩
  · refine k_callV (pc := 279) (As := []) (q0 := 0) (ci := 3) hC cw_L_54 ⟨rfl, rfl, by show 6 + 1 ≤ R.frames; omega, by show 8 + (1 + 11) + 240 ≤ R.locals; omega⟩ rfl (Nat.le_of_ble_eq_true rfl) rfl rfl d_l_law_279 hcs (jM.frame [] _ (tyL_M ca) (c_m_parseFloat n hn)) (fun v w' h => ?_)
    obtain ⟨u, ⟨_, rfl, rb, rfl, a2, z2, b2, mi2, cd2, ps3, us2, dc2, en2, ep2, hn3, hp2, pt2, lm2, dd2, xd2, yd2, hB2, hR2, rfl⟩, rfl⟩ := h
    obtain ⟨rfl, rfl, rfl, rfl⟩ := scB_fun hB1 hB2
    rcases hR2 with ⟨-, rfl, hA2⟩ | ⟨hN2, -⟩
    · have hr := ansR_fun hA1 hA2
      subst hr
      show JC _ _ _ _ _ _ _ _ _ _ _ _ _ _ _ _ 282 _ (.int _ :: []) _
      refine k_istore6 (pc := 282) hC d_l_law_282 (by decide) (by first | exact trivial | exact rfl) ?_
      refine k_aloadn2 (pc := 284) hC d_l_law_284 ?_
      refine k_callV (pc := 285) (As := []) (q0 := 0) (ci := 3) hC cw_L_41 ⟨rfl, rfl, by show 0 + 1 ≤ R.frames; omega, by show 8 + (1 + 11) + 0 ≤ R.locals; omega⟩ rfl (Nat.le_of_ble_eq_true rfl) rfl rfl d_l_law_285 hcs (jM.frame [] _ (tyL_M ca) c_m_thrown) (fun v w' h => ?_)
      obtain ⟨u, ⟨r, rfl, rfl, rfl⟩, rfl⟩ := h
      show JC _ _ _ _ _ _ _ _ _ _ _ _ _ _ _ _ 288 _ (.int 0 :: []) _
      refine k_iload5 (pc := 288) hC d_l_law_288 ?_
      refine k_icmp_eq (pc := 290) hC 295 d_l_law_290 (by decide) (fun q => ?_) (fun q => absurd rfl q)
      refine k_iload5 (pc := 295) hC d_l_law_295 ?_
      refine k_if_ne (pc := 297) hC 312 d_l_law_297 (by decide) (fun q => absurd rfl q) (fun q => ?_)
      refine k_aloadn3 (pc := 300) hC d_l_law_300 ?_
      refine k_iconst (pc := 301) (v := 0) hC d_l_law_301 (by decide) ?_
      refine k_lald (pc := 302) (q0 := 15) (t0 := 0) hC rfl rfl (vp_in_nI (n := 0) (N := 1) (by decide) (by decide)) d_l_law_302 ?_
      refine k_iload6 (pc := 303) hC d_l_law_303 ?_
      refine k_i2l (pc := 305) hC d_l_law_305 ?_
      refine k_lcmp (pc := 306) hC d_l_law_306 ?_
      refine k_if_eq (pc := 307) hC 312 d_l_law_307 (by decide) (fun q => ?_) (fun q => absurd ((lg_cmp_eq _ _).mpr rfl) q)
      refine k_goto (pc := 312) hC 315 d_l_law_312 (by decide) ?_
      exact k 0 tp _ _ _ _ (by omega) ⟨_, _, _, _, _, _, _, _, _, _, _, _, _, _, _, _, _, _, _, _, _, _, _, _, _, _, _, _, _, rfl⟩
    · exact absurd hY1 hN2
  · refine k_callV (pc := 279) (As := []) (q0 := 0) (ci := 3) hC cw_L_54 ⟨rfl, rfl, by show 6 + 1 ≤ R.frames; omega, by show 8 + (1 + 11) + 240 ≤ R.locals; omega⟩ rfl (Nat.le_of_ble_eq_true rfl) rfl rfl d_l_law_279 hcs (jM.frame [] _ (tyL_M ca) (c_m_parseFloat n hn)) (fun v w' h => ?_)
    obtain ⟨u, ⟨_, rfl, rb, rfl, a2, z2, b2, mi2, cd2, ps3, us2, dc2, en2, ep2, hn3, hp2, pt2, lm2, dd2, xd2, yd2, hB2, hR2, rfl⟩, rfl⟩ := h
    obtain ⟨rfl, rfl, rfl, rfl⟩ := scB_fun hB1 hB2
    rcases hR2 with ⟨hY2, -, -⟩ | ⟨-, rfl⟩
    · exact absurd hY2 hN1
    · skip
      show JC _ _ _ _ _ _ _ _ _ _ _ _ _ _ _ _ 282 _ (.int _ :: []) _
      refine k_istore6 (pc := 282) hC d_l_law_282 (by decide) (by first | exact trivial | exact rfl) ?_
      refine k_aloadn2 (pc := 284) hC d_l_law_284 ?_
      refine k_callV (pc := 285) (As := []) (q0 := 0) (ci := 3) hC cw_L_41 ⟨rfl, rfl, by show 0 + 1 ≤ R.frames; omega, by show 8 + (1 + 11) + 0 ≤ R.locals; omega⟩ rfl (Nat.le_of_ble_eq_true rfl) rfl rfl d_l_law_285 hcs (jM.frame [] _ (tyL_M ca) c_m_thrown) (fun v w' h => ?_)
      obtain ⟨u, ⟨r, rfl, rfl, rfl⟩, rfl⟩ := h
      show JC _ _ _ _ _ _ _ _ _ _ _ _ _ _ _ _ 288 _ (.int 1 :: []) _
      refine k_iload5 (pc := 288) hC d_l_law_288 ?_
      refine k_icmp_eq (pc := 290) hC 295 d_l_law_290 (by decide) (fun q => ?_) (fun q => absurd rfl q)
      refine k_iload5 (pc := 295) hC d_l_law_295 ?_
      refine k_if_ne (pc := 297) hC 312 d_l_law_297 (by decide) (fun q => ?_) (fun q => absurd q (by decide))
      refine k_goto (pc := 312) hC 315 d_l_law_312 (by decide) ?_
      exact k 0 tp _ _ _ _ (by omega) ⟨_, _, _, _, _, _, _, _, _, _, _, _, _, _, _, _, _, _, _, _, _, _, _, _, _, _, _, _, _, rfl⟩
end LPA
