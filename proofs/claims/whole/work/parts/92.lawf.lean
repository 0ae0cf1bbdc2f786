/-! THE LAW: feed -/
section LFE
variable {l : Launch} {D : va_G} {X : jX} {g : Nat → Nat} {ca : Nat → ClassId} {p : Program} {e : Env} {s : State} {m : MethodId} {args : Array Value} {below : List Frame} {meth : Method} {c : Code} {Q : State → Prop} {R : Room}
set_option maxHeartbeats 4000000 in
theorem law_feed (hl : l.stackTraces = false) (hC : jC p s m args meth c b_l_law 8 (some .boolean) "DecimalReaderLaw" D (tyL ca) (fun q => s.heap.size ≤ q) X) (hW : jW s) {b N i : Nat} {xs : Nat → Int32} (hX : va_X b N xs s s.heap) (hbl : b < s.heap.size) (hi : i + 6 ≤ N) (hN : N ≤ 3072) {kc ks : Nat} (hR : 11 ≤ R.frames ∧ 440 ≤ R.locals) (hcs : kc + 1 ≤ R.cells ∧ ks + 6 ≤ R.slots) (n : Nat) (hn : n ≤ 8192) (tp : Nat → Int32) (w : va_W) (hw : lwW g ca n tp w) (o5 o6 o7 : Option Value)
    (k : ∀ (n' : Nat) (tp' : Nat → Int32) (w' : va_W) (o5 o6 : Option Value), n' ≤ 8192 → lwW g ca n' tp' w' → JC p l e R s m args below meth c D (fun q => s.heap.size ≤ q) 8 Q (kc + 1) (ks + 6) 315 [some (.ref b), some (.ref (g 0)), some (.ref (g 10)), some (.ref (g 20)), some (.int (nI i)), o5, o6, o7] [] w') :
    JC p l e R s m args below meth c D (fun q => s.heap.size ≤ q) 8 Q kc ks 68 [some (.ref b), some (.ref (g 0)), some (.ref (g 10)), some (.ref (g 20)), some (.int (nI i)), o5, o6, o7] [] w := by
  obtain ⟨cd, bi, ls, us, dc, pt, mps, msp, en, ep, hn2, hp, lm, dd, xd, yd, ps, sp, ng, fm, df, dt, wg, ex, hg, mo, lb, wo, ov, rfl⟩ := hw
  have hbA : ¬ (fun q => s.heap.size ≤ q) b := fun h => absurd h (Nat.not_le.mpr hbl)
  have e1 : nI i + 1 = nI (i + 1) := nI_add i 1
  have c1 : (nI (i + 1)).toNatClampNeg = i + 1 := nI_clamp (by omega)
  have e2 : nI i + 2 = nI (i + 2) := nI_add i 2
  have c2 : (nI (i + 2)).toNatClampNeg = i + 2 := nI_clamp (by omega)
  have e3 : nI i + 3 = nI (i + 3) := nI_add i 3
  have c3 : (nI (i + 3)).toNatClampNeg = i + 3 := nI_clamp (by omega)
  have e4 : nI i + 4 = nI (i + 4) := nI_add i 4
  have c4 : (nI (i + 4)).toNatClampNeg = i + 4 := nI_clamp (by omega)
  have e5 : nI i + 5 = nI (i + 5) := nI_add i 5
  have c5 : (nI (i + 5)).toNatClampNeg = i + 5 := nI_clamp (by omega)
  refine k_aloadn1 (pc := 68) hC d_l_law_68 ?_
  refine k_aloadn0 (pc := 69) hC d_l_law_69 ?_
  refine k_iload4 (pc := 70) hC d_l_law_70 ?_
  refine k_iconst (pc := 72) (v := 1) hC d_l_law_72 (by decide) ?_
  refine k_iadd (pc := 73) hC d_l_law_73 ?_
  refine JC.topi (e1) ?_
  refine k_sld (pc := 74) hC hX hbl hbA (vp_in_nI (by omega) (by omega)) d_l_law_74 ?_
  rw [c1]
  refine k_aloadn0 (pc := 75) hC d_l_law_75 ?_
  refine k_iload4 (pc := 76) hC d_l_law_76 ?_
  refine k_iconst (pc := 78) (v := 2) hC d_l_law_78 (by decide) ?_
  refine k_iadd (pc := 79) hC d_l_law_79 ?_
  refine JC.topi (e2) ?_
  refine k_sld (pc := 80) hC hX hbl hbA (vp_in_nI (by omega) (by omega)) d_l_law_80 ?_
  rw [c2]
  refine k_aloadn0 (pc := 81) hC d_l_law_81 ?_
  refine k_iload4 (pc := 82) hC d_l_law_82 ?_
  refine k_iconst (pc := 84) (v := 3) hC d_l_law_84 (by decide) ?_
  refine k_iadd (pc := 85) hC d_l_law_85 ?_
  refine JC.topi (e3) ?_
  refine k_sld (pc := 86) hC hX hbl hbA (vp_in_nI (by omega) (by omega)) d_l_law_86 ?_
  rw [c3]
  refine k_aloadn0 (pc := 87) hC d_l_law_87 ?_
  refine k_iload4 (pc := 88) hC d_l_law_88 ?_
  refine k_iconst (pc := 90) (v := 4) hC d_l_law_90 (by decide) ?_
  refine k_iadd (pc := 91) hC d_l_law_91 ?_
  refine JC.topi (e4) ?_
  refine k_sld (pc := 92) hC hX hbl hbA (vp_in_nI (by omega) (by omega)) d_l_law_92 ?_
  rw [c4]
  refine k_aloadn0 (pc := 93) hC d_l_law_93 ?_
  refine k_iload4 (pc := 94) hC d_l_law_94 ?_
  refine k_iconst (pc := 96) (v := 5) hC d_l_law_96 (by decide) ?_
  refine k_iadd (pc := 97) hC d_l_law_97 ?_
  refine JC.topi (e5) ?_
  refine k_sld (pc := 98) hC hX hbl hbA (vp_in_nI (by omega) (by omega)) d_l_law_98 ?_
  rw [c5]
  refine k_aloadn3 (pc := 99) hC d_l_law_99 ?_
  refine k_callH (pc := 100) (As := [.ref (g 0), .int (xs (i + 1)), .int (xs (i + 2)), .int (xs (i + 3)), .int (xs (i + 4)), .int (xs (i + 5)), .ref (g 20)]) hC hW cw_L_35.1 cw_L_35.2.1 cw_L_35.2.2.1 cw_L_35.2.2.2.1 cw_L_35.2.2.2.2.1 cw_L_35.2.2.2.2.2 ⟨rfl, rfl, by show 7 + 1 ≤ R.frames; omega, by show 8 + (8 + 11) + 280 ≤ R.locals; omega⟩ rfl (Nat.le_of_ble_eq_true rfl) d_l_law_100 (jMH.frame _ _ (fun _ h => h) (c_l_feed hl n (xs (i + 1)) (xs (i + 2)) (xs (i + 3)) (xs (i + 4)) (xs (i + 5)) hn)) hcs (fun r w' h => ?_)
  obtain ⟨u, hu, rfl⟩ := h
  refine k_istore5 (pc := 103) hC d_l_law_103 (by decide) (by first | exact trivial | exact rfl) ?_
  refine k_aloadn2 (pc := 105) hC d_l_law_105 ?_
  refine k_aloadn0 (pc := 106) hC d_l_law_106 ?_
  refine k_iload4 (pc := 107) hC d_l_law_107 ?_
  refine k_iconst (pc := 109) (v := 1) hC d_l_law_109 (by decide) ?_
  refine k_iadd (pc := 110) hC d_l_law_110 ?_
  refine JC.topi (e1) ?_
  refine k_sld (pc := 111) hC hX hbl hbA (vp_in_nI (by omega) (by omega)) d_l_law_111 ?_
  rw [c1]
  refine k_aloadn0 (pc := 112) hC d_l_law_112 ?_
  refine k_iload4 (pc := 113) hC d_l_law_113 ?_
  refine k_iconst (pc := 115) (v := 2) hC d_l_law_115 (by decide) ?_
  refine k_iadd (pc := 116) hC d_l_law_116 ?_
  refine JC.topi (e2) ?_
  refine k_sld (pc := 117) hC hX hbl hbA (vp_in_nI (by omega) (by omega)) d_l_law_117 ?_
  rw [c2]
  refine k_aloadn0 (pc := 118) hC d_l_law_118 ?_
  refine k_iload4 (pc := 119) hC d_l_law_119 ?_
  refine k_iconst (pc := 121) (v := 3) hC d_l_law_121 (by decide) ?_
  refine k_iadd (pc := 122) hC d_l_law_122 ?_
  refine JC.topi (e3) ?_
  refine k_sld (pc := 123) hC hX hbl hbA (vp_in_nI (by omega) (by omega)) d_l_law_123 ?_
  rw [c3]
  refine k_aloadn0 (pc := 124) hC d_l_law_124 ?_
  refine k_iload4 (pc := 125) hC d_l_law_125 ?_
  refine k_iconst (pc := 127) (v := 4) hC d_l_law_127 (by decide) ?_
  refine k_iadd (pc := 128) hC d_l_law_128 ?_
  refine JC.topi (e4) ?_
  refine k_sld (pc := 129) hC hX hbl hbA (vp_in_nI (by omega) (by omega)) d_l_law_129 ?_
  rw [c4]
  refine k_aloadn0 (pc := 130) hC d_l_law_130 ?_
  refine k_iload4 (pc := 131) hC d_l_law_131 ?_
  refine k_iconst (pc := 133) (v := 5) hC d_l_law_133 (by decide) ?_
  refine k_iadd (pc := 134) hC d_l_law_134 ?_
  refine JC.topi (e5) ?_
  refine k_sld (pc := 135) hC hX hbl hbA (vp_in_nI (by omega) (by omega)) d_l_law_135 ?_
  rw [c5]
  rcases hu with ⟨h1, rfl, rfl⟩ | ⟨h1, rfl, rfl⟩
  · refine k_callV (pc := 136) (As := [.int (xs (i + 1)), .int (xs (i + 2)), .int (xs (i + 3)), .int (xs (i + 4)), .int (xs (i + 5))]) (q0 := 0) (ci := 3) hC cw_L_40 ⟨rfl, rfl, by show 1 + 1 ≤ R.frames; omega, by show 8 + (6 + 11) + 40 ≤ R.locals; omega⟩ rfl (Nat.le_of_ble_eq_true rfl) rfl rfl d_l_law_136 hcs (jM.frame [] _ (tyL_M ca) (c_m_feed n (xs (i + 1)) (xs (i + 2)) (xs (i + 3)) (xs (i + 4)) (xs (i + 5)) hn)) (fun v w' h => ?_)
    obtain ⟨u, ⟨r, rfl, hr⟩, rfl⟩ := h
    rcases hr with ⟨-, rfl, rfl⟩ | ⟨h2, -⟩
    · skip
      show JC _ _ _ _ _ _ _ _ _ _ _ _ _ _ _ _ 139 _ (.int _ :: []) _
      refine k_istore6 (pc := 139) hC d_l_law_139 (by decide) (by first | exact trivial | exact rfl) ?_
      refine k_aloadn2 (pc := 141) hC d_l_law_141 ?_
      refine k_callV (pc := 142) (As := []) (q0 := 0) (ci := 3) hC cw_L_41 ⟨rfl, rfl, by show 0 + 1 ≤ R.frames; omega, by show 8 + (1 + 11) + 0 ≤ R.locals; omega⟩ rfl (Nat.le_of_ble_eq_true rfl) rfl rfl d_l_law_142 hcs (jM.frame [] _ (tyL_M ca) c_m_thrown) (fun v w' h => ?_)
      obtain ⟨u, ⟨r, rfl, rfl, rfl⟩, rfl⟩ := h
      show JC _ _ _ _ _ _ _ _ _ _ _ _ _ _ _ _ 145 _ (.int 0 :: []) _
      refine k_iload5 (pc := 145) hC d_l_law_145 ?_
      refine k_icmp_eq (pc := 147) hC 152 d_l_law_147 (by decide) (fun q => ?_) (fun q => absurd rfl q)
      refine k_iload5 (pc := 152) hC d_l_law_152 ?_
      refine k_if_ne (pc := 154) hC 169 d_l_law_154 (by decide) (fun q => absurd rfl q) (fun q => ?_)
      refine k_aloadn3 (pc := 157) hC d_l_law_157 ?_
      refine k_iconst (pc := 158) (v := 0) hC d_l_law_158 (by decide) ?_
      refine k_lald (pc := 159) (q0 := 15) (t0 := 0) hC rfl rfl (vp_in_nI (n := 0) (N := 1) (by decide) (by decide)) d_l_law_159 ?_
      refine k_iload6 (pc := 160) hC d_l_law_160 ?_
      refine k_i2l (pc := 162) hC d_l_law_162 ?_
      refine k_lcmp (pc := 163) hC d_l_law_163 ?_
      refine k_if_eq (pc := 164) hC 169 d_l_law_164 (by decide) (fun q => ?_) (fun q => absurd ((lg_cmp_eq _ _).mpr rfl) q)
      refine k_goto (pc := 169) hC 315 d_l_law_169 (by decide) ?_
      exact k (n + 20) _ _ _ _ h1 ⟨_, _, _, _, _, _, _, _, _, _, _, _, _, _, _, _, _, _, _, _, _, _, _, _, _, _, _, _, _, rfl⟩
    · exact absurd h1 h2
  · refine k_callV (pc := 136) (As := [.int (xs (i + 1)), .int (xs (i + 2)), .int (xs (i + 3)), .int (xs (i + 4)), .int (xs (i + 5))]) (q0 := 0) (ci := 3) hC cw_L_40 ⟨rfl, rfl, by show 1 + 1 ≤ R.frames; omega, by show 8 + (6 + 11) + 40 ≤ R.locals; omega⟩ rfl (Nat.le_of_ble_eq_true rfl) rfl rfl d_l_law_136 hcs (jM.frame [] _ (tyL_M ca) (c_m_feed n (xs (i + 1)) (xs (i + 2)) (xs (i + 3)) (xs (i + 4)) (xs (i + 5)) hn)) (fun v w' h => ?_)
    obtain ⟨u, ⟨r, rfl, hr⟩, rfl⟩ := h
    rcases hr with ⟨h2, -, -⟩ | ⟨-, rfl⟩
    · exact absurd h2 h1
    · skip
      show JC _ _ _ _ _ _ _ _ _ _ _ _ _ _ _ _ 139 _ (.int _ :: []) _
      refine k_istore6 (pc := 139) hC d_l_law_139 (by decide) (by first | exact trivial | exact rfl) ?_
      refine k_aloadn2 (pc := 141) hC d_l_law_141 ?_
      refine k_callV (pc := 142) (As := []) (q0 := 0) (ci := 3) hC cw_L_41 ⟨rfl, rfl, by show 0 + 1 ≤ R.frames; omega, by show 8 + (1 + 11) + 0 ≤ R.locals; omega⟩ rfl (Nat.le_of_ble_eq_true rfl) rfl rfl d_l_law_142 hcs (jM.frame [] _ (tyL_M ca) c_m_thrown) (fun v w' h => ?_)
      obtain ⟨u, ⟨r, rfl, rfl, rfl⟩, rfl⟩ := h
      show JC _ _ _ _ _ _ _ _ _ _ _ _ _ _ _ _ 145 _ (.int 1 :: []) _
      refine k_iload5 (pc := 145) hC d_l_law_145 ?_
      refine k_icmp_eq (pc := 147) hC 152 d_l_law_147 (by decide) (fun q => ?_) (fun q => absurd rfl q)
      refine k_iload5 (pc := 152) hC d_l_law_152 ?_
      refine k_if_ne (pc := 154) hC 169 d_l_law_154 (by decide) (fun q => ?_) (fun q => absurd q (by decide))
      refine k_goto (pc := 169) hC 315 d_l_law_169 (by decide) ?_
      exact k n tp _ _ _ hn ⟨_, _, _, _, _, _, _, _, _, _, _, _, _, _, _, _, _, _, _, _, _, _, _, _, _, _, _, _, _, rfl⟩
end LFE
