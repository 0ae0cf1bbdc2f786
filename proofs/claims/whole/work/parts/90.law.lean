/-! THE LAW: its loop -/
section LL
variable {l : Launch} {D : va_G} {X : jX} {g : Nat → Nat} {ca : Nat → ClassId} {p : Program} {e : Env} {s : State} {m : MethodId} {args : Array Value} {below : List Frame} {meth : Method} {c : Code} {Q : State → Prop} {R : Room}
/-- the world of the law between two calls: both tapes alike, n bytes long -/
def lwW (g : Nat → Nat) (ca : Nat → ClassId) (n : Nat) (tp : Nat → Int32) (w : va_W) : Prop := ∃ (cd bi ls us dc : Int32) (pt : Int64) (mps msp en ep hn hp : Int32) (lm : Nat → Int64) (dd xd yd : Nat → Int32) (ps sp ng fm df dt wg ex hg mo : Int32) (lb wo : Nat → Int32) (ov : Nat → Int64), w = wm g ca (nI n) cd bi ls us dc pt mps msp en ep hn hp tp lm dd xd yd ++ ((wd g ca (nI n) ps sp ng fm df dt wg ex hg mo tp lb wo ++ [outE g ca ov]) ++ [])
set_option maxHeartbeats 4000000 in
theorem law_end (hl : l.stackTraces = false) (hC : jC p s m args meth c b_l_law 8 (some .boolean) "DecimalReaderLaw" D (tyL ca) (fun q => s.heap.size ≤ q) X) (hW : jW s) {b N i : Nat} {xs : Nat → Int32} (hX : va_X b N xs s s.heap) (hbl : b < s.heap.size) (hi : i + 6 ≤ N) (hN : N ≤ 3072) {kc ks : Nat} (hR : 11 ≤ R.frames ∧ 440 ≤ R.locals) (hcs : kc + 1 ≤ R.cells ∧ ks + 6 ≤ R.slots) (n : Nat) (hn : n ≤ 8192) (tp : Nat → Int32) (w : va_W) (hw : lwW g ca n tp w) (o5 o6 o7 : Option Value)
    (k : ∀ (n' : Nat) (tp' : Nat → Int32) (w' : va_W) (o5 o6 : Option Value), n' ≤ 8192 → lwW g ca n' tp' w' → JC p l e R s m args below meth c D (fun q => s.heap.size ≤ q) 8 Q (kc + 1) (ks + 6) 315 [some (.ref b), some (.ref (g 0)), some (.ref (g 10)), some (.ref (g 20)), some (.int (nI i)), o5, o6, o7] [] w') :
    JC p l e R s m args below meth c D (fun q => s.heap.size ≤ q) 8 Q kc ks 172 [some (.ref b), some (.ref (g 0)), some (.ref (g 10)), some (.ref (g 20)), some (.int (nI i)), o5, o6, o7] [] w := by
  obtain ⟨cd, bi, ls, us, dc, pt, mps, msp, en, ep, hn2, hp, lm, dd, xd, yd, ps, sp, ng, fm, df, dt, wg, ex, hg, mo, lb, wo, ov, rfl⟩ := hw
  have hbA : ¬ (fun q => s.heap.size ≤ q) b := fun h => absurd h (Nat.not_le.mpr hbl)
  have e1 : nI i + 1 = nI (i + 1) := nI_1 i
  have hcl : (nI (i + 1)).toNatClampNeg = i + 1 := nI_clamp (by omega)
  refine k_aloadn1 (pc := 172) hC d_l_law_172 ?_
  refine k_aloadn0 (pc := 173) hC d_l_law_173 ?_
  refine k_iload4 (pc := 174) hC d_l_law_174 ?_
  refine k_iconst (pc := 176) (v := 1) hC d_l_law_176 (by decide) ?_
  refine k_iadd (pc := 177) hC d_l_law_177 ?_
  refine JC.topi e1 ?_
  refine k_sld (pc := 178) hC hX hbl hbA (vp_in_nI (by omega) (by omega)) d_l_law_178 ?_
  rw [hcl]
  refine k_aloadn3 (pc := 179) hC d_l_law_179 ?_
  refine k_callH (pc := 180) (As := [.ref (g 0), .int (xs (i + 1)), .ref (g 20)]) hC hW cw_L_44.1 cw_L_44.2.1 cw_L_44.2.2.1 cw_L_44.2.2.2.1 cw_L_44.2.2.2.2.1 cw_L_44.2.2.2.2.2 ⟨rfl, rfl, by show 7 + 1 ≤ R.frames; omega, by show 8 + (4 + 11) + 280 ≤ R.locals; omega⟩ rfl (Nat.le_of_ble_eq_true rfl) d_l_law_180 (jMH.frame _ _ (fun _ h => h) (c_l_end hl n (xs (i + 1)) hn)) hcs (fun r w' h => ?_)
  obtain ⟨u, hu, rfl⟩ := h
  refine k_istore5 (pc := 183) hC d_l_law_183 (by decide) (by first | exact trivial | exact rfl) ?_
  refine k_aloadn2 (pc := 185) hC d_l_law_185 ?_
  refine k_aloadn0 (pc := 186) hC d_l_law_186 ?_
  refine k_iload4 (pc := 187) hC d_l_law_187 ?_
  refine k_iconst (pc := 189) (v := 1) hC d_l_law_189 (by decide) ?_
  refine k_iadd (pc := 190) hC d_l_law_190 ?_
  refine JC.topi e1 ?_
  refine k_sld (pc := 191) hC hX hbl hbA (vp_in_nI (by omega) (by omega)) d_l_law_191 ?_
  rw [hcl]
  rcases hu with ⟨h1, rfl, rfl⟩ | ⟨h1, rfl, rfl⟩
  · refine k_callV (pc := 192) (As := [.int (xs (i + 1))]) (q0 := 0) (ci := 3) hC cw_L_47 ⟨rfl, rfl, by show 1 + 1 ≤ R.frames; omega, by show 8 + (2 + 11) + 40 ≤ R.locals; omega⟩ rfl (Nat.le_of_ble_eq_true rfl) rfl rfl d_l_law_192 hcs (jM.frame [] _ (tyL_M ca) (c_m_end n (xs (i + 1)) hn)) (fun v w' h => ?_)
    obtain ⟨u, ⟨r, rfl, hr⟩, rfl⟩ := h
    rcases hr with ⟨-, rfl, rfl⟩ | ⟨h2, -⟩
    · obtain ⟨j, hj, hjv⟩ : ∃ j : Nat, j ≤ n ∧ xs (i + 1) = nI j := ⟨(xs (i + 1)).toInt.toNat, by omega, nI_to (by omega) (by omega)⟩
      show JC _ _ _ _ _ _ _ _ _ _ _ _ _ _ _ _ 195 _ (.int _ :: []) _
      refine k_istore6 (pc := 195) hC d_l_law_195 (by decide) (by first | exact trivial | exact rfl) ?_
      refine k_aloadn2 (pc := 197) hC d_l_law_197 ?_
      refine k_callV (pc := 198) (As := []) (q0 := 0) (ci := 3) hC cw_L_41 ⟨rfl, rfl, by show 0 + 1 ≤ R.frames; omega, by show 8 + (1 + 11) + 0 ≤ R.locals; omega⟩ rfl (Nat.le_of_ble_eq_true rfl) rfl rfl d_l_law_198 hcs (jM.frame [] _ (tyL_M ca) c_m_thrown) (fun v w' h => ?_)
      obtain ⟨u, ⟨r, rfl, rfl, rfl⟩, rfl⟩ := h
      show JC _ _ _ _ _ _ _ _ _ _ _ _ _ _ _ _ 201 _ (.int 0 :: []) _
      refine k_iload5 (pc := 201) hC d_l_law_201 ?_
      refine k_icmp_eq (pc := 203) hC 208 d_l_law_203 (by decide) (fun q => ?_) (fun q => absurd rfl q)
      refine k_iload5 (pc := 208) hC d_l_law_208 ?_
      refine k_if_ne (pc := 210) hC 225 d_l_law_210 (by decide) (fun q => absurd rfl q) (fun q => ?_)
      refine k_aloadn3 (pc := 213) hC d_l_law_213 ?_
      refine k_iconst (pc := 214) (v := 0) hC d_l_law_214 (by decide) ?_
      refine k_lald (pc := 215) (q0 := 15) (t0 := 0) hC rfl rfl (vp_in_nI (n := 0) (N := 1) (by decide) (by decide)) d_l_law_215 ?_
      refine k_iload6 (pc := 216) hC d_l_law_216 ?_
      refine k_i2l (pc := 218) hC d_l_law_218 ?_
      refine k_lcmp (pc := 219) hC d_l_law_219 ?_
      refine k_if_eq (pc := 220) hC 225 d_l_law_220 (by decide) (fun q => ?_) (fun q => absurd ((lg_cmp_eq _ _).mpr rfl) q)
      refine k_goto (pc := 225) hC 315 d_l_law_225 (by decide) ?_
      rw [hjv]
      exact k j tp _ _ _ (by omega) ⟨_, _, _, _, _, _, _, _, _, _, _, _, _, _, _, _, _, _, _, _, _, _, _, _, _, _, _, _, _, rfl⟩
    · exact absurd h1 h2
  · refine k_callV (pc := 192) (As := [.int (xs (i + 1))]) (q0 := 0) (ci := 3) hC cw_L_47 ⟨rfl, rfl, by show 1 + 1 ≤ R.frames; omega, by show 8 + (2 + 11) + 40 ≤ R.locals; omega⟩ rfl (Nat.le_of_ble_eq_true rfl) rfl rfl d_l_law_192 hcs (jM.frame [] _ (tyL_M ca) (c_m_end n (xs (i + 1)) hn)) (fun v w' h => ?_)
    obtain ⟨u, ⟨r, rfl, hr⟩, rfl⟩ := h
    rcases hr with ⟨h2, -, -⟩ | ⟨-, rfl⟩
    · exact absurd h2 h1
    · show JC _ _ _ _ _ _ _ _ _ _ _ _ _ _ _ _ 195 _ (.int _ :: []) _
      refine k_istore6 (pc := 195) hC d_l_law_195 (by decide) (by first | exact trivial | exact rfl) ?_
      refine k_aloadn2 (pc := 197) hC d_l_law_197 ?_
      refine k_callV (pc := 198) (As := []) (q0 := 0) (ci := 3) hC cw_L_41 ⟨rfl, rfl, by show 0 + 1 ≤ R.frames; omega, by show 8 + (1 + 11) + 0 ≤ R.locals; omega⟩ rfl (Nat.le_of_ble_eq_true rfl) rfl rfl d_l_law_198 hcs (jM.frame [] _ (tyL_M ca) c_m_thrown) (fun v w' h => ?_)
      obtain ⟨u, ⟨r, rfl, rfl, rfl⟩, rfl⟩ := h
      show JC _ _ _ _ _ _ _ _ _ _ _ _ _ _ _ _ 201 _ (.int 1 :: []) _
      refine k_iload5 (pc := 201) hC d_l_law_201 ?_
      refine k_icmp_eq (pc := 203) hC 208 d_l_law_203 (by decide) (fun q => ?_) (fun q => absurd rfl q)
      refine k_iload5 (pc := 208) hC d_l_law_208 ?_
      refine k_if_ne (pc := 210) hC 225 d_l_law_210 (by decide) (fun q => ?_) (fun q => absurd q (by decide))
      refine k_goto (pc := 225) hC 315 d_l_law_225 (by decide) ?_
      exact k n tp _ _ _ hn ⟨_, _, _, _, _, _, _, _, _, _, _, _, _, _, _, _, _, _, _, _, _, _, _, _, _, _, _, _, _, rfl⟩
end LL
