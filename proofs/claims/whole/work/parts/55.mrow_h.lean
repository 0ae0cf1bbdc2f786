section MR
variable {l : Launch} {D : va_G} {X : jX} {g : Nat → Nat} {ca : Nat → ClassId} {td cd bi ls us dc : Int32} {pt : Int64} {ps sp en ep hn hp : Int32} {tp : Nat → Int32} {lm : Nat → Int64} {dd xd yd : Nat → Int32}
set_option maxHeartbeats 4000000 in
theorem c_m_row_h (cc : Nat) (q : Int32) (hcc : cc < 1000000000 * 1000000000) (hq1 : -1075 ≤ q.toInt) (hq2 : q.toInt ≤ 971) : jM l y_m_row b_m_row 9 none (rmD 1) D (tyM ca) X [.ref (g 10), .long (lN cc), .int q, .ref (g 14)] (wm g ca td cd bi ls us dc pt ps sp en ep hn hp tp lm dd xd yd) (jPv fun w => ∃ (us2 : Int32) (lm2 : Nat → Int64) (dn : Nat) (pp : Int) (p2 : Int32) (x2 : Nat → Int32), p2.toInt = pp ∧ rowR cc q.toInt x2 dn pp ∧ w = wm g ca td cd bi ls (us2) dc pt ps sp en ep (nI dn) (p2) tp (lm2) dd xd (x2)) := by
  refine jM.of [some (.ref (g 10)), some (.long (lN cc)), none, some (.int q), some (.ref (g 14)), none, none, none, none] (by simp [jle, jent, Value.category]) rfl (Nat.le_of_ble_eq_true rfl) ?_
  intro p e s m args below meth c sz hC
  -- the zeros behind
  have k276 : ∀ (us2 p2 : Int32) (lm2 : Nat → Int64) (x2 : Nat → Int32) (pp : Int) (k : Nat) (o5 o6 o7 o8 : Option Value), p2.toInt = pp → k ≤ 1300 → (∀ dn, dn ≤ k → (∀ i, dn ≤ i → i < k → x2 i = 0) → rowR cc q.toInt x2 dn pp) → ∀ dn, dn ≤ k → (∀ i, dn ≤ i → i < k → x2 i = 0) → J p l e (rmD 1) s m args below meth c D (va_A (wm g ca td cd bi ls us dc pt ps sp en ep hn hp tp lm dd xd yd) sz) 9 (MQ below (jQ D (wm g ca td cd bi ls us dc pt ps sp en ep hn hp tp lm dd xd yd) sz (jPv fun w => ∃ (us2 : Int32) (lm2 : Nat → Int64) (dn : Nat) (pp : Int) (p2 : Int32) (x2 : Nat → Int32), p2.toInt = pp ∧ rowR cc q.toInt x2 dn pp ∧ w = wm g ca td cd bi ls (us2) dc pt ps sp en ep (nI dn) (p2) tp (lm2) dd xd (x2))) args s 0 0 (va_A (wm g ca td cd bi ls us dc pt ps sp en ep hn hp tp lm dd xd yd) sz)) 276 [some (.ref (g 10)), some (.long (lN cc)), none, some (.int q), some (.ref (g 14)), o5, o6, o7, o8] [] (wm g ca td cd bi ls (us2) dc pt ps sp en ep (nI dn) (p2) tp (lm2) dd xd (x2)) := by
    intro us2 p2 lm2 x2 pp k o5 o6 o7 o8 hpp hk hfin dn
    induction dn with
    | zero =>
      intro hd hz
      refine j_aload4 (pc := 276) hC d_m_row_276 ?_
      refine jg_M_81h (pc := 278) hC d_m_row_278 ?_
      refine j_if_le (pc := 281) hC 314 d_m_row_281 (by decide) (fun h1 => ?_) (fun h1 => ?_)
      · exact j_vret hC d_m_row_314 ⟨rfl, us2, lm2, 0, pp, p2, x2, hpp, hfin 0 hd hz, rfl⟩
      · exact absurd (by decide) h1
    | succ dn ih =>
      intro hd hz
      have hcl : (nI dn).toNatClampNeg = dn := nI_clamp (by omega)
      refine j_aload4 (pc := 276) hC d_m_row_276 ?_
      refine jg_M_81h (pc := 278) hC d_m_row_278 ?_
      refine j_if_le (pc := 281) hC 314 d_m_row_281 (by decide) (fun h1 => ?_) (fun h1 => ?_)
      · exact absurd h1 (nI_nle (by omega) (by omega))
      · refine j_aload4 (pc := 284) hC d_m_row_284 ?_
        refine jg_M_88h (pc := 286) hC d_m_row_286 ?_
        refine j_aload4 (pc := 289) hC d_m_row_289 ?_
        refine jg_M_81h (pc := 291) hC d_m_row_291 ?_
        refine j_iconst (pc := 294) (v := 1) hC d_m_row_294 (by decide) ?_
        refine j_isub (pc := 295) hC d_m_row_295 ?_
        refine J.topi (nI_pred dn) ?_
        refine ja_hd_baload (pc := 296) hC (vp_in_nI (by omega) (by decide)) d_m_row_296 ?_
        refine j_if_ne (pc := 297) hC 314 d_m_row_297 (by decide) (fun h2 => ?_) (fun h2 => ?_)
        · exact j_vret hC d_m_row_314 ⟨rfl, us2, lm2, dn + 1, pp, p2, x2, hpp, hfin (dn + 1) hd hz, rfl⟩
        · rw [hcl] at h2
          refine j_aload4 (pc := 300) hC d_m_row_300 ?_
          refine j_dup (pc := 302) hC d_m_row_302 rfl ?_
          refine jg_M_81h (pc := 303) hC d_m_row_303 ?_
          refine j_iconst (pc := 306) (v := 1) hC d_m_row_306 (by decide) ?_
          refine j_isub (pc := 307) hC d_m_row_307 ?_
          refine jp_M_81h (pc := 308) hC d_m_row_308 ?_
          refine j_goto (pc := 311) hC 276 d_m_row_311 (by decide) ?_
          refine J.to rfl rfl rfl ?_ (ih (by omega) (fun i hi hi2 => ?_))
          · rw [nI_pred]
          · rcases Nat.lt_or_eq_of_le hi with y | y
            · exact hz i (by omega) hi2
            · rw [← y]; exact h2
  have k256 : ∀ (us2 : Int32) (lm2 : Nat → Int64) (x2 : Nat → Int32) (n k : Nat) (f : Nat → Nat) (o5 o6 o7 o8 : Option Value), (∀ i, i < n → f i < 1000000000) → le 1000000000 f n = cc * 2 ^ q.toInt.toNat * 5 ^ (-q.toInt).toNat → 9 * n ≤ 1300 → rS (dig9 fun i => f (n - 1 - i)) (9 * n) k x2 → J p l e (rmD 1) s m args below meth c D (va_A (wm g ca td cd bi ls us dc pt ps sp en ep hn hp tp lm dd xd yd) sz) 9 (MQ below (jQ D (wm g ca td cd bi ls us dc pt ps sp en ep hn hp tp lm dd xd yd) sz (jPv fun w => ∃ (us2 : Int32) (lm2 : Nat → Int64) (dn : Nat) (pp : Int) (p2 : Int32) (x2 : Nat → Int32), p2.toInt = pp ∧ rowR cc q.toInt x2 dn pp ∧ w = wm g ca td cd bi ls (us2) dc pt ps sp en ep (nI dn) (p2) tp (lm2) dd xd (x2))) args s 0 0 (va_A (wm g ca td cd bi ls us dc pt ps sp en ep hn hp tp lm dd xd yd) sz)) 256 [some (.ref (g 10)), some (.long (lN cc)), none, some (.int q), some (.ref (g 14)), o5, o6, o7, o8] [] (wm g ca td cd bi ls (us2) dc pt ps sp en ep (nI k) hp tp (lm2) dd xd (x2)) := by
    intro us2 lm2 x2 n k f o5 o6 o7 o8 hb hV hN hS
    have hk : k ≤ 1300 := by
      obtain ⟨z, y, -⟩ := hS
      omega
    have ek : (nI k).toInt = (k : Int) := nI_toInt (by omega)
    refine j_aload4 (pc := 256) hC d_m_row_256 ?_
    refine j_aload4 (pc := 258) hC d_m_row_258 ?_
    refine jg_M_81h (pc := 260) hC d_m_row_260 ?_
    refine j_iloadn3 (pc := 263) hC d_m_row_263 ?_
    refine j_if_ge (pc := 264) hC 271 d_m_row_264 (by decide) (fun h1 => ?_) (fun h1 => ?_)
    · have h1 : ¬ q.toInt < 0 := by
        rw [i32le] at h1
        have e0 : (0 : Int32).toInt = 0 := rfl
        omega
      refine j_iconst (pc := 271) (v := 0) hC d_m_row_271 (by decide) ?_
      refine j_iadd (pc := 272) hC d_m_row_272 ?_
      refine jp_M_91h (pc := 273) hC d_m_row_273 ?_
      refine k276 us2 _ lm2 x2 ((k : Int) + (if q.toInt < 0 then q.toInt else 0)) k o5 o6 o7 o8 ?_ hk (fun dn hd hz => rowR_of hb hV hN hS hq1 hd hz) k (Nat.le_refl k) (fun i hi hi2 => absurd hi2 (by omega))
      rw [if_neg h1, tadd (by rw [ek]; show -2147483648 ≤ (k : Int) + 0; omega) (by rw [ek]; show (k : Int) + 0 ≤ 2147483647; omega), ek]
      rfl
    · have h1 : q.toInt < 0 := by
        rw [i32le] at h1
        have e0 : (0 : Int32).toInt = 0 := rfl
        omega
      refine j_iloadn3 (pc := 267) hC d_m_row_267 ?_
      refine j_goto (pc := 268) hC 272 d_m_row_268 (by decide) ?_
      refine j_iadd (pc := 272) hC d_m_row_272 ?_
      refine jp_M_91h (pc := 273) hC d_m_row_273 ?_
      refine k276 us2 _ lm2 x2 ((k : Int) + (if q.toInt < 0 then q.toInt else 0)) k o5 o6 o7 o8 ?_ hk (fun dn hd hz => rowR_of hb hV hN hS hq1 hd hz) k (Nat.le_refl k) (fun i hi hi2 => absurd hi2 (by omega))
      rw [if_pos h1, tadd (by rw [ek]; omega) (by rw [ek]; omega), ek]
  have k164 : ∀ (lm2 : Nat → Int64) (n : Nat) (f : Nat → Nat), n ≤ 140 → (∀ i, i < n → lm2 i = lN (f i)) → (∀ i, i < n → f i < 1000000000) → le 1000000000 f n = cc * 2 ^ q.toInt.toNat * 5 ^ (-q.toInt).toNat → ∀ (d i' k : Nat) (x2 : Nat → Int32) (o6 o7 o8 : Option Value), i' + d = n → rS (dig9 fun i => f (n - 1 - i)) (9 * i') k x2 → J p l e (rmD 1) s m args below meth c D (va_A (wm g ca td cd bi ls us dc pt ps sp en ep hn hp tp lm dd xd yd) sz) 9 (MQ below (jQ D (wm g ca td cd bi ls us dc pt ps sp en ep hn hp tp lm dd xd yd) sz (jPv fun w => ∃ (us2 : Int32) (lm2 : Nat → Int64) (dn : Nat) (pp : Int) (p2 : Int32) (x2 : Nat → Int32), p2.toInt = pp ∧ rowR cc q.toInt x2 dn pp ∧ w = wm g ca td cd bi ls (us2) dc pt ps sp en ep (nI dn) (p2) tp (lm2) dd xd (x2))) args s 0 0 (va_A (wm g ca td cd bi ls us dc pt ps sp en ep hn hp tp lm dd xd yd) sz)) 164 [some (.ref (g 10)), some (.long (lN cc)), none, some (.int q), some (.ref (g 14)), some (.int (nI d - 1)), o6, o7, o8] [] (wm g ca td cd bi ls (nI n) dc pt ps sp en ep (nI k) hp tp (lm2) dd xd (x2)) := by
    intro lm2 n f hN hf hb hV d
    induction d with
    | zero =>
      intro i' k x2 o6 o7 o8 hi hS
      refine j_iload5 (pc := 164) hC d_m_row_164 ?_
      refine j_if_lt (pc := 166) hC 256 d_m_row_166 (by decide) (fun h1 => ?_) (fun h1 => ?_)
      · have : i' = n := by omega
        subst this
        exact k256 _ lm2 x2 i' k f _ o6 o7 o8 hb hV (by omega) hS
      · exact absurd (by decide) h1
    | succ d ih =>
      intro i' k x2 o6 o7 o8 hi hS
      have hE := dig9_lt fun i => f (n - 1 - i)
      have inner : ∀ (b j k : Nat) (x2 : Nat → Int32) (o8 : Option Value), j + b = 9 → rS (dig9 fun i => f (n - 1 - i)) (9 * i' + j) k x2 → J p l e (rmD 1) s m args below meth c D (va_A (wm g ca td cd bi ls us dc pt ps sp en ep hn hp tp lm dd xd yd) sz) 9 (MQ below (jQ D (wm g ca td cd bi ls us dc pt ps sp en ep hn hp tp lm dd xd yd) sz (jPv fun w => ∃ (us2 : Int32) (lm2 : Nat → Int64) (dn : Nat) (pp : Int) (p2 : Int32) (x2 : Nat → Int32), p2.toInt = pp ∧ rowR cc q.toInt x2 dn pp ∧ w = wm g ca td cd bi ls (us2) dc pt ps sp en ep (nI dn) (p2) tp (lm2) dd xd (x2))) args s 0 0 (va_A (wm g ca td cd bi ls us dc pt ps sp en ep hn hp tp lm dd xd yd) sz)) 174 [some (.ref (g 10)), some (.long (lN cc)), none, some (.int q), some (.ref (g 14)), some (.int (nI d)), some (.long (lN (100000000 / 10 ^ j))), none, o8] [] (wm g ca td cd bi ls (nI n) dc pt ps sp en ep (nI k) hp tp (lm2) dd xd (x2)) := by
        intro b
        induction b with
        | zero =>
          intro j k x2 o8 hj hS
          have hj9 : j = 9 := by omega
          subst hj9
          refine j_lload6 (pc := 174) hC d_m_row_174 ?_
          refine j_lconst (pc := 176) (v := 0) hC d_m_row_176 (by decide) ?_
          refine j_lcmp (pc := 177) hC d_m_row_177 ?_
          refine j_if_le (pc := 178) hC 250 d_m_row_178 (by decide) (fun h1 => ?_) (fun h1 => ?_)
          · refine j_iinc5 (pc := 250) hC d_m_row_250 (by decide) (by first | exact trivial | exact rfl) ?_
            refine j_goto (pc := 253) hC 164 d_m_row_253 (by decide) ?_
            refine J.to rfl ?_ rfl rfl (ih (i' + 1) k x2 (some (.long (lN (100000000 / 10 ^ 9)))) none o8 (by omega) hS)
            rw [← i_m1]
          · exact absurd (by decide) h1
        | succ b ihb =>
          intro j k x2 o8 hj hS
          have hten : 100000000 / 10 ^ j = 10 ^ (8 - j) := by
            rw [show (100000000 : Nat) = 10 ^ 8 from rfl, Nat.pow_div (by omega) (by omega)]
          have htp : 0 < 100000000 / 10 ^ j := by
            rw [hten]
            exact Nat.pow_pos (by omega)
          have hle : 100000000 / 10 ^ j ≤ 100000000 := Nat.div_le_self _ _
          have hcl : (nI d).toNatClampNeg = d := nI_clamp (by omega)
          have hfd := hb d (by omega)
          have hfle : f d / (100000000 / 10 ^ j) ≤ f d := Nat.div_le_self _ _
          have hdig : (dig9 fun i => f (n - 1 - i)) (9 * i' + j) = f d / (100000000 / 10 ^ j) % 10 := by
            show f (n - 1 - (9 * i' + j) / 9) / 10 ^ (8 - (9 * i' + j) % 9) % 10 = _
            rw [show (9 * i' + j) / 9 = i' by omega, show (9 * i' + j) % 9 = j by omega, hten, show n - 1 - i' = d by omega]
          have hk : k + 1 ≤ 1300 := by
            obtain ⟨z, y, -⟩ := hS
            omega
          generalize hgE : (dig9 fun i => f (n - 1 - i)) = E at *
          have k239 : ∀ (k' : Nat) (x' : Nat → Int32) (o8 : Option Value), rS E (9 * i' + (j + 1)) k' x' → J p l e (rmD 1) s m args below meth c D (va_A (wm g ca td cd bi ls us dc pt ps sp en ep hn hp tp lm dd xd yd) sz) 9 (MQ below (jQ D (wm g ca td cd bi ls us dc pt ps sp en ep hn hp tp lm dd xd yd) sz (jPv fun w => ∃ (us2 : Int32) (lm2 : Nat → Int64) (dn : Nat) (pp : Int) (p2 : Int32) (x2 : Nat → Int32), p2.toInt = pp ∧ rowR cc q.toInt x2 dn pp ∧ w = wm g ca td cd bi ls (us2) dc pt ps sp en ep (nI dn) (p2) tp (lm2) dd xd (x2))) args s 0 0 (va_A (wm g ca td cd bi ls us dc pt ps sp en ep hn hp tp lm dd xd yd) sz)) 239 [some (.ref (g 10)), some (.long (lN cc)), none, some (.int q), some (.ref (g 14)), some (.int (nI d)), some (.long (lN (100000000 / 10 ^ j))), none, o8] [] (wm g ca td cd bi ls (nI n) dc pt ps sp en ep (nI k') hp tp (lm2) dd xd (x')) := by
            intro k' x' o8 hS'
            refine j_lload6 (pc := 239) hC d_m_row_239 ?_
            refine j_ldc2 (pc := 241) (v := 10) hC mk_M_86 d_m_row_241 ?_
            refine j_ldiv (pc := 244) hC d_m_row_244 (by decide) ?_
            refine J.topl (y := lN (100000000 / 10 ^ (j + 1))) (by rw [show (10 : Int64) = lN 10 from rfl, pk_lDiv (by omega) (by omega) (by omega), Nat.div_div_eq_div_mul, Nat.pow_succ]) ?_
            refine j_lstore6 (pc := 245) hC d_m_row_245 (by decide) (by first | exact trivial | exact rfl) ?_
            refine j_goto (pc := 247) hC 174 d_m_row_247 (by decide) ?_
            exact ihb (j + 1) k' x' o8 (by omega) hS'
          have hEt := hE (9 * i' + j)
          have k215 : ¬ (k = 0 ∧ E (9 * i' + j) = 0) → J p l e (rmD 1) s m args below meth c D (va_A (wm g ca td cd bi ls us dc pt ps sp en ep hn hp tp lm dd xd yd) sz) 9 (MQ below (jQ D (wm g ca td cd bi ls us dc pt ps sp en ep hn hp tp lm dd xd yd) sz (jPv fun w => ∃ (us2 : Int32) (lm2 : Nat → Int64) (dn : Nat) (pp : Int) (p2 : Int32) (x2 : Nat → Int32), p2.toInt = pp ∧ rowR cc q.toInt x2 dn pp ∧ w = wm g ca td cd bi ls (us2) dc pt ps sp en ep (nI dn) (p2) tp (lm2) dd xd (x2))) args s 0 0 (va_A (wm g ca td cd bi ls us dc pt ps sp en ep hn hp tp lm dd xd yd) sz)) 215 [some (.ref (g 10)), some (.long (lN cc)), none, some (.int q), some (.ref (g 14)), some (.int (nI d)), some (.long (lN (100000000 / 10 ^ j))), none, some (.int (nI (E (9 * i' + j))))] [] (wm g ca td cd bi ls (nI n) dc pt ps sp en ep (nI k) hp tp (lm2) dd xd (x2)) := by
            intro hne
            refine j_aload4 (pc := 215) hC d_m_row_215 ?_
            refine jg_M_88h (pc := 217) hC d_m_row_217 ?_
            refine j_aload4 (pc := 220) hC d_m_row_220 ?_
            refine jg_M_81h (pc := 222) hC d_m_row_222 ?_
            refine j_iload8 (pc := 225) hC d_m_row_225 ?_
            refine ja_hd_bastore (pc := 227) hC (vp_in_nI (by omega) (by decide)) d_m_row_227 ?_
            refine j_aload4 (pc := 228) hC d_m_row_228 ?_
            refine j_dup (pc := 230) hC d_m_row_230 rfl ?_
            refine jg_M_81h (pc := 231) hC d_m_row_231 ?_
            refine j_iconst (pc := 234) (v := 1) hC d_m_row_234 (by decide) ?_
            refine j_iadd (pc := 235) hC d_m_row_235 ?_
            refine jp_M_81h (pc := 236) hC d_m_row_236 ?_
            refine J.to rfl rfl rfl ?_ (k239 (k + 1) (upd x2 k (nI (E (9 * i' + j)))) _ (rS_put hS hne))
            rw [nI_1, nI_clamp (show k < 2 ^ 31 by omega), nar10 _ hEt]
          refine j_lload6 (pc := 174) hC d_m_row_174 ?_
          refine j_lconst (pc := 176) (v := 0) hC d_m_row_176 (by decide) ?_
          refine j_lcmp (pc := 177) hC d_m_row_177 ?_
          refine j_if_le (pc := 178) hC 250 d_m_row_178 (by decide) (fun h1 => ?_) (fun h1 => ?_)
          · have h1 := (pk_lLE (b := 0) (by omega) (by omega)).mp ((lg_cmp_le _ _).mp h1)
            omega
          · refine j_aloadn0 (pc := 181) hC d_m_row_181 ?_
            refine jg_M_13 (pc := 182) hC d_m_row_182 ?_
            refine j_iload5 (pc := 185) hC d_m_row_185 ?_
            refine ja_mlimbs_laload (pc := 187) hC (vp_in_nI (by omega) (by decide)) d_m_row_187 ?_
            refine j_lload6 (pc := 188) hC d_m_row_188 ?_
            refine J.to rfl rfl (by rw [hcl, hf d (by omega)]) rfl ?_
            refine j_ldiv (pc := 190) hC d_m_row_190 (fun y => ?_) ?_
            · have := (pk_lEQ (b := 0) (by omega) (by omega)).mp y
              omega
            · refine J.topl (pk_lDiv (by omega) htp (by omega)) ?_
              refine j_ldc2 (pc := 191) (v := 10) hC mk_M_86 d_m_row_191 ?_
              refine j_lrem (pc := 194) hC d_m_row_194 (by decide) ?_
              refine J.topl (pk_lRem (b := 10) (by omega) (by omega) (by omega)) ?_
              refine j_l2i (pc := 195) hC d_m_row_195 ?_
              refine j_i2b (pc := 196) hC d_m_row_196 ?_
              refine J.topi (y := nI (E (9 * i' + j))) (by rw [← hdig, lN_i, i2b10 _ hEt]) ?_
              refine j_istore8 (pc := 197) hC d_m_row_197 (by decide) (by first | exact trivial | exact rfl) ?_
              refine j_aload4 (pc := 199) hC d_m_row_199 ?_
              refine jg_M_81h (pc := 201) hC d_m_row_201 ?_
              refine j_if_ne (pc := 204) hC 215 d_m_row_204 (by decide) (fun h2 => ?_) (fun h2 => ?_)
              · exact k215 (fun y => h2 (by rw [y.1]; rfl))
              · have hk0 : k = 0 := (nI_eq (b := 0) (by omega) (by omega)).mp h2
                refine j_iload8 (pc := 207) hC d_m_row_207 ?_
                refine j_if_ne (pc := 209) hC 215 d_m_row_209 (by decide) (fun h3 => ?_) (fun h3 => ?_)
                · exact k215 (fun y => h3 (by rw [y.2]; rfl))
                · have hE0 : E (9 * i' + j) = 0 := (nI_eq (b := 0) (by omega) (by omega)).mp h3
                  refine j_goto (pc := 212) hC 239 d_m_row_212 (by decide) ?_
                  subst hk0
                  exact k239 0 x2 _ (rS_skip hS hE0)
      refine j_iload5 (pc := 164) hC d_m_row_164 ?_
      refine j_if_lt (pc := 166) hC 256 d_m_row_166 (by decide) (fun h1 => ?_) (fun h1 => ?_)
      · rw [nI_pred] at h1
        exact absurd h1 (nI_pos (by omega))
      · refine j_ldc2 (pc := 169) (v := 100000000) hC mk_M_84 d_m_row_169 ?_
        refine j_lstore6 (pc := 172) hC d_m_row_172 (by decide) (by first | exact trivial | exact rfl) ?_
        refine J.to rfl ?_ rfl rfl (inner 9 0 k x2 o8 (by omega) hS)
        rw [nI_pred]
        rfl
  have k150 : ∀ (lm2 : Nat → Int64) (n : Nat) (o5 o6 o7 o8 : Option Value), n ≤ 140 → mlb lm2 n (cc * 2 ^ q.toInt.toNat * 5 ^ (-q.toInt).toNat) → J p l e (rmD 1) s m args below meth c D (va_A (wm g ca td cd bi ls us dc pt ps sp en ep hn hp tp lm dd xd yd) sz) 9 (MQ below (jQ D (wm g ca td cd bi ls us dc pt ps sp en ep hn hp tp lm dd xd yd) sz (jPv fun w => ∃ (us2 : Int32) (lm2 : Nat → Int64) (dn : Nat) (pp : Int) (p2 : Int32) (x2 : Nat → Int32), p2.toInt = pp ∧ rowR cc q.toInt x2 dn pp ∧ w = wm g ca td cd bi ls (us2) dc pt ps sp en ep (nI dn) (p2) tp (lm2) dd xd (x2))) args s 0 0 (va_A (wm g ca td cd bi ls us dc pt ps sp en ep hn hp tp lm dd xd yd) sz)) 150 [some (.ref (g 10)), some (.long (lN cc)), none, some (.int q), some (.ref (g 14)), o5, o6, o7, o8] [] (wm g ca td cd bi ls (nI n) dc pt ps sp en ep hn hp tp (lm2) dd xd yd) := by
    intro lm2 n o5 o6 o7 o8 hN hB
    obtain ⟨f, hf, hb, hV⟩ := hB
    refine j_aload4 (pc := 150) hC d_m_row_150 ?_
    refine j_iconst (pc := 152) (v := 0) hC d_m_row_152 (by decide) ?_
    refine jp_M_81h (pc := 153) hC d_m_row_153 ?_
    refine j_aloadn0 (pc := 156) hC d_m_row_156 ?_
    refine jg_M_66 (pc := 157) hC d_m_row_157 ?_
    refine j_iconst (pc := 160) (v := 1) hC d_m_row_160 (by decide) ?_
    refine j_isub (pc := 161) hC d_m_row_161 ?_
    refine j_istore5 (pc := 162) hC d_m_row_162 (by decide) (by first | exact trivial | exact rfl) ?_
    exact k164 lm2 n f hN hf hb hV n 0 0 yd o6 o7 o8 (by omega) (rS_0 _ _)
  have ez : (0 : Int32).toInt = 0 := rfl
  have eneg : q.toInt < 0 → -q = nI (-q.toInt).toNat := by
    intro hq
    refine nI_to (by omega) ?_
    rw [Int32.toInt_neg, Int.bmod_eq_of_le (by omega) (by omega)]
    omega
  have k119 : ∀ (d j : Nat) (lm2 : Nat → Int64) (n : Nat) (o6 o7 o8 : Option Value), j + d = (-q.toInt).toNat % 12 → n ≤ 127 + j → mlb lm2 n (cc * 2 ^ q.toInt.toNat * 5 ^ (12 * ((-q.toInt).toNat / 12) + j)) → J p l e (rmD 1) s m args below meth c D (va_A (wm g ca td cd bi ls us dc pt ps sp en ep hn hp tp lm dd xd yd) sz) 9 (MQ below (jQ D (wm g ca td cd bi ls us dc pt ps sp en ep hn hp tp lm dd xd yd) sz (jPv fun w => ∃ (us2 : Int32) (lm2 : Nat → Int64) (dn : Nat) (pp : Int) (p2 : Int32) (x2 : Nat → Int32), p2.toInt = pp ∧ rowR cc q.toInt x2 dn pp ∧ w = wm g ca td cd bi ls (us2) dc pt ps sp en ep (nI dn) (p2) tp (lm2) dd xd (x2))) args s 0 0 (va_A (wm g ca td cd bi ls us dc pt ps sp en ep hn hp tp lm dd xd yd) sz)) 119 [some (.ref (g 10)), some (.long (lN cc)), none, some (.int q), some (.ref (g 14)), some (.int (nI j)), o6, o7, o8] [] (wm g ca td cd bi ls (nI n) dc pt ps sp en ep hn hp tp (lm2) dd xd yd) := by
    intro d
    induction d with
    | zero =>
      intro j lm2 n o6 o7 o8 hj hN hB
      have k134 : J p l e (rmD 1) s m args below meth c D (va_A (wm g ca td cd bi ls us dc pt ps sp en ep hn hp tp lm dd xd yd) sz) 9 (MQ below (jQ D (wm g ca td cd bi ls us dc pt ps sp en ep hn hp tp lm dd xd yd) sz (jPv fun w => ∃ (us2 : Int32) (lm2 : Nat → Int64) (dn : Nat) (pp : Int) (p2 : Int32) (x2 : Nat → Int32), p2.toInt = pp ∧ rowR cc q.toInt x2 dn pp ∧ w = wm g ca td cd bi ls (us2) dc pt ps sp en ep (nI dn) (p2) tp (lm2) dd xd (x2))) args s 0 0 (va_A (wm g ca td cd bi ls us dc pt ps sp en ep hn hp tp lm dd xd yd) sz)) 134 [some (.ref (g 10)), some (.long (lN cc)), none, some (.int q), some (.ref (g 14)), some (.int (nI j)), o6, o7, o8] [.int (nI ((-q.toInt).toNat % 12)), .int (nI j)] (wm g ca td cd bi ls (nI n) dc pt ps sp en ep hn hp tp (lm2) dd xd yd) := by
        refine j_icmp_ge (pc := 134) hC 150 d_m_row_134 (by decide) (fun h1 => ?_) (fun h1 => ?_)
        · refine k150 lm2 n _ o6 o7 o8 (by omega) ?_
          rw [show (-q.toInt).toNat = 12 * ((-q.toInt).toNat / 12) + j by omega]
          exact hB
        · rw [nI_leI (by omega) (by omega)] at h1
          omega
      refine j_iload5 (pc := 119) hC d_m_row_119 ?_
      refine j_iloadn3 (pc := 121) hC d_m_row_121 ?_
      refine j_if_ge (pc := 122) hC 133 d_m_row_122 (by decide) (fun h1 => ?_) (fun h1 => ?_)
      · rw [i32le, ez] at h1
        refine j_iconst (pc := 133) (v := 0) hC d_m_row_133 (by decide) ?_
        refine J.to rfl rfl ?_ rfl k134
        rw [show (-q.toInt).toNat = 0 by omega]
        rfl
      · rw [i32le, ez] at h1
        refine j_iloadn3 (pc := 125) hC d_m_row_125 ?_
        refine j_ineg (pc := 126) hC d_m_row_126 ?_
        refine J.topi (eneg (by omega)) ?_
        refine j_bipush (pc := 127) (v := 12) hC d_m_row_127 (by decide) ?_
        refine j_irem (pc := 129) hC d_m_row_129 (by decide) ?_
        refine J.topi (pk_rem (d := 12) (by omega) (by omega) (by omega)) ?_
        refine j_goto (pc := 130) hC 134 d_m_row_130 (by decide) ?_
        exact k134
    | succ d ih =>
      intro j lm2 n o6 o7 o8 hj hN hB
      have k134 : J p l e (rmD 1) s m args below meth c D (va_A (wm g ca td cd bi ls us dc pt ps sp en ep hn hp tp lm dd xd yd) sz) 9 (MQ below (jQ D (wm g ca td cd bi ls us dc pt ps sp en ep hn hp tp lm dd xd yd) sz (jPv fun w => ∃ (us2 : Int32) (lm2 : Nat → Int64) (dn : Nat) (pp : Int) (p2 : Int32) (x2 : Nat → Int32), p2.toInt = pp ∧ rowR cc q.toInt x2 dn pp ∧ w = wm g ca td cd bi ls (us2) dc pt ps sp en ep (nI dn) (p2) tp (lm2) dd xd (x2))) args s 0 0 (va_A (wm g ca td cd bi ls us dc pt ps sp en ep hn hp tp lm dd xd yd) sz)) 134 [some (.ref (g 10)), some (.long (lN cc)), none, some (.int q), some (.ref (g 14)), some (.int (nI j)), o6, o7, o8] [.int (nI ((-q.toInt).toNat % 12)), .int (nI j)] (wm g ca td cd bi ls (nI n) dc pt ps sp en ep hn hp tp (lm2) dd xd yd) := by
        refine j_icmp_ge (pc := 134) hC 150 d_m_row_134 (by decide) (fun h1 => ?_) (fun h1 => ?_)
        · rw [nI_leI (by omega) (by omega)] at h1
          omega
        · refine j_aloadn0 (pc := 137) hC d_m_row_137 ?_
          refine j_ldc2 (pc := 138) (v := 5) hC mk_M_79 d_m_row_138 ?_
          refine j_V1v (pc := 141) (q0 := 0) (ci := 3) hC cw_M_73 (rmD_in (by decide)) (Nat.le_of_ble_eq_true rfl) rfl rfl d_m_row_141 (c_m_times n 5 _ (by omega) (by omega) (by omega) hB) (fun w2 h2 => ?_)
          obtain ⟨n3, lm3, hn3, hB3, rfl⟩ := h2
          refine j_iinc5 (pc := 144) hC d_m_row_144 (by decide) (by first | exact trivial | exact rfl) ?_
          refine j_goto (pc := 147) hC 119 d_m_row_147 (by decide) ?_
          refine J.to rfl ?_ rfl rfl (ih (j + 1) lm3 n3 o6 o7 o8 (by omega) (by omega) ?_)
          · rw [← nI_1]
            rfl
          · rw [← Nat.add_assoc, Nat.pow_succ, ← Nat.mul_assoc, Nat.mul_comm _ 5]
            exact hB3
      refine j_iload5 (pc := 119) hC d_m_row_119 ?_
      refine j_iloadn3 (pc := 121) hC d_m_row_121 ?_
      refine j_if_ge (pc := 122) hC 133 d_m_row_122 (by decide) (fun h1 => ?_) (fun h1 => ?_)
      · rw [i32le, ez] at h1
        omega
      · rw [i32le, ez] at h1
        refine j_iloadn3 (pc := 125) hC d_m_row_125 ?_
        refine j_ineg (pc := 126) hC d_m_row_126 ?_
        refine J.topi (eneg (by omega)) ?_
        refine j_bipush (pc := 127) (v := 12) hC d_m_row_127 (by decide) ?_
        refine j_irem (pc := 129) hC d_m_row_129 (by decide) ?_
        refine J.topi (pk_rem (d := 12) (by omega) (by omega) (by omega)) ?_
        refine j_goto (pc := 130) hC 134 d_m_row_130 (by decide) ?_
        exact k134
  have k93 : ∀ (d j : Nat) (lm2 : Nat → Int64) (n : Nat) (o6 o7 o8 : Option Value), j + d = (-q.toInt).toNat / 12 → n ≤ 36 + j → mlb lm2 n (cc * 2 ^ q.toInt.toNat * 5 ^ (12 * j)) → J p l e (rmD 1) s m args below meth c D (va_A (wm g ca td cd bi ls us dc pt ps sp en ep hn hp tp lm dd xd yd) sz) 9 (MQ below (jQ D (wm g ca td cd bi ls us dc pt ps sp en ep hn hp tp lm dd xd yd) sz (jPv fun w => ∃ (us2 : Int32) (lm2 : Nat → Int64) (dn : Nat) (pp : Int) (p2 : Int32) (x2 : Nat → Int32), p2.toInt = pp ∧ rowR cc q.toInt x2 dn pp ∧ w = wm g ca td cd bi ls (us2) dc pt ps sp en ep (nI dn) (p2) tp (lm2) dd xd (x2))) args s 0 0 (va_A (wm g ca td cd bi ls us dc pt ps sp en ep hn hp tp lm dd xd yd) sz)) 93 [some (.ref (g 10)), some (.long (lN cc)), none, some (.int q), some (.ref (g 14)), some (.int (nI (12 * j))), o6, o7, o8] [] (wm g ca td cd bi ls (nI n) dc pt ps sp en ep hn hp tp (lm2) dd xd yd) := by
    intro d
    induction d with
    | zero =>
      intro j lm2 n o6 o7 o8 hj hN hB
      refine j_iload5 (pc := 93) hC d_m_row_93 ?_
      refine j_bipush (pc := 95) (v := 12) hC d_m_row_95 (by decide) ?_
      refine j_iadd (pc := 97) hC d_m_row_97 ?_
      refine J.topi (nI_add (12 * j) 12) ?_
      refine j_iloadn3 (pc := 98) hC d_m_row_98 ?_
      refine j_ineg (pc := 99) hC d_m_row_99 ?_
      refine j_icmp_gt (pc := 100) hC 116 d_m_row_100 (by decide) (fun h1 => ?_) (fun h1 => ?_)
      · refine j_iconst (pc := 116) (v := 0) hC d_m_row_116 (by decide) ?_
        refine j_istore5 (pc := 117) hC d_m_row_117 (by decide) (by first | exact trivial | exact rfl) ?_
        refine J.to rfl rfl rfl rfl (k119 ((-q.toInt).toNat % 12) 0 lm2 n o6 o7 o8 (by omega) (by omega) ?_)
        rw [show 12 * ((-q.toInt).toNat / 12) + 0 = 12 * j by omega]
        exact hB
      · by_cases hq : q.toInt < 0
        · rw [eneg hq, nI_ltI (by omega) (by omega)] at h1
          omega
        · rw [i32lt, nI_toInt (by omega), Int32.toInt_neg, Int.bmod_eq_of_le (by omega) (by omega)] at h1
          omega
    | succ d ih =>
      intro j lm2 n o6 o7 o8 hj hN hB
      have hq : q.toInt < 0 := by omega
      refine j_iload5 (pc := 93) hC d_m_row_93 ?_
      refine j_bipush (pc := 95) (v := 12) hC d_m_row_95 (by decide) ?_
      refine j_iadd (pc := 97) hC d_m_row_97 ?_
      refine J.topi (nI_add (12 * j) 12) ?_
      refine j_iloadn3 (pc := 98) hC d_m_row_98 ?_
      refine j_ineg (pc := 99) hC d_m_row_99 ?_
      refine j_icmp_gt (pc := 100) hC 116 d_m_row_100 (by decide) (fun h1 => ?_) (fun h1 => ?_)
      · rw [eneg hq, nI_ltI (by omega) (by omega)] at h1
        omega
      · refine j_aloadn0 (pc := 103) hC d_m_row_103 ?_
        refine j_ldc2 (pc := 104) (v := 244140625) hC mk_M_77 d_m_row_104 ?_
        refine j_V1v (pc := 107) (q0 := 0) (ci := 3) hC cw_M_73 (rmD_in (by decide)) (Nat.le_of_ble_eq_true rfl) rfl rfl d_m_row_107 (c_m_times n 244140625 _ (by omega) (by omega) (by omega) hB) (fun w2 h2 => ?_)
        obtain ⟨n3, lm3, hn3, hB3, rfl⟩ := h2
        refine j_iinc5 (pc := 110) hC d_m_row_110 (by decide) (by first | exact trivial | exact rfl) ?_
        refine j_goto (pc := 113) hC 93 d_m_row_113 (by decide) ?_
        refine J.to rfl ?_ rfl rfl (ih (j + 1) lm3 n3 o6 o7 o8 (by omega) (by omega) ?_)
        · rw [show 12 * (j + 1) = 12 * j + 12 by omega, ← nI_add]
          rfl
        · rw [show 12 * (j + 1) = 12 * j + 12 by omega, Nat.pow_add, show (5 : Nat) ^ 12 = 244140625 from rfl, ← Nat.mul_assoc, Nat.mul_comm _ 244140625]
          exact hB3
  have k90 : ∀ (lm2 : Nat → Int64) (n : Nat) (o5 o6 o7 o8 : Option Value), n ≤ 36 → mlb lm2 n (cc * 2 ^ q.toInt.toNat) → J p l e (rmD 1) s m args below meth c D (va_A (wm g ca td cd bi ls us dc pt ps sp en ep hn hp tp lm dd xd yd) sz) 9 (MQ below (jQ D (wm g ca td cd bi ls us dc pt ps sp en ep hn hp tp lm dd xd yd) sz (jPv fun w => ∃ (us2 : Int32) (lm2 : Nat → Int64) (dn : Nat) (pp : Int) (p2 : Int32) (x2 : Nat → Int32), p2.toInt = pp ∧ rowR cc q.toInt x2 dn pp ∧ w = wm g ca td cd bi ls (us2) dc pt ps sp en ep (nI dn) (p2) tp (lm2) dd xd (x2))) args s 0 0 (va_A (wm g ca td cd bi ls us dc pt ps sp en ep hn hp tp lm dd xd yd) sz)) 90 [some (.ref (g 10)), some (.long (lN cc)), none, some (.int q), some (.ref (g 14)), o5, o6, o7, o8] [] (wm g ca td cd bi ls (nI n) dc pt ps sp en ep hn hp tp (lm2) dd xd yd) := by
    intro lm2 n o5 o6 o7 o8 hN hB
    refine j_iconst (pc := 90) (v := 0) hC d_m_row_90 (by decide) ?_
    refine j_istore5 (pc := 91) hC d_m_row_91 (by decide) (by first | exact trivial | exact rfl) ?_
    refine J.to rfl rfl rfl rfl (k93 ((-q.toInt).toNat / 12) 0 lm2 n o6 o7 o8 (by omega) (by omega) ?_)
    rw [Nat.mul_zero, Nat.pow_zero, Nat.mul_one]
    exact hB
  have k54 : ∀ (d j : Nat) (lm2 : Nat → Int64) (n : Nat) (o6 o7 o8 : Option Value), j + d = q.toInt.toNat / 29 → n ≤ 2 + j → mlb lm2 n (cc * 2 ^ (29 * j)) → J p l e (rmD 1) s m args below meth c D (va_A (wm g ca td cd bi ls us dc pt ps sp en ep hn hp tp lm dd xd yd) sz) 9 (MQ below (jQ D (wm g ca td cd bi ls us dc pt ps sp en ep hn hp tp lm dd xd yd) sz (jPv fun w => ∃ (us2 : Int32) (lm2 : Nat → Int64) (dn : Nat) (pp : Int) (p2 : Int32) (x2 : Nat → Int32), p2.toInt = pp ∧ rowR cc q.toInt x2 dn pp ∧ w = wm g ca td cd bi ls (us2) dc pt ps sp en ep (nI dn) (p2) tp (lm2) dd xd (x2))) args s 0 0 (va_A (wm g ca td cd bi ls us dc pt ps sp en ep hn hp tp lm dd xd yd) sz)) 54 [some (.ref (g 10)), some (.long (lN cc)), none, some (.int q), some (.ref (g 14)), some (.int (nI (29 * j))), o6, o7, o8] [] (wm g ca td cd bi ls (nI n) dc pt ps sp en ep hn hp tp (lm2) dd xd yd) := by
    intro d
    induction d with
    | zero =>
      intro j lm2 n o6 o7 o8 hj hN hB
      refine j_iload5 (pc := 54) hC d_m_row_54 ?_
      refine j_bipush (pc := 56) (v := 29) hC d_m_row_56 (by decide) ?_
      refine j_iadd (pc := 58) hC d_m_row_58 ?_
      refine J.topi (nI_add (29 * j) 29) ?_
      refine j_iloadn3 (pc := 59) hC d_m_row_59 ?_
      refine j_icmp_gt (pc := 60) hC 76 d_m_row_60 (by decide) (fun h1 => ?_) (fun h1 => ?_)
      · refine j_iloadn3 (pc := 76) hC d_m_row_76 ?_
        refine j_if_le (pc := 77) hC 90 d_m_row_77 (by decide) (fun h2 => ?_) (fun h2 => ?_)
        · rw [i32le, ez] at h2
          refine k90 lm2 n _ o6 o7 o8 (by omega) ?_
          rw [show q.toInt.toNat = 29 * j by omega]
          exact hB
        · rw [i32le, ez] at h2
          have eq1 : q = nI q.toInt.toNat := nI_to (by omega) (by omega)
          refine j_aloadn0 (pc := 80) hC d_m_row_80 ?_
          refine j_lconst (pc := 81) (v := 1) hC d_m_row_81 (by decide) ?_
          refine j_iloadn3 (pc := 82) hC d_m_row_82 ?_
          refine j_bipush (pc := 83) (v := 29) hC d_m_row_83 (by decide) ?_
          refine j_irem (pc := 85) hC d_m_row_85 (by decide) ?_
          refine J.topi (y := nI (q.toInt.toNat % 29)) (by
            have := pk_rem (a := q.toInt.toNat) (d := 29) (by omega) (by omega) (by omega)
            rw [← eq1] at this
            exact this) ?_
          have hp29 : 2 ^ (q.toInt.toNat % 29) ≤ 2 ^ 29 := Nat.pow_le_pow_right (by omega) (by omega)
          refine j_lshl (pc := 86) hC d_m_row_86 ?_
          refine J.topl (y := lN (2 ^ (q.toInt.toNat % 29))) (by
            have := wb_shl 1 (k := q.toInt.toNat % 29) (by omega)
            rw [Nat.one_mul] at this
            exact this) ?_
          refine j_V1v (pc := 87) (q0 := 0) (ci := 3) hC cw_M_73 (rmD_in (by decide)) (Nat.le_of_ble_eq_true rfl) rfl rfl d_m_row_87 (c_m_times n _ _ (by omega) (Nat.two_pow_pos _) hp29 hB) (fun w2 h3 => ?_)
          obtain ⟨n3, lm3, hn3, hB3, rfl⟩ := h3
          refine k90 lm3 n3 _ o6 o7 o8 (by omega) ?_
          have e : cc * 2 ^ q.toInt.toNat = 2 ^ (q.toInt.toNat % 29) * (cc * 2 ^ (29 * j)) := by
            have e1 : 2 ^ q.toInt.toNat = 2 ^ (29 * j) * 2 ^ (q.toInt.toNat % 29) := by
              rw [← Nat.pow_add]
              congr 1
              omega
            rw [e1]
            ac_rfl
          rw [e]
          exact hB3
      · by_cases hq : q.toInt < 0
        · rw [i32lt, nI_toInt (by omega)] at h1
          omega
        · have eq1 : q = nI q.toInt.toNat := nI_to (by omega) (by omega)
          rw [i32lt, nI_toInt (by omega)] at h1
          omega
    | succ d ih =>
      intro j lm2 n o6 o7 o8 hj hN hB
      refine j_iload5 (pc := 54) hC d_m_row_54 ?_
      refine j_bipush (pc := 56) (v := 29) hC d_m_row_56 (by decide) ?_
      refine j_iadd (pc := 58) hC d_m_row_58 ?_
      refine J.topi (nI_add (29 * j) 29) ?_
      refine j_iloadn3 (pc := 59) hC d_m_row_59 ?_
      refine j_icmp_gt (pc := 60) hC 76 d_m_row_60 (by decide) (fun h1 => ?_) (fun h1 => ?_)
      · rw [i32lt, nI_toInt (by omega)] at h1
        omega
      · refine j_aloadn0 (pc := 63) hC d_m_row_63 ?_
        refine j_ldc2 (pc := 64) (v := 536870912) hC mk_M_71 d_m_row_64 ?_
        refine j_V1v (pc := 67) (q0 := 0) (ci := 3) hC cw_M_73 (rmD_in (by decide)) (Nat.le_of_ble_eq_true rfl) rfl rfl d_m_row_67 (c_m_times n 536870912 _ (by omega) (by omega) (by omega) hB) (fun w2 h2 => ?_)
        obtain ⟨n3, lm3, hn3, hB3, rfl⟩ := h2
        refine j_iinc5 (pc := 70) hC d_m_row_70 (by decide) (by first | exact trivial | exact rfl) ?_
        refine j_goto (pc := 73) hC 54 d_m_row_73 (by decide) ?_
        refine J.to rfl ?_ rfl rfl (ih (j + 1) lm3 n3 o6 o7 o8 (by omega) (by omega) ?_)
        · rw [show 29 * (j + 1) = 29 * j + 29 by omega, ← nI_add]
          rfl
        · rw [show 29 * (j + 1) = 29 * j + 29 by omega, Nat.pow_add, show (2 : Nat) ^ 29 = 536870912 from rfl, ← Nat.mul_assoc, Nat.mul_comm _ 536870912]
          exact hB3
  have k51 : ∀ (lm2 : Nat → Int64) (n : Nat) (o5 o6 o7 o8 : Option Value), n ≤ 2 → mlb lm2 n cc → J p l e (rmD 1) s m args below meth c D (va_A (wm g ca td cd bi ls us dc pt ps sp en ep hn hp tp lm dd xd yd) sz) 9 (MQ below (jQ D (wm g ca td cd bi ls us dc pt ps sp en ep hn hp tp lm dd xd yd) sz (jPv fun w => ∃ (us2 : Int32) (lm2 : Nat → Int64) (dn : Nat) (pp : Int) (p2 : Int32) (x2 : Nat → Int32), p2.toInt = pp ∧ rowR cc q.toInt x2 dn pp ∧ w = wm g ca td cd bi ls (us2) dc pt ps sp en ep (nI dn) (p2) tp (lm2) dd xd (x2))) args s 0 0 (va_A (wm g ca td cd bi ls us dc pt ps sp en ep hn hp tp lm dd xd yd) sz)) 51 [some (.ref (g 10)), some (.long (lN cc)), none, some (.int q), some (.ref (g 14)), o5, o6, o7, o8] [] (wm g ca td cd bi ls (nI n) dc pt ps sp en ep hn hp tp (lm2) dd xd yd) := by
    intro lm2 n o5 o6 o7 o8 hN hB
    refine j_iconst (pc := 51) (v := 0) hC d_m_row_51 (by decide) ?_
    refine j_istore5 (pc := 52) hC d_m_row_52 (by decide) (by first | exact trivial | exact rfl) ?_
    refine J.to rfl rfl rfl rfl (k54 (q.toInt.toNat / 29) 0 lm2 n o6 o7 o8 (by omega) (by omega) ?_)
    rw [Nat.mul_zero, Nat.pow_zero, Nat.mul_one]
    exact hB
  have k8 : ∀ (d n v x : Nat) (lm2 : Nat → Int64), n + d = 2 → x < 1000000000 ^ d → v + x * 1000000000 ^ n = cc → mlb lm2 n v → J p l e (rmD 1) s m args below meth c D (va_A (wm g ca td cd bi ls us dc pt ps sp en ep hn hp tp lm dd xd yd) sz) 9 (MQ below (jQ D (wm g ca td cd bi ls us dc pt ps sp en ep hn hp tp lm dd xd yd) sz (jPv fun w => ∃ (us2 : Int32) (lm2 : Nat → Int64) (dn : Nat) (pp : Int) (p2 : Int32) (x2 : Nat → Int32), p2.toInt = pp ∧ rowR cc q.toInt x2 dn pp ∧ w = wm g ca td cd bi ls (us2) dc pt ps sp en ep (nI dn) (p2) tp (lm2) dd xd (x2))) args s 0 0 (va_A (wm g ca td cd bi ls us dc pt ps sp en ep hn hp tp lm dd xd yd) sz)) 8 [some (.ref (g 10)), some (.long (lN cc)), none, some (.int q), some (.ref (g 14)), some (.long (lN x)), none, none, none] [] (wm g ca td cd bi ls (nI n) dc pt ps sp en ep hn hp tp (lm2) dd xd yd) := by
    intro d
    induction d with
    | zero =>
      intro n v x lm2 hj hx hv hB
      have hx0 : x = 0 := by
        rw [Nat.pow_zero] at hx
        omega
      subst hx0
      refine j_lload5 (pc := 8) hC d_m_row_8 ?_
      refine j_lconst (pc := 10) (v := 0) hC d_m_row_10 (by decide) ?_
      refine j_lcmp (pc := 11) hC d_m_row_11 ?_
      refine j_if_le (pc := 12) hC 51 d_m_row_12 (by decide) (fun h1 => ?_) (fun h1 => ?_)
      · refine k51 lm2 n _ none none none (by omega) ?_
        rw [Nat.zero_mul, Nat.add_zero] at hv
        rw [← hv]
        exact hB
      · exact absurd (by decide) h1
    | succ d ih =>
      intro n v x lm2 hj hx hv hB
      have hx63 : x < 1000000000 * 1000000000 := by
        have h2 : 1000000000 ^ (d + 1) ≤ 1000000000 ^ 2 := Nat.pow_le_pow_right (by omega) (by omega)
        have h3 : (1000000000 : Nat) ^ 2 = 1000000000 * 1000000000 := rfl
        omega
      have hcl : (nI n).toNatClampNeg = n := nI_clamp (by omega)
      refine j_lload5 (pc := 8) hC d_m_row_8 ?_
      refine j_lconst (pc := 10) (v := 0) hC d_m_row_10 (by decide) ?_
      refine j_lcmp (pc := 11) hC d_m_row_11 ?_
      refine j_if_le (pc := 12) hC 51 d_m_row_12 (by decide) (fun h1 => ?_) (fun h1 => ?_)
      · have h1 := (pk_lLE (b := 0) (by omega) (by omega)).mp ((lg_cmp_le _ _).mp h1)
        have hx0 : x = 0 := by omega
        refine k51 lm2 n _ none none none (by omega) ?_
        rw [hx0, Nat.zero_mul, Nat.add_zero] at hv
        rw [← hv]
        exact hB
      · refine j_aloadn0 (pc := 15) hC d_m_row_15 ?_
        refine jg_M_13 (pc := 16) hC d_m_row_16 ?_
        refine j_aloadn0 (pc := 19) hC d_m_row_19 ?_
        refine jg_M_66 (pc := 20) hC d_m_row_20 ?_
        refine j_lload5 (pc := 23) hC d_m_row_23 ?_
        refine j_ldc2 (pc := 25) (v := 1000000000) hC mk_M_69 d_m_row_25 ?_
        refine j_lrem (pc := 28) hC d_m_row_28 (by decide) ?_
        refine J.topl (pk_lRem (b := 1000000000) (by omega) (by omega) (by omega)) ?_
        refine ja_mlimbs_lastore (pc := 29) hC (vp_in_nI (by omega) (by decide)) d_m_row_29 ?_
        refine j_aloadn0 (pc := 30) hC d_m_row_30 ?_
        refine j_dup (pc := 31) hC d_m_row_31 rfl ?_
        refine jg_M_66 (pc := 32) hC d_m_row_32 ?_
        refine j_iconst (pc := 35) (v := 1) hC d_m_row_35 (by decide) ?_
        refine j_iadd (pc := 36) hC d_m_row_36 ?_
        refine jp_M_66 (pc := 37) hC d_m_row_37 ?_
        refine j_lload5 (pc := 40) hC d_m_row_40 ?_
        refine j_ldc2 (pc := 42) (v := 1000000000) hC mk_M_69 d_m_row_42 ?_
        refine j_ldiv (pc := 45) hC d_m_row_45 (by decide) ?_
        refine J.topl (pk_lDiv (b := 1000000000) (by omega) (by omega) (by omega)) ?_
        refine j_lstore5 (pc := 46) hC d_m_row_46 (by decide) (by first | exact trivial | exact rfl) ?_
        refine j_goto (pc := 48) hC 8 d_m_row_48 (by decide) ?_
        refine J.to rfl rfl rfl ?_ (ih (n + 1) (v + x % 1000000000 * 1000000000 ^ n) (x / 1000000000) (vp_updL lm2 n (lN (x % 1000000000))) (by omega) ?_ ?_ (mlb_push hB (Nat.mod_lt _ (by omega))))
        · rw [nI_1, hcl]
        · rw [Nat.div_lt_iff_lt_mul (by omega), ← Nat.pow_succ]
          exact hx
        · rw [← hv, Nat.pow_succ, Nat.add_assoc]
          congr 1
          have h5 : x / 1000000000 * (1000000000 ^ n * 1000000000) = (1000000000 * (x / 1000000000)) * 1000000000 ^ n := by ac_rfl
          rw [h5, ← Nat.add_mul]
          congr 1
          have := Nat.div_add_mod x 1000000000
          omega
  refine j_aloadn0 (pc := 0) hC d_m_row_0 ?_
  refine j_iconst (pc := 1) (v := 0) hC d_m_row_1 (by decide) ?_
  refine jp_M_66 (pc := 2) hC d_m_row_2 ?_
  refine j_lloadn1 (pc := 5) hC d_m_row_5 ?_
  refine j_lstore5 (pc := 6) hC d_m_row_6 (by decide) (by first | exact trivial | exact rfl) ?_
  refine k8 2 0 0 cc lm rfl ?_ ?_ (mlb_0 lm)
  · exact hcc
  · rw [Nat.pow_zero, Nat.mul_one, Nat.zero_add]
end MR

