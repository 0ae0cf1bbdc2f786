/-! THE LAW'S HELPERS -/
def tyL (ca : Nat → ClassId) : List (ClassId × FieldType) := (ca 8, .long) :: (ca 9, .int) :: (tyD ca ++ tyM ca)
theorem tyL_D (ca : Nat → ClassId) : ∀ x, x ∈ tyD ca → x ∈ tyL ca := fun x h => List.mem_cons_of_mem _ (List.mem_cons_of_mem _ (List.mem_append_left _ h))
theorem tyL_M (ca : Nat → ClassId) : ∀ x, x ∈ tyM ca → x ∈ tyL ca := fun x h => List.mem_cons_of_mem _ (List.mem_cons_of_mem _ (List.mem_append_right _ h))
/-- the law's out[1] -/
def outE (g : Nat → Nat) (ca : Nat → ClassId) (ov : Nat → Int64) : Nat × va_E := (g 20, .inl (ca 8, 1, .inr (.inl ov)))
theorem cw_L_7 : jwV "DecimalReaderLaw" 7 y_feed b_feed 6 (some .int) 5 := ⟨⟨by decide +kernel, by decide +kernel, by decide +kernel, ⟨by decide, by decide⟩, by decide +kernel⟩, by decide +kernel, by decide +kernel⟩
theorem cw_L_15 : jwV "DecimalReaderLaw" 15 y_end b_end 2 (some .int) 1 := ⟨⟨by decide +kernel, by decide +kernel, by decide +kernel, ⟨by decide, by decide⟩, by decide +kernel⟩, by decide +kernel, by decide +kernel⟩
theorem cw_L_21 : jwV "DecimalReaderLaw" 21 y_parse b_parse 1 (some .long) 0 := ⟨⟨by decide +kernel, by decide +kernel, by decide +kernel, ⟨by decide, by decide⟩, by decide +kernel⟩, by decide +kernel, by decide +kernel⟩
theorem cw_L_27 : jwV "DecimalReaderLaw" 27 y_parseFloat b_parseFloat 1 (some .int) 0 := ⟨⟨by decide +kernel, by decide +kernel, by decide +kernel, ⟨by decide, by decide⟩, by decide +kernel⟩, by decide +kernel, by decide +kernel⟩
theorem cl_L_13 : Cond.classLink "DecimalReaderLaw" 13 "java/lang/IndexOutOfBoundsException" ∈ al_ws := by decide +kernel
theorem cl_L_19 : Cond.classLink "DecimalReaderLaw" 19 "java/lang/IllegalArgumentException" ∈ al_ws := by decide +kernel
theorem cl_L_25 : Cond.classLink "DecimalReaderLaw" 25 "java/lang/UnsupportedOperationException" ∈ al_ws := by decide +kernel
section LH
variable {l : Launch} {D : va_G} {X : jX} {g : Nat → Nat} {ca : Nat → ClassId} {len ps sp ng fm df dt wg ex hg mo : Int32} {tp lb wo : Nat → Int32} {ov : Nat → Int64}
set_option maxHeartbeats 2000000 in
theorem c_l_feed (hl : l.stackTraces = false) (n : Nat) (v1 v2 v3 v4 v5 : Int32) (hN : n ≤ 8192) : jMH l y_l_feed b_l_feed 8 [(0, 16, 19, 13)] (rmX 7) D (tyL ca) X [.ref (g 0), .int v1, .int v2, .int v3, .int v4, .int v5, .ref (g 20)] (wd g ca (nI n) ps sp ng fm df dt wg ex hg mo tp lb wo ++ [outE g ca ov]) (fun r w => (n + 20 ≤ 8192 ∧ r = 0 ∧ w = wd g ca (nI (n + 20)) ps sp ng fm df dt wg ex hg mo (wr20 tp n v1 v2 v3 v4 v5) lb wo ++ [outE g ca (vp_updL ov 0 (nI (n + 20)).toInt64)]) ∨ (¬ n + 20 ≤ 8192 ∧ r = 1 ∧ w = wd g ca (nI n) ps sp ng fm df dt wg ex hg mo tp lb wo ++ [outE g ca ov])) := by
  refine jMH.of [some (.ref (g 0)), some (.int v1), some (.int v2), some (.int v3), some (.int v4), some (.int v5), some (.ref (g 20)), none] (by simp [jle, jent, Value.category]) rfl (Nat.le_of_ble_eq_true rfl) ?_
  intro p e s m args below meth c sz hC hW hT
  refine k_aload6 (pc := 0) hC d_l_feed_0 ?_
  refine k_iconst (pc := 2) (v := 0) hC d_l_feed_2 (by decide) ?_
  refine k_aloadn0 (pc := 3) hC d_l_feed_3 ?_
  refine k_iloadn1 (pc := 4) hC d_l_feed_4 ?_
  refine k_iloadn2 (pc := 5) hC d_l_feed_5 ?_
  refine k_iloadn3 (pc := 6) hC d_l_feed_6 ?_
  refine k_iload4 (pc := 7) hC d_l_feed_7 ?_
  refine k_iload5 (pc := 9) hC d_l_feed_9 ?_
  refine k_callXi (pc := 11) (As := [.int v1, .int v2, .int v3, .int v4, .int v5]) (q0 := 0) (ci := 0) hC hW cw_L_7 ⟨rfl, rfl, by decide, Nat.le_of_ble_eq_true rfl⟩ rfl (Nat.le_of_ble_eq_true rfl) rfl rfl d_l_feed_11 (jMXi.frame [] [outE g ca ov] (tyL_D ca) (c_feed hl n v1 v2 v3 v4 v5 hN)) ⟨by decide, by decide⟩ hT (by decide) (by decide) cl_L_13 (hW.use _ (by decide)) (fun w' q9 h => ?_) (fun r w' h => ?_)
  · obtain ⟨u, ⟨h1, rfl⟩, rfl⟩ := h
    show JC _ _ _ _ _ _ _ _ _ _ _ _ _ _ _ _ 19 _ _ _
    refine k_astore7 (pc := 19) hC d_l_feed_19 (by decide) (by first | exact trivial | exact rfl) ?_
    refine k_iconst (pc := 21) (v := 1) hC d_l_feed_21 (by decide) ?_
    exact k_iretH hC (by decide) (by decide) d_l_feed_22 (Or.inr ⟨h1, rfl, rfl⟩)
  · obtain ⟨u, ⟨h1, rfl, rfl⟩, rfl⟩ := h
    refine k_i2l (pc := 14) hC d_l_feed_14 ?_
    refine k_last (pc := 15) (q0 := 7) (t0 := 0) hC rfl rfl (vp_in_nI (n := 0) (N := 1) (by decide) (by decide)) rfl d_l_feed_15 ?_
    refine k_goto (pc := 16) hC 23 d_l_feed_16 (by decide) ?_
    refine k_iconst (pc := 23) (v := 0) hC d_l_feed_23 (by decide) ?_
    exact k_iretH hC (by decide) (by decide) d_l_feed_24 (Or.inl ⟨h1, rfl, rfl⟩)
set_option maxHeartbeats 2000000 in
theorem c_l_end (hl : l.stackTraces = false) (n : Nat) (v : Int32) (hN : n ≤ 8192) : jMH l y_l_end b_l_end 4 [(0, 9, 12, 19)] (rmX 7) D (tyL ca) X [.ref (g 0), .int v, .ref (g 20)] (wd g ca (nI n) ps sp ng fm df dt wg ex hg mo tp lb wo ++ [outE g ca ov]) (fun r w => ((0 ≤ v.toInt ∧ v.toInt ≤ n) ∧ r = 0 ∧ w = wd g ca (v) ps sp ng fm df dt wg ex hg mo tp lb wo ++ [outE g ca (vp_updL ov 0 v.toInt64)]) ∨ (¬ (0 ≤ v.toInt ∧ v.toInt ≤ n) ∧ r = 1 ∧ w = wd g ca (nI n) ps sp ng fm df dt wg ex hg mo tp lb wo ++ [outE g ca ov])) := by
  refine jMH.of [some (.ref (g 0)), some (.int v), some (.ref (g 20)), none] (by simp [jle, jent, Value.category]) rfl (Nat.le_of_ble_eq_true rfl) ?_
  intro p e s m args below meth c sz hC hW hT
  refine k_aloadn2 (pc := 0) hC d_l_end_0 ?_
  refine k_iconst (pc := 1) (v := 0) hC d_l_end_1 (by decide) ?_
  refine k_aloadn0 (pc := 2) hC d_l_end_2 ?_
  refine k_iloadn1 (pc := 3) hC d_l_end_3 ?_
  refine k_callXi (pc := 4) (As := [.int v]) (q0 := 0) (ci := 0) hC hW cw_L_15 ⟨rfl, rfl, by decide, Nat.le_of_ble_eq_true rfl⟩ rfl (Nat.le_of_ble_eq_true rfl) rfl rfl d_l_end_4 (jMXi.frame [] [outE g ca ov] (tyL_D ca) (c_end hl n v hN)) ⟨by decide, by decide⟩ hT (by decide) (by decide) cl_L_19 (hW.use _ (by decide)) (fun w' q9 h => ?_) (fun r w' h => ?_)
  · obtain ⟨u, ⟨h1, rfl⟩, rfl⟩ := h
    show JC _ _ _ _ _ _ _ _ _ _ _ _ _ _ _ _ 12 _ _ _
    refine k_astoren3 (pc := 12) hC d_l_end_12 (by decide) (by first | exact trivial | exact rfl) ?_
    refine k_iconst (pc := 13) (v := 1) hC d_l_end_13 (by decide) ?_
    exact k_iretH hC (by decide) (by decide) d_l_end_14 (Or.inr ⟨h1, rfl, rfl⟩)
  · obtain ⟨u, ⟨h1, rfl, rfl⟩, rfl⟩ := h
    refine k_i2l (pc := 7) hC d_l_end_7 ?_
    refine k_last (pc := 8) (q0 := 7) (t0 := 0) hC rfl rfl (vp_in_nI (n := 0) (N := 1) (by decide) (by decide)) rfl d_l_end_8 ?_
    refine k_goto (pc := 9) hC 15 d_l_end_9 (by decide) ?_
    refine k_iconst (pc := 15) (v := 0) hC d_l_end_15 (by decide) ?_
    exact k_iretH hC (by decide) (by decide) d_l_end_16 (Or.inl ⟨h1, rfl, rfl⟩)
set_option maxHeartbeats 2000000 in
theorem c_l_parse (hl : l.stackTraces = false) (n : Nat) (hN : n ≤ 8192) : jMH l y_l_parse b_l_parse 3 [(0, 7, 10, 25)] (rmX 9) D (tyL ca) X [.ref (g 0), .ref (g 20)] (wd g ca (nI n) ps sp ng fm df dt wg ex hg mo tp lb wo ++ [outE g ca ov]) (fun r w => (∃ r' : Int64, ∃ (a z b : Nat) (mi : Bool) (ps2 fm2 df2 dt2 wg2 ex2 hg2 mo2 : Int32) (lb2 wo2 : Nat → Int32), scB tp n a z b mi ∧ isN tp b z ∧ ansR 52 14 9218868437227405312 9221120237041090560 (-9223372036854775808) tp b z mi r' ∧ r = 0 ∧ w = wd g ca (0) (ps2) (nI z) (if mi then 1 else 0) (fm2) (df2) (dt2) (wg2) (ex2) (hg2) (mo2) tp (lb2) (wo2) ++ [outE g ca (vp_updL ov 0 r')]) ∨ (∃ (a z b : Nat) (mi : Bool) (ps2 fm2 df2 dt2 wg2 ex2 hg2 mo2 : Int32) (lb2 wo2 : Nat → Int32), scB tp n a z b mi ∧ ¬ isN tp b z ∧ r = 1 ∧ w = wd g ca (0) (ps2) (nI z) (if mi then 1 else 0) (fm2) (df2) (dt2) (wg2) (ex2) (hg2) (mo2) tp (lb2) (wo2) ++ [outE g ca ov])) := by
  refine jMH.of [some (.ref (g 0)), some (.ref (g 20)), none] (by simp [jle, jent, Value.category]) rfl (Nat.le_of_ble_eq_true rfl) ?_
  intro p e s m args below meth c sz hC hW hT
  refine k_aloadn1 (pc := 0) hC d_l_parse_0 ?_
  refine k_iconst (pc := 1) (v := 0) hC d_l_parse_1 (by decide) ?_
  refine k_aloadn0 (pc := 2) hC d_l_parse_2 ?_
  refine k_callXl (pc := 3) (As := []) (q0 := 0) (ci := 0) hC hW cw_L_21 ⟨rfl, rfl, by decide, Nat.le_of_ble_eq_true rfl⟩ rfl (Nat.le_of_ble_eq_true rfl) rfl rfl d_l_parse_3 (jMXl.frame [] [outE g ca ov] (tyL_D ca) (c_parse hl n hN)) ⟨by decide, by decide⟩ hT (by decide) (by decide) cl_L_25 (hW.use _ (by decide)) (fun w' q9 h => ?_) (fun r w' h => ?_)
  · obtain ⟨u, ⟨a, z, b, mi, ps2, fm2, df2, dt2, wg2, ex2, hg2, mo2, lb2, wo2, h1, h2, rfl⟩, rfl⟩ := h
    show JC _ _ _ _ _ _ _ _ _ _ _ _ _ _ _ _ 10 _ _ _
    refine k_astoren2 (pc := 10) hC d_l_parse_10 (by decide) (by first | exact trivial | exact rfl) ?_
    refine k_iconst (pc := 11) (v := 1) hC d_l_parse_11 (by decide) ?_
    exact k_iretH hC (by decide) (by decide) d_l_parse_12 (Or.inr ⟨a, z, b, mi, ps2, fm2, df2, dt2, wg2, ex2, hg2, mo2, lb2, wo2, h1, h2, rfl, rfl⟩)
  · obtain ⟨u, ⟨a, z, b, mi, ps2, fm2, df2, dt2, wg2, ex2, hg2, mo2, lb2, wo2, h1, h2, h3, rfl⟩, rfl⟩ := h
    refine k_last (pc := 6) (q0 := 7) (t0 := 0) hC rfl rfl (vp_in_nI (n := 0) (N := 1) (by decide) (by decide)) rfl d_l_parse_6 ?_
    refine k_goto (pc := 7) hC 13 d_l_parse_7 (by decide) ?_
    refine k_iconst (pc := 13) (v := 0) hC d_l_parse_13 (by decide) ?_
    exact k_iretH hC (by decide) (by decide) d_l_parse_14 (Or.inl ⟨r, a, z, b, mi, ps2, fm2, df2, dt2, wg2, ex2, hg2, mo2, lb2, wo2, h1, h2, h3, rfl, rfl⟩)
set_option maxHeartbeats 2000000 in
theorem c_l_parseFloat (hl : l.stackTraces = false) (n : Nat) (hN : n ≤ 8192) : jMH l y_l_parseFloat b_l_parseFloat 3 [(0, 8, 11, 25)] (rmX 9) D (tyL ca) X [.ref (g 0), .ref (g 20)] (wd g ca (nI n) ps sp ng fm df dt wg ex hg mo tp lb wo ++ [outE g ca ov]) (fun r w => (∃ r' : Int64, ∃ (a z b : Nat) (mi : Bool) (ps2 fm2 df2 dt2 wg2 ex2 hg2 mo2 : Int32) (lb2 wo2 : Nat → Int32), scB tp n a z b mi ∧ isN tp b z ∧ ansR 23 939 2139095040 2143289344 2147483648 tp b z mi r' ∧ r = 0 ∧ w = wd g ca (0) (ps2) (nI z) (if mi then 1 else 0) (fm2) (df2) (dt2) (wg2) (ex2) (hg2) (mo2) tp (lb2) (wo2) ++ [outE g ca (vp_updL ov 0 r'.toInt32.toInt64)]) ∨ (∃ (a z b : Nat) (mi : Bool) (ps2 fm2 df2 dt2 wg2 ex2 hg2 mo2 : Int32) (lb2 wo2 : Nat → Int32), scB tp n a z b mi ∧ ¬ isN tp b z ∧ r = 1 ∧ w = wd g ca (0) (ps2) (nI z) (if mi then 1 else 0) (fm2) (df2) (dt2) (wg2) (ex2) (hg2) (mo2) tp (lb2) (wo2) ++ [outE g ca ov])) := by
  refine jMH.of [some (.ref (g 0)), some (.ref (g 20)), none] (by simp [jle, jent, Value.category]) rfl (Nat.le_of_ble_eq_true rfl) ?_
  intro p e s m args below meth c sz hC hW hT
  refine k_aloadn1 (pc := 0) hC d_l_parseFloat_0 ?_
  refine k_iconst (pc := 1) (v := 0) hC d_l_parseFloat_1 (by decide) ?_
  refine k_aloadn0 (pc := 2) hC d_l_parseFloat_2 ?_
  refine k_callXi (pc := 3) (As := []) (q0 := 0) (ci := 0) hC hW cw_L_27 ⟨rfl, rfl, by decide, Nat.le_of_ble_eq_true rfl⟩ rfl (Nat.le_of_ble_eq_true rfl) rfl rfl d_l_parseFloat_3 (jMXi.frame [] [outE g ca ov] (tyL_D ca) (c_parseFloat hl n hN)) ⟨by decide, by decide⟩ hT (by decide) (by decide) cl_L_25 (hW.use _ (by decide)) (fun w' q9 h => ?_) (fun r w' h => ?_)
  · obtain ⟨u, ⟨a, z, b, mi, ps2, fm2, df2, dt2, wg2, ex2, hg2, mo2, lb2, wo2, h1, h2, rfl⟩, rfl⟩ := h
    show JC _ _ _ _ _ _ _ _ _ _ _ _ _ _ _ _ 11 _ _ _
    refine k_astoren2 (pc := 11) hC d_l_parseFloat_11 (by decide) (by first | exact trivial | exact rfl) ?_
    refine k_iconst (pc := 12) (v := 1) hC d_l_parseFloat_12 (by decide) ?_
    exact k_iretH hC (by decide) (by decide) d_l_parseFloat_13 (Or.inr ⟨a, z, b, mi, ps2, fm2, df2, dt2, wg2, ex2, hg2, mo2, lb2, wo2, h1, h2, rfl, rfl⟩)
  · obtain ⟨u, ⟨r', rfl, a, z, b, mi, ps2, fm2, df2, dt2, wg2, ex2, hg2, mo2, lb2, wo2, h1, h2, h3, rfl⟩, rfl⟩ := h
    refine k_i2l (pc := 6) hC d_l_parseFloat_6 ?_
    refine k_last (pc := 7) (q0 := 7) (t0 := 0) hC rfl rfl (vp_in_nI (n := 0) (N := 1) (by decide) (by decide)) rfl d_l_parseFloat_7 ?_
    refine k_goto (pc := 8) hC 14 d_l_parseFloat_8 (by decide) ?_
    refine k_iconst (pc := 14) (v := 0) hC d_l_parseFloat_14 (by decide) ?_
    exact k_iretH hC (by decide) (by decide) d_l_parseFloat_15 (Or.inl ⟨r', a, z, b, mi, ps2, fm2, df2, dt2, wg2, ex2, hg2, mo2, lb2, wo2, h1, h2, h3, rfl, rfl⟩)
end LH

