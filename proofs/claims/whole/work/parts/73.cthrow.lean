/-! THE CLASS: feed, end, parse, parseFloat -/
section CT
variable {l : Launch} {D : va_G} {X : jX} {g : Nat → Nat} {ca : Nat → ClassId} {len ps sp ng fm df dt wg ex hg mo : Int32} {tp lb wo : Nat → Int32}
set_option maxHeartbeats 2000000 in
theorem c_feed (hl : l.stackTraces = false) (n : Nat) (v1 v2 v3 v4 v5 : Int32) (hN : n ≤ 8192) : jMXi l y_feed b_feed 6 (rmX 6) D (tyD ca) X [.ref (g 0), .int v1, .int v2, .int v3, .int v4, .int v5] (wd g ca (nI n) ps sp ng fm df dt wg ex hg mo tp lb wo) (fun r w => n + 20 ≤ 8192 ∧ r = nI (n + 20) ∧ w = wd g ca (nI (n + 20)) ps sp ng fm df dt wg ex hg mo (wr20 tp n v1 v2 v3 v4 v5) lb wo) "java/lang/IndexOutOfBoundsException" (fun w => ¬ n + 20 ≤ 8192 ∧ w = wd g ca (nI n) ps sp ng fm df dt wg ex hg mo tp lb wo) := by
  refine jMXi.of [some (.ref (g 0)), some (.int v1), some (.int v2), some (.int v3), some (.int v4), some (.int v5)] (by simp [jle, jent, Value.category]) rfl (Nat.le_of_ble_eq_true rfl) ?_
  intro p e s m args below meth c sz hC hW hT
  obtain ⟨a1, a2, a3, r1, r2, r3⟩ := (jC_str hC).2
  refine j_aloadn0 (pc := 0) hC d_feed_0 ?_
  refine jg_R_32 (pc := 1) hC d_feed_1 ?_
  refine j_sipush (pc := 4) (v := 8172) hC d_feed_4 (by decide) ?_
  refine j_icmp_le (pc := 7) hC 20 d_feed_7 (by decide) (fun h1 => ?_) (fun h1 => ?_)
  · have h1 := (nI_leI (b := 8172) (by omega) (by omega)).mp h1
    refine j_aloadn0 (pc := 20) hC d_feed_20 ?_
    refine j_iloadn1 (pc := 21) hC d_feed_21 ?_
    refine j_V1v (pc := 22) (q0 := 0) (ci := 0) hC cw_R_43 (rmX_in (by decide)) (Nat.le_of_ble_eq_true rfl) rfl rfl d_feed_22 (c_appendBytes n v1 (by omega)) (fun w2 h2 => ?_)
    subst h2
    refine j_aloadn0 (pc := 25) hC d_feed_25 ?_
    refine j_iloadn2 (pc := 26) hC d_feed_26 ?_
    refine j_V1v (pc := 27) (q0 := 0) (ci := 0) hC cw_R_43 (rmX_in (by decide)) (Nat.le_of_ble_eq_true rfl) rfl rfl d_feed_27 (c_appendBytes (n + 4) v2 (by omega)) (fun w2 h2 => ?_)
    subst h2
    refine j_aloadn0 (pc := 30) hC d_feed_30 ?_
    refine j_iloadn3 (pc := 31) hC d_feed_31 ?_
    refine j_V1v (pc := 32) (q0 := 0) (ci := 0) hC cw_R_43 (rmX_in (by decide)) (Nat.le_of_ble_eq_true rfl) rfl rfl d_feed_32 (c_appendBytes (n + 8) v3 (by omega)) (fun w2 h2 => ?_)
    subst h2
    refine j_aloadn0 (pc := 35) hC d_feed_35 ?_
    refine j_iload4 (pc := 36) hC d_feed_36 ?_
    refine j_V1v (pc := 38) (q0 := 0) (ci := 0) hC cw_R_43 (rmX_in (by decide)) (Nat.le_of_ble_eq_true rfl) rfl rfl d_feed_38 (c_appendBytes (n + 12) v4 (by omega)) (fun w2 h2 => ?_)
    subst h2
    refine j_aloadn0 (pc := 41) hC d_feed_41 ?_
    refine j_iload5 (pc := 42) hC d_feed_42 ?_
    refine j_V1v (pc := 44) (q0 := 0) (ci := 0) hC cw_R_43 (rmX_in (by decide)) (Nat.le_of_ble_eq_true rfl) rfl rfl d_feed_44 (c_appendBytes (n + 16) v5 (by omega)) (fun w2 h2 => ?_)
    subst h2
    refine j_aloadn0 (pc := 47) hC d_feed_47 ?_
    refine jg_R_32 (pc := 48) hC d_feed_48 ?_
    exact j_iretX hC d_feed_51 ⟨by omega, rfl, rfl⟩
  · have h1 : ¬ n ≤ 8172 := fun y => h1 ((nI_leI (b := 8172) (by omega) (by omega)).mpr y)
    exact j_throwS (pc := 10) hl hC hW hT (by decide) at_38 ab_38 ot_38 r1 d_feed_10 d_feed_13 d_feed_14 d_feed_16 d_feed_19 (by decide) (Nat.le_of_ble_eq_true rfl) (Nat.le_of_ble_eq_true rfl) (Nat.le_of_ble_eq_true rfl) ⟨by omega, rfl⟩
set_option maxHeartbeats 2000000 in
theorem c_end (hl : l.stackTraces = false) (n : Nat) (v : Int32) (hN : n ≤ 8192) : jMXi l y_end b_end 2 (rmX 6) D (tyD ca) X [.ref (g 0), .int v] (wd g ca (nI n) ps sp ng fm df dt wg ex hg mo tp lb wo) (fun r w => (0 ≤ v.toInt ∧ v.toInt ≤ n) ∧ r = v ∧ w = wd g ca (v) ps sp ng fm df dt wg ex hg mo tp lb wo) "java/lang/IllegalArgumentException" (fun w => ¬ (0 ≤ v.toInt ∧ v.toInt ≤ n) ∧ w = wd g ca (nI n) ps sp ng fm df dt wg ex hg mo tp lb wo) := by
  refine jMXi.of [some (.ref (g 0)), some (.int v)] (by simp [jle, jent, Value.category]) rfl (Nat.le_of_ble_eq_true rfl) ?_
  intro p e s m args below meth c sz hC hW hT
  obtain ⟨a1, a2, a3, r1, r2, r3⟩ := (jC_str hC).2
  have ez : (0 : Int32).toInt = 0 := rfl
  have en' : (nI n).toInt = (n : Int) := nI_toInt (by omega)
  refine j_iloadn1 (pc := 0) hC d_end_0 ?_
  refine j_if_lt (pc := 1) hC 12 d_end_1 (by decide) (fun h1 => ?_) (fun h1 => ?_)
  · rw [i32lt, ez] at h1
    exact j_throwS (pc := 12) hl hC hW hT (by decide) at_49 ab_49 ot_49 r2 d_end_12 d_end_15 d_end_16 d_end_18 d_end_21 (by decide) (Nat.le_of_ble_eq_true rfl) (Nat.le_of_ble_eq_true rfl) (Nat.le_of_ble_eq_true rfl) ⟨by omega, rfl⟩
  · rw [i32lt, ez] at h1
    refine j_iloadn1 (pc := 4) hC d_end_4 ?_
    refine j_aloadn0 (pc := 5) hC d_end_5 ?_
    refine jg_R_32 (pc := 6) hC d_end_6 ?_
    refine j_icmp_le (pc := 9) hC 22 d_end_9 (by decide) (fun h2 => ?_) (fun h2 => ?_)
    · rw [i32le, en'] at h2
      refine j_aloadn0 (pc := 22) hC d_end_22 ?_
      refine j_iloadn1 (pc := 23) hC d_end_23 ?_
      refine jp_R_32 (pc := 24) hC d_end_24 ?_
      refine j_iloadn1 (pc := 27) hC d_end_27 ?_
      exact j_iretX hC d_end_28 ⟨by omega, rfl, rfl⟩
    · rw [i32le, en'] at h2
      exact j_throwS (pc := 12) hl hC hW hT (by decide) at_49 ab_49 ot_49 r2 d_end_12 d_end_15 d_end_16 d_end_18 d_end_21 (by decide) (Nat.le_of_ble_eq_true rfl) (Nat.le_of_ble_eq_true rfl) (Nat.le_of_ble_eq_true rfl) ⟨by omega, rfl⟩
set_option maxHeartbeats 2000000 in
theorem c_parse (hl : l.stackTraces = false) (n : Nat) (hN : n ≤ 8192) : jMXl l y_parse b_parse 1 (rmX 8) D (tyD ca) X [.ref (g 0)] (wd g ca (nI n) ps sp ng fm df dt wg ex hg mo tp lb wo) (fun r w => ∃ (a z b : Nat) (mi : Bool) (ps2 fm2 df2 dt2 wg2 ex2 hg2 mo2 : Int32) (lb2 wo2 : Nat → Int32), scB tp n a z b mi ∧ isN tp b z ∧ ansR 52 14 9218868437227405312 9221120237041090560 (-9223372036854775808) tp b z mi r ∧ w = wd g ca (0) (ps2) (nI z) (if mi then 1 else 0) (fm2) (df2) (dt2) (wg2) (ex2) (hg2) (mo2) tp (lb2) (wo2)) "java/lang/UnsupportedOperationException" (fun w => ∃ (a z b : Nat) (mi : Bool) (ps2 fm2 df2 dt2 wg2 ex2 hg2 mo2 : Int32) (lb2 wo2 : Nat → Int32), scB tp n a z b mi ∧ ¬ isN tp b z ∧ w = wd g ca (0) (ps2) (nI z) (if mi then 1 else 0) (fm2) (df2) (dt2) (wg2) (ex2) (hg2) (mo2) tp (lb2) (wo2)) := by
  refine jMXl.of [some (.ref (g 0))] (by simp [jle, jent, Value.category]) rfl (Nat.le_of_ble_eq_true rfl) ?_
  intro p e s m args below meth c sz hC hW hT
  obtain ⟨a1, a2, a3, r1, r2, r3⟩ := (jC_str hC).2
  refine j_aloadn0 (pc := 0) hC d_parse_0 ?_
  refine j_V0i (pc := 1) (q0 := 0) (ci := 0) hC cw_R_52 (rmX_in (by decide)) (Nat.le_of_ble_eq_true rfl) rfl rfl d_parse_1 (c_readTape n hN) (fun r w2 h1 => ?_)
  obtain ⟨a, z, b, mi, ps2, fm2, df2, dt2, wg2, ex2, hg2, mo2, lb2, wo2, hB, hR, rfl⟩ := h1
  rcases hR with ⟨hY, rfl, hok⟩ | ⟨hNo, rfl⟩
  · refine j_if_ne (pc := 4) hC 17 d_parse_4 (by decide) (fun q => ?_) (fun q => ?_)
    · refine j_aloadn0 (pc := 17) hC d_parse_17 ?_
      refine j_aloadn0 (pc := 18) hC d_parse_18 ?_
      refine jg_R_12 (pc := 19) hC d_parse_19 ?_
      refine j_V1l (pc := 22) (q0 := 0) (ci := 0) hC cw_R_61 (rmX_in (by decide)) (Nat.le_of_ble_eq_true rfl) rfl rfl d_parse_22 (c_answerAs_d tp b z mi hok) (fun r w2 h2 => ?_)
      obtain ⟨h2, rfl⟩ := h2
      exact j_lretX hC d_parse_25 ⟨a, z, b, mi, ps2, fm2, df2, dt2, wg2, ex2, hg2, mo2, lb2, wo2, hB, hY, h2, rfl⟩
    · exact absurd q (by decide)
  · refine j_if_ne (pc := 4) hC 17 d_parse_4 (by decide) (fun q => ?_) (fun q => ?_)
    · exact absurd rfl q
    · exact j_throwS (pc := 7) hl hC hW hT (by decide) at_58 ab_58 ot_58 r3 d_parse_7 d_parse_10 d_parse_11 d_parse_13 d_parse_16 (by decide) (Nat.le_of_ble_eq_true rfl) (Nat.le_of_ble_eq_true rfl) (Nat.le_of_ble_eq_true rfl) ⟨a, z, b, mi, ps2, fm2, df2, dt2, wg2, ex2, hg2, mo2, lb2, wo2, hB, hNo, rfl⟩
set_option maxHeartbeats 2000000 in
theorem c_parseFloat (hl : l.stackTraces = false) (n : Nat) (hN : n ≤ 8192) : jMXi l y_parseFloat b_parseFloat 1 (rmX 8) D (tyD ca) X [.ref (g 0)] (wd g ca (nI n) ps sp ng fm df dt wg ex hg mo tp lb wo) (fun r w => ∃ r' : Int64, r = r'.toInt32 ∧ ∃ (a z b : Nat) (mi : Bool) (ps2 fm2 df2 dt2 wg2 ex2 hg2 mo2 : Int32) (lb2 wo2 : Nat → Int32), scB tp n a z b mi ∧ isN tp b z ∧ ansR 23 939 2139095040 2143289344 2147483648 tp b z mi r' ∧ w = wd g ca (0) (ps2) (nI z) (if mi then 1 else 0) (fm2) (df2) (dt2) (wg2) (ex2) (hg2) (mo2) tp (lb2) (wo2)) "java/lang/UnsupportedOperationException" (fun w => ∃ (a z b : Nat) (mi : Bool) (ps2 fm2 df2 dt2 wg2 ex2 hg2 mo2 : Int32) (lb2 wo2 : Nat → Int32), scB tp n a z b mi ∧ ¬ isN tp b z ∧ w = wd g ca (0) (ps2) (nI z) (if mi then 1 else 0) (fm2) (df2) (dt2) (wg2) (ex2) (hg2) (mo2) tp (lb2) (wo2)) := by
  refine jMXi.of [some (.ref (g 0))] (by simp [jle, jent, Value.category]) rfl (Nat.le_of_ble_eq_true rfl) ?_
  intro p e s m args below meth c sz hC hW hT
  obtain ⟨a1, a2, a3, r1, r2, r3⟩ := (jC_str hC).2
  refine j_aloadn0 (pc := 0) hC d_parseFloat_0 ?_
  refine j_V0i (pc := 1) (q0 := 0) (ci := 0) hC cw_R_52 (rmX_in (by decide)) (Nat.le_of_ble_eq_true rfl) rfl rfl d_parseFloat_1 (c_readTape n hN) (fun r w2 h1 => ?_)
  obtain ⟨a, z, b, mi, ps2, fm2, df2, dt2, wg2, ex2, hg2, mo2, lb2, wo2, hB, hR, rfl⟩ := h1
  rcases hR with ⟨hY, rfl, hok⟩ | ⟨hNo, rfl⟩
  · refine j_if_ne (pc := 4) hC 17 d_parseFloat_4 (by decide) (fun q => ?_) (fun q => ?_)
    · refine j_aloadn0 (pc := 17) hC d_parseFloat_17 ?_
      refine j_aloadn0 (pc := 18) hC d_parseFloat_18 ?_
      refine jg_R_18 (pc := 19) hC d_parseFloat_19 ?_
      refine j_V1l (pc := 22) (q0 := 0) (ci := 0) hC cw_R_61 (rmX_in (by decide)) (Nat.le_of_ble_eq_true rfl) rfl rfl d_parseFloat_22 (c_answerAs_f tp b z mi hok) (fun r w2 h2 => ?_)
      obtain ⟨h2, rfl⟩ := h2
      refine j_l2i (pc := 25) hC d_parseFloat_25 ?_
      exact j_iretX hC d_parseFloat_26 ⟨_, rfl, a, z, b, mi, ps2, fm2, df2, dt2, wg2, ex2, hg2, mo2, lb2, wo2, hB, hY, h2, rfl⟩
    · exact absurd q (by decide)
  · refine j_if_ne (pc := 4) hC 17 d_parseFloat_4 (by decide) (fun q => ?_) (fun q => ?_)
    · exact absurd rfl q
    · exact j_throwS (pc := 7) hl hC hW hT (by decide) at_58 ab_58 ot_58 r3 d_parseFloat_7 d_parseFloat_10 d_parseFloat_11 d_parseFloat_13 d_parseFloat_16 (by decide) (Nat.le_of_ble_eq_true rfl) (Nat.le_of_ble_eq_true rfl) (Nat.le_of_ble_eq_true rfl) ⟨a, z, b, mi, ps2, fm2, df2, dt2, wg2, ex2, hg2, mo2, lb2, wo2, hB, hNo, rfl⟩
end CT

