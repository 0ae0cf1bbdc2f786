/-! THE CLASS: clear, placeDigit, placeDigits -/
section PL
variable {l : Launch} {D : va_G} {X : jX} {g : Nat → Nat} {ca : Nat → ClassId} {len ps sp ng fm df dt wg ex hg mo : Int32} {tp lb wo : Nat → Int32}
set_option maxHeartbeats 1000000 in
theorem c_fill_limbs : jM l y_a_fill b_a_fill 4 none (rmD 0) D (tyD ca) X [.ref (g 5), .int 0] (wd g ca len ps sp ng fm df dt wg ex hg mo tp lb wo) (jPv fun w => ∃ lb2 : Nat → Int32, (∀ i, i < 155 → lb2 i = 0) ∧ w = wd g ca len ps sp ng fm df dt wg ex hg mo tp (lb2) wo) := by
  refine jM.ofF [some (.ref (g 5)), some (.int 0), none, none] (by simp [jle, jent, Value.category]) rfl (Nat.le_of_ble_eq_true rfl) ?_
  intro p e s m args below meth c sz hC
  have loop : ∀ (n i : Nat) (lb2 : Nat → Int32), i + n = 155 → (∀ j, j < i → lb2 j = 0) → J p l e (rmD 0) s m args below meth c D (va_A (wd g ca len ps sp ng fm df dt wg ex hg mo tp lb wo) sz) 4 (MQ below (jQ D (wd g ca len ps sp ng fm df dt wg ex hg mo tp lb wo) sz (jPv fun w => ∃ lb2 : Nat → Int32, (∀ i, i < 155 → lb2 i = 0) ∧ w = wd g ca len ps sp ng fm df dt wg ex hg mo tp (lb2) wo)) args s 0 0 (va_A (wd g ca len ps sp ng fm df dt wg ex hg mo tp lb wo) sz)) 5 [some (.ref (g 5)), some (.int 0), some (.int (nI i)), some (.int (nI 155))] [] (wd g ca len ps sp ng fm df dt wg ex hg mo tp (lb2) wo) := by
    intro n
    induction n with
    | zero =>
      intro i lb2 hi hz
      refine j_iloadn2 (pc := 5) hC d_a_fill_5 ?_
      refine j_iloadn3 (pc := 6) hC d_a_fill_6 ?_
      refine j_icmp_ge (pc := 7) hC 20 d_a_fill_7 (by decide) (fun h => ?_) (fun h => ?_)
      · exact j_vret hC d_a_fill_20 ⟨rfl, lb2, fun j hj => hz j (by omega), rfl⟩
      · rw [nI_leI (by omega) (by omega)] at h
        omega
    | succ n ih =>
      intro i lb2 hi hz
      refine j_iloadn2 (pc := 5) hC d_a_fill_5 ?_
      refine j_iloadn3 (pc := 6) hC d_a_fill_6 ?_
      refine j_icmp_ge (pc := 7) hC 20 d_a_fill_7 (by decide) (fun h => ?_) (fun h => ?_)
      · rw [nI_leI (by omega) (by omega)] at h
        omega
      · refine j_aloadn0 (pc := 10) hC d_a_fill_10 ?_
        refine j_iloadn2 (pc := 11) hC d_a_fill_11 ?_
        refine j_iloadn1 (pc := 12) hC d_a_fill_12 ?_
        refine ja_limbs_iastore (pc := 13) hC (vp_in_nI (by omega) (by decide)) d_a_fill_13 ?_
        refine j_iinc2 (pc := 14) hC d_a_fill_14 (by decide) (by first | exact trivial | exact rfl) ?_
        refine j_goto (pc := 17) hC 5 d_a_fill_17 (by decide) ?_
        refine J.to rfl ?_ rfl rfl (ih (i + 1) (upd lb2 (nI i).toNatClampNeg 0) (by omega) (fun j hj => ?_))
        · rw [← nI_1]
          rfl
        · rw [nI_clamp (by omega)]
          unfold upd
          split
          · rfl
          · exact hz j (by omega)
  refine j_iconst (pc := 0) (v := 0) hC d_a_fill_0 (by decide) ?_
  refine j_istoren2 (pc := 1) hC d_a_fill_1 (by decide) (by first | exact trivial | exact rfl) ?_
  refine j_aloadn0 (pc := 2) hC d_a_fill_2 ?_
  refine j_alen (pc := 3) (q0 := 5) (t0 := 1) hC rfl rfl d_a_fill_3 ?_
  refine j_istoren3 (pc := 4) hC d_a_fill_4 (by decide) (by first | exact trivial | exact rfl) ?_
  exact loop 155 0 lb rfl (fun j hj => absurd hj (by omega))
set_option maxHeartbeats 1000000 in
theorem c_fill_words : jM l y_a_fill b_a_fill 4 none (rmD 0) D (tyD ca) X [.ref (g 6), .int 0] (wd g ca len ps sp ng fm df dt wg ex hg mo tp lb wo) (jPv fun w => ∃ wo2 : Nat → Int32, (∀ i, i < 67 → wo2 i = 0) ∧ w = wd g ca len ps sp ng fm df dt wg ex hg mo tp lb (wo2)) := by
  refine jM.ofF [some (.ref (g 6)), some (.int 0), none, none] (by simp [jle, jent, Value.category]) rfl (Nat.le_of_ble_eq_true rfl) ?_
  intro p e s m args below meth c sz hC
  have loop : ∀ (n i : Nat) (wo2 : Nat → Int32), i + n = 67 → (∀ j, j < i → wo2 j = 0) → J p l e (rmD 0) s m args below meth c D (va_A (wd g ca len ps sp ng fm df dt wg ex hg mo tp lb wo) sz) 4 (MQ below (jQ D (wd g ca len ps sp ng fm df dt wg ex hg mo tp lb wo) sz (jPv fun w => ∃ wo2 : Nat → Int32, (∀ i, i < 67 → wo2 i = 0) ∧ w = wd g ca len ps sp ng fm df dt wg ex hg mo tp lb (wo2))) args s 0 0 (va_A (wd g ca len ps sp ng fm df dt wg ex hg mo tp lb wo) sz)) 5 [some (.ref (g 6)), some (.int 0), some (.int (nI i)), some (.int (nI 67))] [] (wd g ca len ps sp ng fm df dt wg ex hg mo tp lb (wo2)) := by
    intro n
    induction n with
    | zero =>
      intro i wo2 hi hz
      refine j_iloadn2 (pc := 5) hC d_a_fill_5 ?_
      refine j_iloadn3 (pc := 6) hC d_a_fill_6 ?_
      refine j_icmp_ge (pc := 7) hC 20 d_a_fill_7 (by decide) (fun h => ?_) (fun h => ?_)
      · exact j_vret hC d_a_fill_20 ⟨rfl, wo2, fun j hj => hz j (by omega), rfl⟩
      · rw [nI_leI (by omega) (by omega)] at h
        omega
    | succ n ih =>
      intro i wo2 hi hz
      refine j_iloadn2 (pc := 5) hC d_a_fill_5 ?_
      refine j_iloadn3 (pc := 6) hC d_a_fill_6 ?_
      refine j_icmp_ge (pc := 7) hC 20 d_a_fill_7 (by decide) (fun h => ?_) (fun h => ?_)
      · rw [nI_leI (by omega) (by omega)] at h
        omega
      · refine j_aloadn0 (pc := 10) hC d_a_fill_10 ?_
        refine j_iloadn2 (pc := 11) hC d_a_fill_11 ?_
        refine j_iloadn1 (pc := 12) hC d_a_fill_12 ?_
        refine ja_words_iastore (pc := 13) hC (vp_in_nI (by omega) (by decide)) d_a_fill_13 ?_
        refine j_iinc2 (pc := 14) hC d_a_fill_14 (by decide) (by first | exact trivial | exact rfl) ?_
        refine j_goto (pc := 17) hC 5 d_a_fill_17 (by decide) ?_
        refine J.to rfl ?_ rfl rfl (ih (i + 1) (upd wo2 (nI i).toNatClampNeg 0) (by omega) (fun j hj => ?_))
        · rw [← nI_1]
          rfl
        · rw [nI_clamp (by omega)]
          unfold upd
          split
          · rfl
          · exact hz j (by omega)
  refine j_iconst (pc := 0) (v := 0) hC d_a_fill_0 (by decide) ?_
  refine j_istoren2 (pc := 1) hC d_a_fill_1 (by decide) (by first | exact trivial | exact rfl) ?_
  refine j_aloadn0 (pc := 2) hC d_a_fill_2 ?_
  refine j_alen (pc := 3) (q0 := 6) (t0 := 2) hC rfl rfl d_a_fill_3 ?_
  refine j_istoren3 (pc := 4) hC d_a_fill_4 (by decide) (by first | exact trivial | exact rfl) ?_
  exact loop 67 0 wo rfl (fun j hj => absurd hj (by omega))
theorem c_v_clear : jM l y_v_clear b_v_clear 1 none (rmD 1) D (tyD ca) X [.ref (g 3)] (wd g ca len ps sp ng fm df dt wg ex hg mo tp lb wo) (jPv fun w => ∃ lb2 wo2 : Nat → Int32, (∀ i, i < 155 → lb2 i = 0) ∧ (∀ i, i < 67 → wo2 i = 0) ∧ w = wd g ca len ps sp ng fm df dt wg ex (0) (0) tp (lb2) (wo2)) := by
  refine jM.of [some (.ref (g 3))] (by simp [jle, jent, Value.category]) rfl (Nat.le_of_ble_eq_true rfl) ?_
  intro p e s m args below meth c sz hC
  refine j_aloadn0 (pc := 0) hC d_v_clear_0 ?_
  refine jg_V_9 (pc := 1) hC d_v_clear_1 ?_
  refine j_iconst (pc := 4) (v := 0) hC d_v_clear_4 (by decide) ?_
  refine j_S2v (pc := 5) hC cw_V_23 (rmD_in (by decide)) (Nat.le_of_ble_eq_true rfl) d_v_clear_5 (c_fill_limbs) (fun w2 h1 => ?_)
  obtain ⟨lb2, h1, rfl⟩ := h1
  refine j_aloadn0 (pc := 8) hC d_v_clear_8 ?_
  refine jg_V_13 (pc := 9) hC d_v_clear_9 ?_
  refine j_iconst (pc := 12) (v := 0) hC d_v_clear_12 (by decide) ?_
  refine j_S2v (pc := 13) hC cw_V_23 (rmD_in (by decide)) (Nat.le_of_ble_eq_true rfl) d_v_clear_13 (c_fill_words) (fun w2 h2 => ?_)
  obtain ⟨wo2, h2, rfl⟩ := h2
  refine j_aloadn0 (pc := 16) hC d_v_clear_16 ?_
  refine j_iconst (pc := 17) (v := 0) hC d_v_clear_17 (by decide) ?_
  refine jp_V_16 (pc := 18) hC ⟨rfl,rfl⟩ d_v_clear_18 ?_
  refine j_aloadn0 (pc := 21) hC d_v_clear_21 ?_
  refine j_iconst (pc := 22) (v := 0) hC d_v_clear_22 (by decide) ?_
  refine jp_V_20 (pc := 23) hC ⟨rfl,rfl⟩ d_v_clear_23 ?_
  exact j_vret hC d_v_clear_26 ⟨rfl, lb2, wo2, h1, h2, rfl⟩
theorem c_placeDigit_hex (d : Nat) (wt : Int32) (e : Nat → Nat) (hd : d < 16) (hw : -1000000000 < wt.toInt ∧ wt.toInt < 1000000000) (he : ∀ n, e n < 2) (hWe : We wo e) (h0 : ∀ n : Nat, 1052 - wt.toInt ≤ (n : Int) → e n = 0) : jM l y_placeDigit b_placeDigit 3 none (rmD 3) D (tyD ca) X [.ref (g 0), .int (nI d), .int wt] (wd g ca len ps sp ng (3) df dt wg ex hg mo tp lb wo) (jPv fun w => ∃ (wo2 : Nat → Int32) (hg2 mo2 : Int32), We wo2 (eH e (1052 - wt.toInt) d 4) ∧ (hg2 ≠ 0 ↔ (hg ≠ 0 ∨ ∃ j : Nat, j < 4 ∧ d / 2 ^ j % 2 ≠ 0 ∧ 1052 - wt.toInt + 3 - (j : Int) < 0)) ∧ (mo2 ≠ 0 ↔ (mo ≠ 0 ∨ ∃ j : Nat, j < 4 ∧ d / 2 ^ j % 2 ≠ 0 ∧ 2144 ≤ 1052 - wt.toInt + 3 - (j : Int))) ∧ w = wd g ca len ps sp ng (3) df dt wg ex (hg2) (mo2) tp lb (wo2)) := by
  refine jM.of [some (.ref (g 0)), some (.int (nI d)), some (.int wt)] (by simp [jle, jent, Value.category]) rfl (Nat.le_of_ble_eq_true rfl) ?_
  intro p env s m args below meth c sz hC
  refine j_aloadn0 (pc := 0) hC d_placeDigit_0 ?_
  refine jg_R_68 (pc := 1) hC d_placeDigit_1 ?_
  refine j_iconst (pc := 4) (v := 3) hC d_placeDigit_4 (by decide) ?_
  refine j_icmp_ne (pc := 5) hC 20 d_placeDigit_5 (by decide) (fun h1 => ?_) (fun h1 => ?_)
  · exact absurd rfl h1
  · refine j_aloadn0 (pc := 8) hC d_placeDigit_8 ?_
    refine jg_R_24 (pc := 9) hC d_placeDigit_9 ?_
    refine j_iloadn1 (pc := 12) hC d_placeDigit_12 ?_
    refine j_iloadn2 (pc := 13) hC d_placeDigit_13 ?_
    refine j_V2v (pc := 14) (q0 := 3) (ci := 2) hC cw_R_179 (rmD_in (by decide)) (Nat.le_of_ble_eq_true rfl) rfl rfl d_placeDigit_14 (c_v_addHexDigit d wt e hd hw he hWe h0) (fun w2 h2 => ?_)
    obtain ⟨wo2, hg2, mo2, q1, q2, q3, rfl⟩ := h2
    refine j_goto (pc := 17) hC 29 d_placeDigit_17 (by decide) ?_
    exact j_vret hC d_placeDigit_29 ⟨rfl, wo2, hg2, mo2, q1, q2, q3, rfl⟩
theorem c_placeDigit_dec (d : Nat) (wt : Int32) (e : Nat → Nat) (hd : d < 10) (hLe : Le lb e) (h0 : ∀ n : Nat, (n : Int) = 314 - wt.toInt → e n = 0) : jM l y_placeDigit b_placeDigit 3 none (rmD 3) D (tyD ca) X [.ref (g 0), .int (nI d), .int wt] (wd g ca len ps sp ng (2) df dt wg ex hg mo tp lb wo) (jPv fun w => ∃ (lb2 : Nat → Int32) (hg2 mo2 : Int32), Le lb2 (eP 1395 e (314 - wt.toInt) d) ∧ (hg2 ≠ 0 ↔ (hg ≠ 0 ∨ (d ≠ 0 ∧ 314 - wt.toInt < 0))) ∧ (mo2 ≠ 0 ↔ (mo ≠ 0 ∨ (d ≠ 0 ∧ 1395 ≤ 314 - wt.toInt))) ∧ w = wd g ca len ps sp ng (2) df dt wg ex (hg2) (mo2) tp (lb2) wo) := by
  refine jM.of [some (.ref (g 0)), some (.int (nI d)), some (.int wt)] (by simp [jle, jent, Value.category]) rfl (Nat.le_of_ble_eq_true rfl) ?_
  intro p env s m args below meth c sz hC
  refine j_aloadn0 (pc := 0) hC d_placeDigit_0 ?_
  refine jg_R_68 (pc := 1) hC d_placeDigit_1 ?_
  refine j_iconst (pc := 4) (v := 3) hC d_placeDigit_4 (by decide) ?_
  refine j_icmp_ne (pc := 5) hC 20 d_placeDigit_5 (by decide) (fun h1 => ?_) (fun h1 => ?_)
  · refine j_aloadn0 (pc := 20) hC d_placeDigit_20 ?_
    refine jg_R_24 (pc := 21) hC d_placeDigit_21 ?_
    refine j_iloadn1 (pc := 24) hC d_placeDigit_24 ?_
    refine j_iloadn2 (pc := 25) hC d_placeDigit_25 ?_
    refine j_V2v (pc := 26) (q0 := 3) (ci := 2) hC cw_R_182 (rmD_in (by decide)) (Nat.le_of_ble_eq_true rfl) rfl rfl d_placeDigit_26 (c_v_addDecimalDigit d wt e hd hLe h0) (fun w2 h2 => ?_)
    obtain ⟨lb2, hg2, mo2, q1, q2, q3, rfl⟩ := h2
    exact j_vret hC d_placeDigit_29 ⟨rfl, lb2, hg2, mo2, q1, q2, q3, rfl⟩
  · exact absurd h1 (by decide)
end PL

