theorem scD_fun {t : Nat → Int32} {a z : Nat} {hx hx' : Bool} {c0 n1 n2 c2 c3 c0' n1' n2' c2' c3' : Nat} (h : scD t a z hx c0 n1 n2 c2 c3) (h' : scD t a z hx' c0' n1' n2' c2' c3') : hx = hx' ∧ c0 = c0' ∧ n1 = n1' ∧ n2 = n2' ∧ c2 = c2' ∧ c3 = c3' := by
  obtain ⟨h1, h2, h3, h4, h5⟩ := h
  obtain ⟨g1, g2, g3, g4, g5⟩ := h'
  have e0 : hx = hx' := by
    cases hx <;> cases hx'
    · rfl
    · exact absurd (h1.mpr (g1.mp rfl)) (by decide)
    · exact absurd (g1.mpr (h1.mp rfl)) (by decide)
    · rfl
  subst e0
  have e1 : c0 = c0' := by rw [h2, g2]
  subst e1
  have e2 : n1 = n1' := by rw [h3, g3]
  subst e2
  rcases h4 with ⟨a1, a2, a3⟩ | ⟨a1, a2, a3⟩ <;> rcases g4 with ⟨b1, b2, b3⟩ | ⟨b1, b2, b3⟩
  · have e3 : c2 = c2' := by rw [a2, b2]
    subst e3
    have e4 : n2 = n2' := by rw [a3, b3]
    subst e4
    exact ⟨rfl, rfl, rfl, rfl, rfl, by rw [h5, g5]⟩
  · exact absurd a1 b1
  · exact absurd b1 a1
  · exact ⟨rfl, rfl, rfl, by rw [a3, b3], by rw [a2, b2], by rw [h5, g5, a2, b2, a3, b3]⟩
theorem scE_fun {t : Nat → Int32} {c3 z : Nat} {hx ok ok' : Bool} {mi mi' : Prop} {c5 n3 c6 c5' n3' c6' : Nat} (h : scE t c3 z hx ok mi c5 n3 c6) (h' : scE t c3 z hx ok' mi' c5' n3' c6') : ok = ok' ∧ (mi ↔ mi') ∧ c5 = c5' ∧ n3 = n3' ∧ c6 = c6' := by
  rcases h with ⟨a0, a1, a2, a3, a4, a5⟩ | ⟨a0, a1, a2, a3, a4, a5⟩ <;> rcases h' with ⟨b0, b1, b2, b3, b4, b5⟩ | ⟨b0, b1, b2, b3, b4, b5⟩
  · exact ⟨by rw [a1, b1], ⟨fun q => absurd q a2, fun q => absurd q b2⟩, by rw [a3, b3], by rw [a4, b4], by rw [a5, b5]⟩
  · exact absurd b0 a0
  · exact absurd a0 b0
  · have e5 : c5 = c5' := by
      rcases a2 with ⟨x, y⟩ | ⟨x, y⟩ <;> rcases b2 with ⟨x', y'⟩ | ⟨x', y'⟩
      · rw [y, y']
      · exact absurd x x'
      · exact absurd x' x
      · rw [y, y']
    subst e5
    have e3 : n3 = n3' := by rw [a3, b3]
    subst e3
    exact ⟨by rw [a5, b5], a1.trans b1.symm, rfl, rfl, by rw [a4, b4]⟩
/-- what the scan of n bytes says -/
def scR (t : Nat → Int32) (a z b : Nat) (mi : Bool) (r fm2 df2 dt2 wg2 ex2 : Int32) : Prop :=
  (isW t b z 0 ∧ r = 1 ∧ fm2 = 0) ∨ (¬ isW t b z 0 ∧ isW t b z 1 ∧ r = 1 ∧ fm2 = 1) ∨
  (¬ isW t b z 0 ∧ ¬ isW t b z 1 ∧ ∃ (hx : Bool) (c0 n1 n2 c2 c3 : Nat) (me : Bool) (c5 n3 c6 : Nat), scN t b z hx c0 n1 n2 c2 c3 me c5 n3 c6 ∧ r = 1 ∧ fm2 = (if hx then 3 else 2) ∧ df2 = nI c0 ∧ dt2 = nI c3 ∧ wg2 = nI n1 ∧ ex2 = (if me then -nI (xC t c5 1000000 n3) else nI (xC t c5 1000000 n3))) ∨
  (¬ isW t b z 0 ∧ ¬ isW t b z 1 ∧ ¬ scNum t b z ∧ r = 0)
theorem scB_le {t : Nat → Int32} {n a z b : Nat} {mi : Bool} (h : scB t n a z b mi) : a ≤ b ∧ b ≤ z ∧ z ≤ n := by
  obtain ⟨h1, h2, -, h4⟩ := h
  have g1 := ld_ge t n 0
  have g2 := tr_ge t a (n - a)
  rcases h4 with ⟨q, e⟩ | ⟨q, e⟩
  · have : a < z := by rcases q with q | q <;> exact q.1
    omega
  · omega
section ST
variable {l : Launch} {D : va_G} {X : jX} {g : Nat → Nat} {ca : Nat → ClassId} {len ps sp ng fm df dt wg ex hg mo : Int32} {tp lb wo : Nat → Int32}
set_option maxHeartbeats 2000000 in
theorem c_scanText (n : Nat) (hn : n ≤ 8192) : jM l y_scanText b_scanText 1 (some .boolean) (rmD 6) D (tyD ca) X [.ref (g 0)] (wd g ca (nI n) ps sp ng fm df dt wg ex hg mo tp lb wo) (jPi fun r w => ∃ (a z b : Nat) (mi : Bool) (ps2 fm2 df2 dt2 wg2 ex2 : Int32), scB tp n a z b mi ∧ scR tp a z b mi r fm2 df2 dt2 wg2 ex2 ∧ w = wd g ca (nI n) (ps2) (nI z) (if mi then 1 else 0) (fm2) (df2) (dt2) (wg2) (ex2) hg mo tp lb wo) := by
  refine jM.of [some (.ref (g 0))] (by simp [jle, jent, Value.category]) rfl (Nat.le_of_ble_eq_true rfl) ?_
  intro p e s m args below meth c sz hC
  refine j_aloadn0 (pc := 0) hC d_scanText_0 ?_
  refine j_V0v (pc := 1) (q0 := 0) (ci := 0) hC cw_R_91 (rmD_in (by decide)) (Nat.le_of_ble_eq_true rfl) rfl rfl d_scanText_1 (c_leaveBlanksOut n hn) (fun w2 h1 => ?_)
  obtain rfl := h1
  have g1 := ld_ge tp n 0
  have g2 := tr_ge tp (ld tp 0 n) (n - ld tp 0 n)
  obtain ⟨a, ea⟩ : ∃ a, a = ld tp 0 n := ⟨_, rfl⟩
  rw [← ea] at g1 g2 ⊢
  obtain ⟨z, ez⟩ : ∃ z, z = tr tp a (n - a) := ⟨_, rfl⟩
  rw [← ez] at g2 ⊢
  refine j_aloadn0 (pc := 4) hC d_scanText_4 ?_
  refine j_aloadn0 (pc := 5) hC d_scanText_5 ?_
  refine j_V0i (pc := 6) (q0 := 0) (ci := 0) hC cw_R_94 (rmD_in (by decide)) (Nat.le_of_ble_eq_true rfl) rfl rfl d_scanText_6 (c_takeSign a z (by omega) (by omega)) (fun r w2 h2 => ?_)
  obtain ⟨b, h2, h3, rfl⟩ := h2
  obtain ⟨mi, hr, hmi⟩ : ∃ mi : Bool, r = (if mi then 1 else 0) ∧ (mi = true ↔ sgM tp a z) := by
    rcases h2 with ⟨q, e⟩ | ⟨q, e⟩
    · exact ⟨true, e, fun _ => q, fun _ => rfl⟩
    · exact ⟨false, e, fun y => (by cases y), fun y => absurd y q⟩
  subst hr
  have hB : scB tp n a z b mi := ⟨ea, ez, hmi, h3⟩
  have hble := scB_le hB
  refine jp_R_84 (pc := 9) hC (by cases mi <;> exact ⟨rfl,rfl⟩) d_scanText_9 ?_
  refine j_aloadn0 (pc := 12) hC d_scanText_12 ?_
  refine j_ldcS (pc := 13) hC (jC_str hC).1.1 d_scanText_13 ?_
  refine j_V1i (pc := 15) (q0 := 0) (ci := 0) hC cw_R_99 (rmD_in (by decide)) (Nat.le_of_ble_eq_true rfl) rfl rfl d_scanText_15 (c_restIs 0 b z (by omega) (by omega) (by omega)) (fun r w2 h4 => ?_)
  obtain ⟨h4, rfl⟩ := h4
  rcases h4 with ⟨h4, rfl⟩ | ⟨h4, rfl⟩
  · refine j_if_eq (pc := 18) hC 28 d_scanText_18 (by decide) (fun q => ?_) (fun q => ?_)
    · exact absurd q (by decide)
    · refine j_aloadn0 (pc := 21) hC d_scanText_21 ?_
      refine j_iconst (pc := 22) (v := 0) hC d_scanText_22 (by decide) ?_
      refine jp_R_68 (pc := 23) hC d_scanText_23 ?_
      refine j_iconst (pc := 26) (v := 1) hC d_scanText_26 (by decide) ?_
      exact j_zret hC rfl d_scanText_27 ⟨1, rfl, a, z, b, mi, _, _, _, _, _, _, hB, Or.inl ⟨h4, rfl, rfl⟩, rfl⟩
  · refine j_if_eq (pc := 18) hC 28 d_scanText_18 (by decide) (fun q => ?_) (fun q => ?_)
    · refine j_aloadn0 (pc := 28) hC d_scanText_28 ?_
      refine j_ldcS (pc := 29) hC (jC_str hC).1.2.1 d_scanText_29 ?_
      refine j_V1i (pc := 31) (q0 := 0) (ci := 0) hC cw_R_99 (rmD_in (by decide)) (Nat.le_of_ble_eq_true rfl) rfl rfl d_scanText_31 (c_restIs 1 b z (by omega) (by omega) (by omega)) (fun r w2 h5 => ?_)
      obtain ⟨h5, rfl⟩ := h5
      rcases h5 with ⟨h5, rfl⟩ | ⟨h5, rfl⟩
      · refine j_if_eq (pc := 34) hC 44 d_scanText_34 (by decide) (fun q => ?_) (fun q => ?_)
        · exact absurd q (by decide)
        · refine j_aloadn0 (pc := 37) hC d_scanText_37 ?_
          refine j_iconst (pc := 38) (v := 1) hC d_scanText_38 (by decide) ?_
          refine jp_R_68 (pc := 39) hC d_scanText_39 ?_
          refine j_iconst (pc := 42) (v := 1) hC d_scanText_42 (by decide) ?_
          exact j_zret hC rfl d_scanText_43 ⟨1, rfl, a, z, b, mi, _, _, _, _, _, _, hB, Or.inr (Or.inl ⟨h4, h5, rfl, rfl⟩), rfl⟩
      · have k69 : ∀ ps2 fm2 df2 dt2 wg2 ex2 : Int32, ¬ scNum tp b z → J p l e (rmD 6) s m args below meth c D (va_A (wd g ca (nI n) ps sp ng fm df dt wg ex hg mo tp lb wo) sz) 1 (MQ below (jQ D (wd g ca (nI n) ps sp ng fm df dt wg ex hg mo tp lb wo) sz (jPi fun r w => ∃ (a z b : Nat) (mi : Bool) (ps2 fm2 df2 dt2 wg2 ex2 : Int32), scB tp n a z b mi ∧ scR tp a z b mi r fm2 df2 dt2 wg2 ex2 ∧ w = wd g ca (nI n) (ps2) (nI z) (if mi then 1 else 0) (fm2) (df2) (dt2) (wg2) (ex2) hg mo tp lb wo)) args s 0 0 (va_A (wd g ca (nI n) ps sp ng fm df dt wg ex hg mo tp lb wo) sz)) 69 [some (.ref (g 0))] [] (wd g ca (nI n) (ps2) (nI z) (if mi then 1 else 0) (fm2) (df2) (dt2) (wg2) (ex2) hg mo tp lb wo) := by
          intro ps2 fm2 df2 dt2 wg2 ex2 hno
          refine j_iconst (pc := 69) (v := 0) hC d_scanText_69 (by decide) ?_
          exact j_zret hC rfl d_scanText_70 ⟨0, rfl, a, z, b, mi, _, _, _, _, _, _, hB, Or.inr (Or.inr (Or.inr ⟨h4, h5, hno, rfl⟩)), rfl⟩
        refine j_if_eq (pc := 34) hC 44 d_scanText_34 (by decide) (fun q => ?_) (fun q => ?_)
        · refine j_aloadn0 (pc := 44) hC d_scanText_44 ?_
          refine j_V0i (pc := 45) (q0 := 0) (ci := 0) hC cw_R_105 (rmD_in (by decide)) (Nat.le_of_ble_eq_true rfl) rfl rfl d_scanText_45 (c_scanDigits b z (by omega) (by omega)) (fun r w2 h6 => ?_)
          obtain ⟨hx, c0, n1, n2, c2, c3, hs, rfl, rfl⟩ := h6
          have hsle := scD_le hble.2.1 hs
          by_cases hpos : 0 < n1 + n2
          · rw [if_pos hpos]
            refine j_if_eq (pc := 48) hC 69 d_scanText_48 (by decide) (fun q => ?_) (fun q => ?_)
            · exact absurd q (by decide)
            · refine j_aloadn0 (pc := 51) hC d_scanText_51 ?_
              refine j_V0i (pc := 52) (q0 := 0) (ci := 0) hC cw_R_108 (rmD_in (by decide)) (Nat.le_of_ble_eq_true rfl) rfl rfl d_scanText_52 (c_scanExponent hx c3 z (by omega) (by omega)) (fun r w2 h7 => ?_)
              obtain ⟨ok, me, c5, n3, c6, hE, rfl, rfl⟩ := h7
              have hEle := scE_le (by omega) hE
              cases ok with
              | true =>
                refine j_if_eq (pc := 55) hC 69 d_scanText_55 (by decide) (fun q => ?_) (fun q => ?_)
                · exact absurd q (by decide)
                · refine j_aloadn0 (pc := 58) hC d_scanText_58 ?_
                  refine j_V0i (pc := 59) (q0 := 0) (ci := 0) hC cw_R_111 (rmD_in (by decide)) (Nat.le_of_ble_eq_true rfl) rfl rfl d_scanText_59 (c_restIsSuffix c6 z (by omega) (by omega)) (fun r w2 h8 => ?_)
                  obtain ⟨h8, rfl⟩ := h8
                  rcases h8 with ⟨h8, rfl⟩ | ⟨h8, rfl⟩
                  · refine j_if_eq (pc := 62) hC 69 d_scanText_62 (by decide) (fun q => ?_) (fun q => ?_)
                    · exact absurd q (by decide)
                    · refine j_iconst (pc := 65) (v := 1) hC d_scanText_65 (by decide) ?_
                      refine j_goto (pc := 66) hC 70 d_scanText_66 (by decide) ?_
                      exact j_zret hC rfl d_scanText_70 ⟨1, rfl, a, z, b, mi, _, _, _, _, _, _, hB, Or.inr (Or.inr (Or.inl ⟨h4, h5, hx, c0, n1, n2, c2, c3, me, c5, n3, c6, ⟨hs, hpos, hE, h8⟩, rfl, rfl, rfl, rfl, rfl, rfl⟩)), rfl⟩
                  · refine j_if_eq (pc := 62) hC 69 d_scanText_62 (by decide) (fun q => ?_) (fun q => ?_)
                    · refine k69 _ _ _ _ _ _ ?_
                      rintro ⟨hx', c0', n1', n2', c2', c3', me', c5', n3', c6', y1, y2, y3, y4⟩
                      obtain ⟨rfl, rfl, rfl, rfl, rfl, rfl⟩ := scD_fun hs y1
                      obtain ⟨-, -, -, -, rfl⟩ := scE_fun hE y3
                      exact h8 y4
                    · exact absurd rfl q
              | false =>
                refine j_if_eq (pc := 55) hC 69 d_scanText_55 (by decide) (fun q => ?_) (fun q => ?_)
                · refine k69 _ _ _ _ _ _ ?_
                  rintro ⟨hx', c0', n1', n2', c2', c3', me', c5', n3', c6', y1, y2, y3, y4⟩
                  obtain ⟨rfl, rfl, rfl, rfl, rfl, rfl⟩ := scD_fun hs y1
                  exact absurd (scE_fun hE y3).1 (by decide)
                · exact absurd rfl q
          · rw [if_neg hpos]
            refine j_if_eq (pc := 48) hC 69 d_scanText_48 (by decide) (fun q => ?_) (fun q => ?_)
            · refine k69 _ _ _ _ _ _ ?_
              rintro ⟨hx', c0', n1', n2', c2', c3', me', c5', n3', c6', y1, y2, y3, y4⟩
              obtain ⟨rfl, rfl, rfl, rfl, rfl, rfl⟩ := scD_fun hs y1
              exact hpos y2
            · exact absurd rfl q
        · exact absurd rfl q
    · exact absurd rfl q
end ST

