theorem ad_1 {f : Nat → Nat} {s : Int} {k : Nat} {P : Int → Prop} : (∃ j, j < k + 1 ∧ f j ≠ 0 ∧ P (s + (j : Int))) ↔ ((∃ j, j < k ∧ f j ≠ 0 ∧ P (s + (j : Int))) ∨ (f k ≠ 0 ∧ P (s + (k : Int)))) := by
  constructor
  · rintro ⟨j, h1, h2, h3⟩
    rcases Nat.lt_or_eq_of_le (Nat.le_of_lt_succ h1) with q | q
    · exact Or.inl ⟨j, q, h2, h3⟩
    · subst q; exact Or.inr ⟨h2, h3⟩
  · rintro (⟨j, h1, h2, h3⟩ | ⟨h2, h3⟩)
    · exact ⟨j, by omega, h2, h3⟩
    · exact ⟨k, by omega, h2, h3⟩
section PD
variable {l : Launch} {D : va_G} {X : jX} {g : Nat → Nat} {ca : Nat → ClassId} {len ps sp ng fm df dt wg ex hg mo : Int32} {tp lb wo : Nat → Int32}
set_option maxHeartbeats 4000000 in
theorem c_placeDigits_dec (c0 n1 c2 c3 n : Nat) (hT : dgs tp 10 c0 n1 c2 c3 n) (hex : -100000000 < ex.toInt ∧ ex.toInt < 100000000) : jM l y_placeDigits b_placeDigits 4 none (rmD 4) D (tyD ca) X [.ref (g 0)] (wd g ca len ps sp ng (2) (nI c0) (nI c3) (nI n1) ex hg mo tp lb wo) (jPv fun w => ∃ (lb2 wo2 : Nat → Int32) (hg2 mo2 : Int32), wnum wo2 = adS 10 1395 (tdg tp c0 n1 c2 n) (315 - ex.toInt - (n1 : Int)) n * T34 / B120 ∧ (hg2 ≠ 0 ↔ adH (tdg tp c0 n1 c2 n) (315 - ex.toInt - (n1 : Int)) n) ∧ (mo2 ≠ 0 ↔ (adM 1395 (tdg tp c0 n1 c2 n) (315 - ex.toInt - (n1 : Int)) n ∨ adS 10 1395 (tdg tp c0 n1 c2 n) (315 - ex.toInt - (n1 : Int)) n * T34 % B120 ≠ 0)) ∧ w = wd g ca len ps sp ng (2) (nI c0) (nI c3) (nI n1) ex (hg2) (mo2) tp (lb2) (wo2)) := by
  refine jM.of [some (.ref (g 0)), none, none, none] (by simp [jle, jent, Value.category]) rfl (Nat.le_of_ble_eq_true rfl) ?_
  intro p e s m args below meth c sz hC
  have hc3 := hT.1
  have hn1 := hT.2.1
  have he3 := hT.2.2.1
  have hdot := hT.2.2.2.2.2
  have hlt := tdg_lt (by omega) hT
  have loop : ∀ (f i k : Nat) (lb2 wo2 : Nat → Int32) (hg2 mo2 wt : Int32), i + f = c3 → pos c0 n1 c2 c3 i k → (∀ i, i < 67 → wo2 i = 0) → wt.toInt = ex.toInt + ((n1 : Int) - 1 - k) → Le lb2 (eS 1395 (tdg tp c0 n1 c2 n) (315 - ex.toInt - (n1 : Int)) k) → (hg2 ≠ 0 ↔ adH (tdg tp c0 n1 c2 n) (315 - ex.toInt - (n1 : Int)) k) → (mo2 ≠ 0 ↔ adM 1395 (tdg tp c0 n1 c2 n) (315 - ex.toInt - (n1 : Int)) k) → J p l e (rmD 4) s m args below meth c D (va_A (wd g ca len ps sp ng (2) (nI c0) (nI c3) (nI n1) ex hg mo tp lb wo) sz) 4 (MQ below (jQ D (wd g ca len ps sp ng (2) (nI c0) (nI c3) (nI n1) ex hg mo tp lb wo) sz (jPv fun w => ∃ (lb2 wo2 : Nat → Int32) (hg2 mo2 : Int32), wnum wo2 = adS 10 1395 (tdg tp c0 n1 c2 n) (315 - ex.toInt - (n1 : Int)) n * T34 / B120 ∧ (hg2 ≠ 0 ↔ adH (tdg tp c0 n1 c2 n) (315 - ex.toInt - (n1 : Int)) n) ∧ (mo2 ≠ 0 ↔ (adM 1395 (tdg tp c0 n1 c2 n) (315 - ex.toInt - (n1 : Int)) n ∨ adS 10 1395 (tdg tp c0 n1 c2 n) (315 - ex.toInt - (n1 : Int)) n * T34 % B120 ≠ 0)) ∧ w = wd g ca len ps sp ng (2) (nI c0) (nI c3) (nI n1) ex (hg2) (mo2) tp (lb2) (wo2))) args s 0 0 (va_A (wd g ca len ps sp ng (2) (nI c0) (nI c3) (nI n1) ex hg mo tp lb wo) sz)) 40 [some (.ref (g 0)), some (.int 1), some (.int wt), some (.int (nI i))] [] (wd g ca len ps sp ng (2) (nI c0) (nI c3) (nI n1) ex (hg2) (mo2) tp (lb2) (wo2)) := by
    intro f
    induction f with
    | zero =>
      intro i k lb2 wo2 hg2 mo2 wt hi hp hz hwt hLe hh hm
      have hk : k = n := by
        clear hh hm
        rcases hp with ⟨p1, p2, p3⟩ | ⟨p1, p2, p3⟩
        · rcases hdot with ⟨d1, d2⟩ | ⟨d1, d2⟩ <;> omega
        · omega
      have hnum : hv 1000000000 (fun q => hv 10 (fun i => eS 1395 (tdg tp c0 n1 c2 n) (315 - ex.toInt - (n1 : Int)) k (9 * q + i)) 9) 155 = adS 10 1395 (tdg tp c0 n1 c2 n) (315 - ex.toInt - (n1 : Int)) k := by
        rw [← eS_sum]
        exact hv_group (b := 10) (w := 9) (e := eS 1395 (tdg tp c0 n1 c2 n) (315 - ex.toInt - (n1 : Int)) k) (n := 155) (fun q _ => rfl)
      subst hk
      refine j_iloadn3 (pc := 40) hC d_placeDigits_40 ?_
      refine j_aloadn0 (pc := 41) hC d_placeDigits_41 ?_
      refine jg_R_141 (pc := 42) hC d_placeDigits_42 ?_
      refine j_icmp_ge (pc := 45) hC 83 d_placeDigits_45 (by decide) (fun h1 => ?_) (fun h1 => ?_)
      · refine j_aloadn0 (pc := 83) hC d_placeDigits_83 ?_
        refine jg_R_24 (pc := 84) hC d_placeDigits_84 ?_
        refine j_V0v (pc := 87) (q0 := 3) (ci := 2) hC cw_R_176 (rmD_in (by decide)) (Nat.le_of_ble_eq_true rfl) rfl rfl d_placeDigits_87 (c_v_turnBinary_dec _ (hLe.Lr (fun P => eS_lt (by omega) hlt)) hz) (fun w2 h2 => ?_)
        obtain ⟨lb3, wo3, mo3, y1, y2, rfl⟩ := h2
        rw [hnum] at y1 y2
        exact j_vret hC d_placeDigits_90 ⟨rfl, lb3, wo3, hg2, mo3, y1, hh, by rw [y2, hm], rfl⟩
      · clear hh hm
        rw [nI_leI (by omega) (by omega)] at h1
        omega
    | succ f ih =>
      intro i k lb2 wo2 hg2 mo2 wt hi hp hz hwt hLe hh hm
      have hile : i < c3 := by clear hh hm; omega
      have hif : i + 1 + f = c3 := by clear hh hm; omega
      have hcl : (nI i).toNatClampNeg = i := nI_clamp (by omega)
      refine j_iloadn3 (pc := 40) hC d_placeDigits_40 ?_
      refine j_aloadn0 (pc := 41) hC d_placeDigits_41 ?_
      refine jg_R_141 (pc := 42) hC d_placeDigits_42 ?_
      refine j_icmp_ge (pc := 45) hC 83 d_placeDigits_45 (by decide) (fun h1 => ?_) (fun h1 => ?_)
      · clear hh hm
        rw [nI_leI (by omega) (by omega)] at h1
        omega
      · refine j_aloadn0 (pc := 48) hC d_placeDigits_48 ?_
        refine jg_R_28 (pc := 49) hC d_placeDigits_49 ?_
        refine j_iloadn3 (pc := 52) hC d_placeDigits_52 ?_
        refine ja_tape_baload (pc := 53) hC (vp_in_nI (by omega) (by decide)) d_placeDigits_53 ?_
        rw [hcl]
        refine j_bipush (pc := 54) (v := 46) hC d_placeDigits_54 (by decide) ?_
        refine j_icmp_eq (pc := 56) hC 77 d_placeDigits_56 (by decide) (fun h2 => ?_) (fun h2 => ?_)
        · -- the point
          have hpd : i = c0 + n1 ∧ c2 = i + 1 ∧ k = n1 := by
            clear hh hm
            have h46 := dg_46
            rcases hp with ⟨p1, p2, p3⟩ | ⟨p1, p2, p3⟩
            · rcases Nat.lt_or_eq_of_le p2 with q | q
              · have := hT.2.2.2.1 (i - c0) (by omega)
                rw [show c0 + (i - c0) = i by omega, h2, h46] at this
                omega
              · rcases hdot with ⟨d1, d2⟩ | ⟨d1, d2⟩ <;> omega
            · have := hT.2.2.2.2.1 (i - c2) (by omega)
              rw [show c2 + (i - c2) = i by omega, h2, h46] at this
              omega
          refine j_iinc3 (pc := 77) hC d_placeDigits_77 (by decide) (by first | exact trivial | exact rfl) ?_
          refine j_goto (pc := 80) hC 40 d_placeDigits_80 (by decide) ?_
          refine J.to rfl ?_ rfl rfl (ih (i + 1) k lb2 wo2 hg2 mo2 wt hif (Or.inr ⟨by omega, by omega, by omega⟩) hz hwt hLe hh hm)
          rw [← nI_1]
          rfl
        · have hpd : k < n ∧ dg (tp i) = (tdg tp c0 n1 c2 n) k ∧ pos c0 n1 c2 c3 (i + 1) (k + 1) := by
            clear hh hm
            unfold tdg pos
            rcases hp with ⟨p1, p2, p3⟩ | ⟨p1, p2, p3⟩
            · rcases Nat.lt_or_eq_of_le p2 with q | q
              · rw [if_pos (by omega), show c0 + k = i by omega]
                exact ⟨by omega, rfl, Or.inl ⟨by omega, by omega, by omega⟩⟩
              · rcases hdot with ⟨d1, d2⟩ | ⟨d1, d2⟩
                · rw [← q] at d2
                  exact absurd d2 h2
                · omega
            · rw [if_neg (by omega), if_pos (by omega), show c2 + (k - n1) = i by omega]
              exact ⟨by omega, rfl, Or.inr ⟨by omega, by omega, by omega⟩⟩
          obtain ⟨hkn, hdk, hpn⟩ := hpd
          have hdl := hlt k
          have hkb : k ≤ 8192 := by clear hh hm; omega
          refine j_aloadn0 (pc := 59) hC d_placeDigits_59 ?_
          refine j_aloadn0 (pc := 60) hC d_placeDigits_60 ?_
          refine jg_R_28 (pc := 61) hC d_placeDigits_61 ?_
          refine j_iloadn3 (pc := 64) hC d_placeDigits_64 ?_
          refine ja_tape_baload (pc := 65) hC (vp_in_nI (by omega) (by decide)) d_placeDigits_65 ?_
          refine j_S1i (pc := 66) hC cw_R_148 (rmD_in (by decide)) (Nat.le_of_ble_eq_true rfl) d_placeDigits_66 (c_digitOf _) (fun r w2 h3 => ?_)
          obtain ⟨rfl, rfl⟩ := h3
          rw [hcl, hdk]
          have hplace : 314 - wt.toInt = (315 - ex.toInt - (n1 : Int)) + (k : Int) := by rw [hwt]; omega
          refine j_iloadn2 (pc := 69) hC d_placeDigits_69 ?_
          refine j_V2v (pc := 70) (q0 := 0) (ci := 0) hC cw_R_172 (rmD_in (by decide)) (Nat.le_of_ble_eq_true rfl) rfl rfl d_placeDigits_70 (c_placeDigit_dec ((tdg tp c0 n1 c2 n) k) wt (eS 1395 (tdg tp c0 n1 c2 n) (315 - ex.toInt - (n1 : Int)) k) hdl hLe (fun n hn => eS_new (by omega))) (fun w2 h4 => ?_)
          obtain ⟨lb3, hg3, mo3, q1, q2, q3, rfl⟩ := h4
          rw [hplace] at q1 q2 q3
          refine j_iloadn2 (pc := 73) hC d_placeDigits_73 ?_
          refine j_iloadn1 (pc := 74) hC d_placeDigits_74 ?_
          refine j_isub (pc := 75) hC d_placeDigits_75 ?_
          refine j_istoren2 (pc := 76) hC d_placeDigits_76 (by decide) (by first | exact trivial | exact rfl) ?_
          refine j_iinc3 (pc := 77) hC d_placeDigits_77 (by decide) (by first | exact trivial | exact rfl) ?_
          refine j_goto (pc := 80) hC 40 d_placeDigits_80 (by decide) ?_
          refine J.to rfl ?_ rfl rfl (ih (i + 1) (k + 1) lb3 wo2 hg3 mo3 (wt - 1) hif hpn hz ?_ ?_ ?_ ?_)
          · rw [← nI_1]
            rfl
          · rw [tsub (by rw [show (1 : Int32).toInt = 1 from rfl]; omega) (by rw [show (1 : Int32).toInt = 1 from rfl]; omega), show (1 : Int32).toInt = 1 from rfl, hwt]
            omega
          · rw [eS_eP]
            exact q1
          · rw [q2, hh]
            exact (ad_1 (P := fun z => z < 0)).symm
          · rw [q3, hm]
            exact (ad_1 (P := fun z => ((1395 : Nat) : Int) ≤ z)).symm
  refine j_aloadn0 (pc := 0) hC d_placeDigits_0 ?_
  refine jg_R_24 (pc := 1) hC d_placeDigits_1 ?_
  refine j_V0v (pc := 4) (q0 := 3) (ci := 2) hC cw_R_169 (rmD_in (by decide)) (Nat.le_of_ble_eq_true rfl) rfl rfl d_placeDigits_4 (c_v_clear) (fun w2 h1 => ?_)
  obtain ⟨lb2, wo2, hz1, hz2, rfl⟩ := h1
  refine j_aloadn0 (pc := 7) hC d_placeDigits_7 ?_
  refine jg_R_68 (pc := 8) hC d_placeDigits_8 ?_
  refine j_iconst (pc := 11) (v := 3) hC d_placeDigits_11 (by decide) ?_
  refine j_icmp_ne (pc := 12) hC 19 d_placeDigits_12 (by decide) (fun h2 => ?_) (fun h2 => ?_)
  · refine j_iconst (pc := 19) (v := 1) hC d_placeDigits_19 (by decide) ?_
    refine j_istoren1 (pc := 20) hC d_placeDigits_20 (by decide) (by first | exact trivial | exact rfl) ?_
    refine j_aloadn0 (pc := 21) hC d_placeDigits_21 ?_
    refine jg_R_144 (pc := 22) hC d_placeDigits_22 ?_
    refine j_iloadn1 (pc := 25) hC d_placeDigits_25 ?_
    refine j_aloadn0 (pc := 26) hC d_placeDigits_26 ?_
    refine jg_R_134 (pc := 27) hC d_placeDigits_27 ?_
    refine j_iconst (pc := 30) (v := 1) hC d_placeDigits_30 (by decide) ?_
    refine j_isub (pc := 31) hC d_placeDigits_31 ?_
    refine j_imul (pc := 32) hC d_placeDigits_32 ?_
    refine j_iadd (pc := 33) hC d_placeDigits_33 ?_
    refine j_istoren2 (pc := 34) hC d_placeDigits_34 (by decide) (by first | exact trivial | exact rfl) ?_
    refine j_aloadn0 (pc := 35) hC d_placeDigits_35 ?_
    refine jg_R_127 (pc := 36) hC d_placeDigits_36 ?_
    refine j_istoren3 (pc := 39) hC d_placeDigits_39 (by decide) (by first | exact trivial | exact rfl) ?_
    refine loop (c3 - c0) c0 0 lb2 wo2 0 0 _ (by clear loop; rcases hdot with ⟨d1, d2⟩ | ⟨d1, d2⟩ <;> omega) (Or.inl ⟨by omega, by omega, by omega⟩) hz2 ?_ ?_ ⟨fun q => absurd rfl q, fun q => ?_⟩ ⟨fun q => absurd rfl q, fun q => ?_⟩
    · have e1 := nI_toInt (n := n1) (by omega)
      have e2 : (nI n1 - 1).toInt = (n1 : Int) - 1 := by
        rw [tsub (by rw [show (1 : Int32).toInt = 1 from rfl]; omega) (by rw [show (1 : Int32).toInt = 1 from rfl]; omega), e1]
        rfl
      have e3 : ((1 : Int32) * (nI n1 - 1)).toInt = (n1 : Int) - 1 := by
        rw [tmul (by rw [show (1 : Int32).toInt = 1 from rfl]; omega) (by rw [show (1 : Int32).toInt = 1 from rfl]; omega), e2, show (1 : Int32).toInt = 1 from rfl]
        omega
      rw [tadd (by omega) (by omega), e3]
      omega
    · intro j hj
      rw [hz1 j hj]
      show _ = nI (hv 10 (fun i => 0) 9)
      rw [hv_zero 10 (fun _ _ => rfl)]
      rfl
    · obtain ⟨j, q, -⟩ := q
      exact absurd q (by omega)
    · obtain ⟨j, q, -⟩ := q
      exact absurd q (by omega)
  · exact absurd h2 (by decide)
end PD

