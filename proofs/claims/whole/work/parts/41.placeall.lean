/-! THE CLASS: placeDigits -/
/-- the text's digits by number -/
def tdg (t : Nat → Int32) (c0 n1 c2 n : Nat) (j : Nat) : Nat := if j < n1 then dg (t (c0 + j)) else if j < n then dg (t (c2 + (j - n1))) else 0
/-- where the digits stand: n1 from c0, n - n1 from c2, all below b; a point between them where there is room -/
def dgs (t : Nat → Int32) (b c0 n1 c2 c3 n : Nat) : Prop := c3 ≤ 8192 ∧ n1 ≤ n ∧ c3 = c2 + (n - n1) ∧ (∀ i, i < n1 → dg (t (c0 + i)) < b) ∧ (∀ i, i < n - n1 → dg (t (c2 + i)) < b) ∧ ((c2 = c0 + n1 + 1 ∧ t (c0 + n1) = 46) ∨ (c2 = c0 + n1 ∧ n = n1))
theorem tdg_lt {t : Nat → Int32} {b c0 n1 c2 c3 n : Nat} (hb : 0 < b) (h : dgs t b c0 n1 c2 c3 n) (j : Nat) : tdg t c0 n1 c2 n j < b := by
  unfold tdg
  split
  · rename_i h1; exact h.2.2.2.1 j h1
  · split
    · rename_i h1 h2; exact h.2.2.2.2.1 (j - n1) (by omega)
    · exact hb
theorem dg_46 : dg 46 = 16 := by decide
/-- the bits of hexadecimal digits -/
def bdg (f : Nat → Nat) (t : Nat) : Nat := f (t / 4) / 2 ^ (3 - t % 4) % 2
theorem bdg_lt (f : Nat → Nat) (t : Nat) : bdg f t < 2 := Nat.mod_lt _ (by omega)
theorem bdg_4 (f : Nat → Nat) (k : Nat) : bdg f (4 * k) = f k / 2 ^ 3 % 2 ∧ bdg f (4 * k + 1) = f k / 2 ^ 2 % 2 ∧ bdg f (4 * k + 2) = f k / 2 ^ 1 % 2 ∧ bdg f (4 * k + 3) = f k / 2 ^ 0 % 2 := by
  unfold bdg
  rw [show 4 * k / 4 = k by omega, show 4 * k % 4 = 0 by omega, show (4 * k + 1) / 4 = k by omega, show (4 * k + 1) % 4 = 1 by omega, show (4 * k + 2) / 4 = k by omega, show (4 * k + 2) % 4 = 2 by omega, show (4 * k + 3) / 4 = k by omega, show (4 * k + 3) % 4 = 3 by omega]
  exact ⟨rfl, rfl, rfl, rfl⟩
theorem eH_eS (f : Nat → Nat) (s : Int) (k : Nat) : eH (eS 2144 (bdg f) s (4 * k)) (s + 4 * (k : Int)) (f k) 4 = eS 2144 (bdg f) s (4 * (k + 1)) := by
  obtain ⟨b0, b1, b2, b3⟩ := bdg_4 f k
  rw [eH_4, show 4 * (k + 1) = 4 * k + 3 + 1 by omega, eS_eP, eS_eP, eS_eP, eS_eP, b0, b1, b2, b3]
  rw [show s + ((4 * k : Nat) : Int) = s + 4 * (k : Int) by omega, show s + ((4 * k + 1 : Nat) : Int) = s + 4 * (k : Int) + 1 by omega, show s + ((4 * k + 2 : Nat) : Int) = s + 4 * (k : Int) + 2 by omega, show s + ((4 * k + 3 : Nat) : Int) = s + 4 * (k : Int) + 3 by omega]
theorem ad_4 {f : Nat → Nat} {s : Int} {k : Nat} {P : Int → Prop} : (∃ j, j < 4 * (k + 1) ∧ bdg f j ≠ 0 ∧ P (s + (j : Int))) ↔ ((∃ j, j < 4 * k ∧ bdg f j ≠ 0 ∧ P (s + (j : Int))) ∨ ∃ j : Nat, j < 4 ∧ f k / 2 ^ j % 2 ≠ 0 ∧ P (s + 4 * (k : Int) + 3 - (j : Int))) := by
  obtain ⟨b0, b1, b2, b3⟩ := bdg_4 f k
  constructor
  · rintro ⟨j, h1, h2, h3⟩
    by_cases h4 : j < 4 * k
    · exact Or.inl ⟨j, h4, h2, h3⟩
    · right
      rcases (show j = 4 * k ∨ j = 4 * k + 1 ∨ j = 4 * k + 2 ∨ j = 4 * k + 3 by omega) with q | q | q | q
      · exact ⟨3, by omega, by rw [q, b0] at h2; exact h2, by rw [q] at h3; rw [show s + 4 * (k : Int) + 3 - ((3 : Nat) : Int) = s + ((4 * k : Nat) : Int) by omega]; exact h3⟩
      · exact ⟨2, by omega, by rw [q, b1] at h2; exact h2, by rw [q] at h3; rw [show s + 4 * (k : Int) + 3 - ((2 : Nat) : Int) = s + ((4 * k + 1 : Nat) : Int) by omega]; exact h3⟩
      · exact ⟨1, by omega, by rw [q, b2] at h2; exact h2, by rw [q] at h3; rw [show s + 4 * (k : Int) + 3 - ((1 : Nat) : Int) = s + ((4 * k + 2 : Nat) : Int) by omega]; exact h3⟩
      · exact ⟨0, by omega, by rw [q, b3] at h2; exact h2, by rw [q] at h3; rw [show s + 4 * (k : Int) + 3 - ((0 : Nat) : Int) = s + ((4 * k + 3 : Nat) : Int) by omega]; exact h3⟩
  · rintro (⟨j, h1, h2, h3⟩ | ⟨j, h1, h2, h3⟩)
    · exact ⟨j, by omega, h2, h3⟩
    · rcases (show j = 0 ∨ j = 1 ∨ j = 2 ∨ j = 3 by omega) with q | q | q | q
      · subst q; exact ⟨4 * k + 3, by omega, by rw [b3]; exact h2, by rw [show s + ((4 * k + 3 : Nat) : Int) = s + 4 * (k : Int) + 3 - ((0 : Nat) : Int) by omega]; exact h3⟩
      · subst q; exact ⟨4 * k + 2, by omega, by rw [b2]; exact h2, by rw [show s + ((4 * k + 2 : Nat) : Int) = s + 4 * (k : Int) + 3 - ((1 : Nat) : Int) by omega]; exact h3⟩
      · subst q; exact ⟨4 * k + 1, by omega, by rw [b1]; exact h2, by rw [show s + ((4 * k + 1 : Nat) : Int) = s + 4 * (k : Int) + 3 - ((2 : Nat) : Int) by omega]; exact h3⟩
      · subst q; exact ⟨4 * k, by omega, by rw [b0]; exact h2, by rw [show s + ((4 * k : Nat) : Int) = s + 4 * (k : Int) + 3 - ((3 : Nat) : Int) by omega]; exact h3⟩
/-- at the place i, k digits are behind -/
def pos (c0 n1 c2 c3 i k : Nat) : Prop := (c0 ≤ i ∧ i ≤ c0 + n1 ∧ k = i - c0) ∨ (c2 ≤ i ∧ i ≤ c3 ∧ k = n1 + (i - c2))
section PA
variable {l : Launch} {D : va_G} {X : jX} {g : Nat → Nat} {ca : Nat → ClassId} {len ps sp ng fm df dt wg ex hg mo : Int32} {tp lb wo : Nat → Int32}
set_option maxHeartbeats 4000000 in
theorem c_placeDigits_hex (c0 n1 c2 c3 n : Nat) (hT : dgs tp 16 c0 n1 c2 c3 n) (hex : -100000000 < ex.toInt ∧ ex.toInt < 100000000) : jM l y_placeDigits b_placeDigits 4 none (rmD 4) D (tyD ca) X [.ref (g 0)] (wd g ca len ps sp ng (3) (nI c0) (nI c3) (nI n1) ex hg mo tp lb wo) (jPv fun w => ∃ (lb2 wo2 : Nat → Int32) (hg2 mo2 : Int32), wnum wo2 = adS 2 2144 (bdg (tdg tp c0 n1 c2 n)) (1056 - ex.toInt - 4 * (n1 : Int)) (4 * n) ∧ (hg2 ≠ 0 ↔ adH (bdg (tdg tp c0 n1 c2 n)) (1056 - ex.toInt - 4 * (n1 : Int)) (4 * n)) ∧ (mo2 ≠ 0 ↔ adM 2144 (bdg (tdg tp c0 n1 c2 n)) (1056 - ex.toInt - 4 * (n1 : Int)) (4 * n)) ∧ w = wd g ca len ps sp ng (3) (nI c0) (nI c3) (nI n1) ex (hg2) (mo2) tp (lb2) (wo2)) := by
  refine jM.of [some (.ref (g 0)), none, none, none] (by simp [jle, jent, Value.category]) rfl (Nat.le_of_ble_eq_true rfl) ?_
  intro p e s m args below meth c sz hC
  have hc3 := hT.1
  have hn1 := hT.2.1
  have he3 := hT.2.2.1
  have hdot := hT.2.2.2.2.2
  have hlt := tdg_lt (by omega) hT
  have loop : ∀ (f i k : Nat) (lb2 wo2 : Nat → Int32) (hg2 mo2 wt : Int32), i + f = c3 → pos c0 n1 c2 c3 i k → (∀ i, i < 155 → lb2 i = 0) → wt.toInt = ex.toInt + 4 * ((n1 : Int) - 1 - k) → We wo2 (eS 2144 (bdg (tdg tp c0 n1 c2 n)) (1056 - ex.toInt - 4 * (n1 : Int)) (4 * k)) → (hg2 ≠ 0 ↔ adH (bdg (tdg tp c0 n1 c2 n)) (1056 - ex.toInt - 4 * (n1 : Int)) (4 * k)) → (mo2 ≠ 0 ↔ adM 2144 (bdg (tdg tp c0 n1 c2 n)) (1056 - ex.toInt - 4 * (n1 : Int)) (4 * k)) → J p l e (rmD 4) s m args below meth c D (va_A (wd g ca len ps sp ng (3) (nI c0) (nI c3) (nI n1) ex hg mo tp lb wo) sz) 4 (MQ below (jQ D (wd g ca len ps sp ng (3) (nI c0) (nI c3) (nI n1) ex hg mo tp lb wo) sz (jPv fun w => ∃ (lb2 wo2 : Nat → Int32) (hg2 mo2 : Int32), wnum wo2 = adS 2 2144 (bdg (tdg tp c0 n1 c2 n)) (1056 - ex.toInt - 4 * (n1 : Int)) (4 * n) ∧ (hg2 ≠ 0 ↔ adH (bdg (tdg tp c0 n1 c2 n)) (1056 - ex.toInt - 4 * (n1 : Int)) (4 * n)) ∧ (mo2 ≠ 0 ↔ adM 2144 (bdg (tdg tp c0 n1 c2 n)) (1056 - ex.toInt - 4 * (n1 : Int)) (4 * n)) ∧ w = wd g ca len ps sp ng (3) (nI c0) (nI c3) (nI n1) ex (hg2) (mo2) tp (lb2) (wo2))) args s 0 0 (va_A (wd g ca len ps sp ng (3) (nI c0) (nI c3) (nI n1) ex hg mo tp lb wo) sz)) 40 [some (.ref (g 0)), some (.int 4), some (.int wt), some (.int (nI i))] [] (wd g ca len ps sp ng (3) (nI c0) (nI c3) (nI n1) ex (hg2) (mo2) tp (lb2) (wo2)) := by
    intro f
    induction f with
    | zero =>
      intro i k lb2 wo2 hg2 mo2 wt hi hp hz hwt hWe hh hm
      have hk : k = n := by
        clear hh hm
        rcases hp with ⟨p1, p2, p3⟩ | ⟨p1, p2, p3⟩
        · rcases hdot with ⟨d1, d2⟩ | ⟨d1, d2⟩ <;> omega
        · omega
      subst hk
      refine j_iloadn3 (pc := 40) hC d_placeDigits_40 ?_
      refine j_aloadn0 (pc := 41) hC d_placeDigits_41 ?_
      refine jg_R_141 (pc := 42) hC d_placeDigits_42 ?_
      refine j_icmp_ge (pc := 45) hC 83 d_placeDigits_45 (by decide) (fun h1 => ?_) (fun h1 => ?_)
      · refine j_aloadn0 (pc := 83) hC d_placeDigits_83 ?_
        refine jg_R_24 (pc := 84) hC d_placeDigits_84 ?_
        refine j_V0v (pc := 87) (q0 := 3) (ci := 2) hC cw_R_176 (rmD_in (by decide)) (Nat.le_of_ble_eq_true rfl) rfl rfl d_placeDigits_87 (c_v_turnBinary_hex hz) (fun w2 h2 => ?_)
        obtain rfl := h2
        exact j_vret hC d_placeDigits_90 ⟨rfl, lb2, wo2, hg2, mo2, by rw [hWe.num, eS_sum], hh, hm, rfl⟩
      · clear hh hm
        rw [nI_leI (by omega) (by omega)] at h1
        omega
    | succ f ih =>
      intro i k lb2 wo2 hg2 mo2 wt hi hp hz hwt hWe hh hm
      have hile : i < c3 := by clear hh hm; omega
      have hif : i + 1 + f = c3 := by clear hh hm; omega
      have hcl : (nI i).toNatClampNeg = i := nI_clamp (by omega)
      refine j_iloadn3 (pc := 40) hC d_placeDigits_40 ?_
      refine j_aloadn0 (pc := 41) hC d_placeDigits_41 ?_
      refine jg_R_141 (pc := 42) hC d_placeDigits_42 ?_
      refine j_icmp_ge (pc := 45) hC 83 d_placeDigits_45 (by decide) (fun h1 => ?_) (fun h1 => ?_)
      · clear hh hm
        rw [nI_leI (by omega) (by omega)] at h1
        omega
      · refine j_aloadn0 (pc := 48) hC d_placeDigits_48 ?_
        refine jg_R_28 (pc := 49) hC d_placeDigits_49 ?_
        refine j_iloadn3 (pc := 52) hC d_placeDigits_52 ?_
        refine ja_tape_baload (pc := 53) hC (vp_in_nI (by omega) (by decide)) d_placeDigits_53 ?_
        rw [hcl]
        refine j_bipush (pc := 54) (v := 46) hC d_placeDigits_54 (by decide) ?_
        refine j_icmp_eq (pc := 56) hC 77 d_placeDigits_56 (by decide) (fun h2 => ?_) (fun h2 => ?_)
        · -- the point
          have hpd : i = c0 + n1 ∧ c2 = i + 1 ∧ k = n1 := by
            clear hh hm
            have h46 := dg_46
            rcases hp with ⟨p1, p2, p3⟩ | ⟨p1, p2, p3⟩
            · rcases Nat.lt_or_eq_of_le p2 with q | q
              · have := hT.2.2.2.1 (i - c0) (by omega)
                rw [show c0 + (i - c0) = i by omega, h2, h46] at this
                omega
              · rcases hdot with ⟨d1, d2⟩ | ⟨d1, d2⟩ <;> omega
            · have := hT.2.2.2.2.1 (i - c2) (by omega)
              rw [show c2 + (i - c2) = i by omega, h2, h46] at this
              omega
          refine j_iinc3 (pc := 77) hC d_placeDigits_77 (by decide) (by first | exact trivial | exact rfl) ?_
          refine j_goto (pc := 80) hC 40 d_placeDigits_80 (by decide) ?_
          refine J.to rfl ?_ rfl rfl (ih (i + 1) k lb2 wo2 hg2 mo2 wt hif (Or.inr ⟨by omega, by omega, by omega⟩) hz hwt hWe hh hm)
          rw [← nI_1]
          rfl
        · have hpd : k < n ∧ dg (tp i) = (tdg tp c0 n1 c2 n) k ∧ pos c0 n1 c2 c3 (i + 1) (k + 1) := by
            clear hh hm
            unfold tdg pos
            rcases hp with ⟨p1, p2, p3⟩ | ⟨p1, p2, p3⟩
            · rcases Nat.lt_or_eq_of_le p2 with q | q
              · rw [if_pos (by omega), show c0 + k = i by omega]
                exact ⟨by omega, rfl, Or.inl ⟨by omega, by omega, by omega⟩⟩
              · rcases hdot with ⟨d1, d2⟩ | ⟨d1, d2⟩
                · rw [← q] at d2
                  exact absurd d2 h2
                · omega
            · rw [if_neg (by omega), if_pos (by omega), show c2 + (k - n1) = i by omega]
              exact ⟨by omega, rfl, Or.inr ⟨by omega, by omega, by omega⟩⟩
          obtain ⟨hkn, hdk, hpn⟩ := hpd
          have hdl := hlt k
          have hkb : k ≤ 8192 := by clear hh hm; omega
          refine j_aloadn0 (pc := 59) hC d_placeDigits_59 ?_
          refine j_aloadn0 (pc := 60) hC d_placeDigits_60 ?_
          refine jg_R_28 (pc := 61) hC d_placeDigits_61 ?_
          refine j_iloadn3 (pc := 64) hC d_placeDigits_64 ?_
          refine ja_tape_baload (pc := 65) hC (vp_in_nI (by omega) (by decide)) d_placeDigits_65 ?_
          refine j_S1i (pc := 66) hC cw_R_148 (rmD_in (by decide)) (Nat.le_of_ble_eq_true rfl) d_placeDigits_66 (c_digitOf _) (fun r w2 h3 => ?_)
          obtain ⟨rfl, rfl⟩ := h3
          rw [hcl, hdk]
          have hplace : 1052 - wt.toInt = (1056 - ex.toInt - 4 * (n1 : Int)) + 4 * (k : Int) := by rw [hwt]; omega
          refine j_iloadn2 (pc := 69) hC d_placeDigits_69 ?_
          refine j_V2v (pc := 70) (q0 := 0) (ci := 0) hC cw_R_172 (rmD_in (by decide)) (Nat.le_of_ble_eq_true rfl) rfl rfl d_placeDigits_70 (c_placeDigit_hex ((tdg tp c0 n1 c2 n) k) wt (eS 2144 (bdg (tdg tp c0 n1 c2 n)) (1056 - ex.toInt - 4 * (n1 : Int)) (4 * k)) hdl (by omega) (fun n => eS_lt (by omega) (bdg_lt _)) hWe (fun n hn => eS_new (by omega))) (fun w2 h4 => ?_)
          obtain ⟨wo3, hg3, mo3, q1, q2, q3, rfl⟩ := h4
          rw [hplace] at q1 q2 q3
          refine j_iloadn2 (pc := 73) hC d_placeDigits_73 ?_
          refine j_iloadn1 (pc := 74) hC d_placeDigits_74 ?_
          refine j_isub (pc := 75) hC d_placeDigits_75 ?_
          refine j_istoren2 (pc := 76) hC d_placeDigits_76 (by decide) (by first | exact trivial | exact rfl) ?_
          refine j_iinc3 (pc := 77) hC d_placeDigits_77 (by decide) (by first | exact trivial | exact rfl) ?_
          refine j_goto (pc := 80) hC 40 d_placeDigits_80 (by decide) ?_
          refine J.to rfl ?_ rfl rfl (ih (i + 1) (k + 1) lb2 wo3 hg3 mo3 (wt - 4) hif hpn hz ?_ ?_ ?_ ?_)
          · rw [← nI_1]
            rfl
          · rw [tsub (by rw [show (4 : Int32).toInt = 4 from rfl]; omega) (by rw [show (4 : Int32).toInt = 4 from rfl]; omega), show (4 : Int32).toInt = 4 from rfl, hwt]
            omega
          · rw [← eH_eS]
            exact q1
          · rw [q2, hh]
            exact (ad_4 (P := fun z => z < 0)).symm
          · rw [q3, hm]
            exact (ad_4 (P := fun z => ((2144 : Nat) : Int) ≤ z)).symm
  refine j_aloadn0 (pc := 0) hC d_placeDigits_0 ?_
  refine jg_R_24 (pc := 1) hC d_placeDigits_1 ?_
  refine j_V0v (pc := 4) (q0 := 3) (ci := 2) hC cw_R_169 (rmD_in (by decide)) (Nat.le_of_ble_eq_true rfl) rfl rfl d_placeDigits_4 (c_v_clear) (fun w2 h1 => ?_)
  obtain ⟨lb2, wo2, hz1, hz2, rfl⟩ := h1
  refine j_aloadn0 (pc := 7) hC d_placeDigits_7 ?_
  refine jg_R_68 (pc := 8) hC d_placeDigits_8 ?_
  refine j_iconst (pc := 11) (v := 3) hC d_placeDigits_11 (by decide) ?_
  refine j_icmp_ne (pc := 12) hC 19 d_placeDigits_12 (by decide) (fun h2 => ?_) (fun h2 => ?_)
  · exact absurd rfl h2
  · refine j_iconst (pc := 15) (v := 4) hC d_placeDigits_15 (by decide) ?_
    refine j_goto (pc := 16) hC 20 d_placeDigits_16 (by decide) ?_
    refine j_istoren1 (pc := 20) hC d_placeDigits_20 (by decide) (by first | exact trivial | exact rfl) ?_
    refine j_aloadn0 (pc := 21) hC d_placeDigits_21 ?_
    refine jg_R_144 (pc := 22) hC d_placeDigits_22 ?_
    refine j_iloadn1 (pc := 25) hC d_placeDigits_25 ?_
    refine j_aloadn0 (pc := 26) hC d_placeDigits_26 ?_
    refine jg_R_134 (pc := 27) hC d_placeDigits_27 ?_
    refine j_iconst (pc := 30) (v := 1) hC d_placeDigits_30 (by decide) ?_
    refine j_isub (pc := 31) hC d_placeDigits_31 ?_
    refine j_imul (pc := 32) hC d_placeDigits_32 ?_
    refine j_iadd (pc := 33) hC d_placeDigits_33 ?_
    refine j_istoren2 (pc := 34) hC d_placeDigits_34 (by decide) (by first | exact trivial | exact rfl) ?_
    refine j_aloadn0 (pc := 35) hC d_placeDigits_35 ?_
    refine jg_R_127 (pc := 36) hC d_placeDigits_36 ?_
    refine j_istoren3 (pc := 39) hC d_placeDigits_39 (by decide) (by first | exact trivial | exact rfl) ?_
    refine loop (c3 - c0) c0 0 lb2 wo2 0 0 _ (by clear loop; rcases hdot with ⟨d1, d2⟩ | ⟨d1, d2⟩ <;> omega) (Or.inl ⟨by omega, by omega, by omega⟩) hz1 ?_ ?_ ⟨fun q => absurd rfl q, fun q => ?_⟩ ⟨fun q => absurd rfl q, fun q => ?_⟩
    · have e1 := nI_toInt (n := n1) (by omega)
      have e2 : (nI n1 - 1).toInt = (n1 : Int) - 1 := by
        rw [tsub (by rw [show (1 : Int32).toInt = 1 from rfl]; omega) (by rw [show (1 : Int32).toInt = 1 from rfl]; omega), e1]
        rfl
      have e3 : ((4 : Int32) * (nI n1 - 1)).toInt = 4 * ((n1 : Int) - 1) := by
        rw [tmul (by rw [show (4 : Int32).toInt = 4 from rfl]; omega) (by rw [show (4 : Int32).toInt = 4 from rfl]; omega), e2]
        rfl
      rw [tadd (by omega) (by omega), e3]
      omega
    · intro j hj
      rw [hz2 j hj]
      exact (hv_zero 2 (fun _ _ => rfl)).symm
    · obtain ⟨j, q, -⟩ := q
      exact absurd q (by omega)
    · obtain ⟨j, q, -⟩ := q
      exact absurd q (by omega)
end PA

