section VRK
variable {l : Launch} {D : va_G} {X : jX} {g : Nat → Nat} {ca : Nat → ClassId} {len ps sp ng fm df dt wg ex hg mo : Int32} {tp lb wo : Nat → Int32}
theorem kG_inf_d : kG 52 14 9218868437227405312 = 2 ^ 2112 := by
  have h := kG_c (p := 52) (u := 14) (U := 2060) (c := 2 ^ 52) (by omega) (Nat.pow_le_pow_right (by omega) (by omega)) (Or.inr (Nat.le_refl _))
  rw [show (2060 - 14) * 2 ^ 52 + 2 ^ 52 = 9218868437227405312 by decide, ← Nat.pow_add] at h
  exact h
/-- what 'rounded' answers -/
def rdS_d (hg mo : Int32) (w s : Nat) : Prop := s ≤ 9218868437227405312 ∧ (hg ≠ 0 → s = 9218868437227405312) ∧ (hg = 0 → ∀ N M, 0 < M → kA w (decide (mo ≠ 0)) N M → kR 52 14 9218868437227405312 N M s)
set_option maxHeartbeats 4000000 in
set_option maxRecDepth 100000 in
theorem c_v_rounded_d : jM l y_v_rounded b_v_rounded 7 (some .long) (rmD 3) D (tyD ca) X [.ref (g 3), .ref (g 1)] (wd g ca len ps sp ng fm df dt wg ex hg mo tp lb wo) (jPl fun r w => ∃ s, rdS_d hg mo (wnum wo) s ∧ r = lN s ∧ w = wd g ca len ps sp ng fm df dt wg ex hg mo tp lb wo) := by
  refine jM.of [some (.ref (g 3)), some (.ref (g 1)), none, none, none, none, none] (by simp [jle, jent, Value.category]) rfl (Nat.le_of_ble_eq_true rfl) ?_
  intro p e s m args below meth c sz hC
  refine j_aloadn0 (pc := 0) hC d_v_rounded_0 ?_
  refine j_V0i (pc := 1) (q0 := 3) (ci := 2) hC cw_V_57 (rmD_in (by decide)) (Nat.le_of_ble_eq_true rfl) rfl rfl d_v_rounded_1 (c_v_topPower) (fun r w2 h1 => ?_)
  obtain ⟨tn, htn, hnb, rfl, rfl⟩ := h1
  obtain ⟨U, hU⟩ : ∃ U, U = max (tn - 53) 14 := ⟨_, rfl⟩
  have hlast : (if pw tn - 53 + 1 < -1074 then (-1074 : Int32) else pw tn - 53 + 1) = pw (U + 1) := by
    have e0 := pw_toInt (n := tn) (by omega)
    have e1 : (pw tn - 53).toInt = (tn : Int) - 1089 - 53 := by
      rw [tsub (by rw [e0, show (53 : Int32).toInt = 53 from rfl]; omega) (by rw [e0, show (53 : Int32).toInt = 53 from rfl]; omega), e0]
      rfl
    have e2 : (pw tn - 53 + 1).toInt = (tn : Int) - 1088 - 53 := by
      rw [tadd (by rw [e1, show (1 : Int32).toInt = 1 from rfl]; omega) (by rw [e1, show (1 : Int32).toInt = 1 from rfl]; omega), e1, show (1 : Int32).toInt = 1 from rfl]
      omega
    have e3 : ((-1074 : Int32)).toInt = -1074 := rfl
    by_cases hc : pw tn - 53 + 1 < -1074
    · rw [if_pos hc]
      rw [i32lt, e2, e3] at hc
      exact pw_inj (by omega) (by rw [e3]; omega)
    · rw [if_neg hc]
      rw [i32lt, e2, e3] at hc
      exact pw_inj (by omega) (by rw [e2]; omega)
  refine j_istoren2 (pc := 4) hC d_v_rounded_4 (by decide) (by first | exact trivial | exact rfl) ?_
  refine j_iloadn2 (pc := 5) hC d_v_rounded_5 ?_
  refine j_aloadn1 (pc := 6) hC d_v_rounded_6 ?_
  refine jg_V_60d (pc := 7) hC d_v_rounded_7 ?_
  refine j_isub (pc := 10) hC d_v_rounded_10 ?_
  refine j_iconst (pc := 11) (v := 1) hC d_v_rounded_11 (by decide) ?_
  refine j_iadd (pc := 12) hC d_v_rounded_12 ?_
  refine j_aloadn1 (pc := 13) hC d_v_rounded_13 ?_
  refine jg_V_66d (pc := 14) hC d_v_rounded_14 ?_
  refine j_mmax (pc := 17) hC mx_V d_v_rounded_17 ⟨Nat.le_of_ble_eq_true rfl, Nat.le_of_ble_eq_true rfl⟩ ?_
  refine J.topi hlast ?_
  have hUle : U ≤ 2144 := by omega
  have kinf : ∀ (s0 : Int64), rdS_d hg mo (wnum wo) 9218868437227405312 → J p l e (rmD 3) s m args below meth c D (va_A (wd g ca len ps sp ng fm df dt wg ex hg mo tp lb wo) sz) 7 (MQ below (jQ D (wd g ca len ps sp ng fm df dt wg ex hg mo tp lb wo) sz (jPl fun r w => ∃ s, rdS_d hg mo (wnum wo) s ∧ r = lN s ∧ w = wd g ca len ps sp ng fm df dt wg ex hg mo tp lb wo)) args s 0 0 (va_A (wd g ca len ps sp ng fm df dt wg ex hg mo tp lb wo) sz)) 36 [some (.ref (g 3)), some (.ref (g 1)), some (.int (pw tn)), some (.int (pw (U + 1))), none, none, none] [] (wd g ca len ps sp ng fm df dt wg ex hg mo tp lb wo) := by
    intro _ hs
    refine j_aloadn1 (pc := 36) hC d_v_rounded_36 ?_
    refine jg_V_78d (pc := 37) hC d_v_rounded_37 ?_
    exact j_lret hC d_v_rounded_40 ⟨_, rfl, 9218868437227405312, hs, rfl, rfl⟩
  refine j_istoren3 (pc := 20) hC d_v_rounded_20 (by decide) (by first | exact trivial | exact rfl) ?_
  refine j_aloadn0 (pc := 21) hC d_v_rounded_21 ?_
  refine jg_V_16 (pc := 22) hC d_v_rounded_22 ?_
  refine j_if_ne (pc := 25) hC 36 d_v_rounded_25 (by decide) (fun h2 => ?_) (fun h2 => ?_)
  · exact kinf 0 ⟨Nat.le_refl _, fun _ => rfl, fun q => absurd q h2⟩
  · refine j_iloadn3 (pc := 28) hC d_v_rounded_28 ?_
    refine j_aloadn1 (pc := 29) hC d_v_rounded_29 ?_
    refine jg_V_75d (pc := 30) hC d_v_rounded_30 ?_
    refine j_icmp_le (pc := 33) hC 41 d_v_rounded_33 (by decide) (fun h3 => ?_) (fun h3 => ?_)
    · have hUg : U < 2060 := by
        rw [i32le, pw_toInt (by omega), show (971 : Int32).toInt = 971 from rfl] at h3
        omega
      have hcb : ∀ k, U ≤ k → wnum wo / 2 ^ k < 2 ^ 53 := fun k hk => by
        rw [Nat.div_lt_iff_lt_mul (Nat.two_pow_pos k), ← Nat.pow_add]
        exact Nat.lt_of_lt_of_le hnb.1 (Nat.pow_le_pow_right (by omega) (by omega))
      -- the end: c rounded
      have k113 : ∀ (cv : Nat) (o : Option Value), cv ≤ 2 ^ 53 → rdS_d hg mo (wnum wo) ((U - 14) * 2 ^ 52 + cv) → J p l e (rmD 3) s m args below meth c D (va_A (wd g ca len ps sp ng fm df dt wg ex hg mo tp lb wo) sz) 7 (MQ below (jQ D (wd g ca len ps sp ng fm df dt wg ex hg mo tp lb wo) sz (jPl fun r w => ∃ s, rdS_d hg mo (wnum wo) s ∧ r = lN s ∧ w = wd g ca len ps sp ng fm df dt wg ex hg mo tp lb wo)) args s 0 0 (va_A (wd g ca len ps sp ng fm df dt wg ex hg mo tp lb wo) sz)) 113 [some (.ref (g 3)), some (.ref (g 1)), some (.int (pw tn)), some (.int (pw (U + 1))), some (.long (lN cv)), none, o] [] (wd g ca len ps sp ng fm df dt wg ex hg mo tp lb wo) := by
        intro cv o hcv hs
        have e1 : pw (U + 1) - -1074 = nI (U - 14) := nI_to (by omega) (by
          have e0 := pw_toInt (n := U + 1) (by omega)
          rw [tsub (by rw [e0, show (-1074 : Int32).toInt = -1074 from rfl]; omega) (by rw [e0, show (-1074 : Int32).toInt = -1074 from rfl]; omega), e0, show (-1074 : Int32).toInt = -1074 from rfl]
          omega)
        refine j_iloadn3 (pc := 113) hC d_v_rounded_113 ?_
        refine j_aloadn1 (pc := 114) hC d_v_rounded_114 ?_
        refine jg_V_66d (pc := 115) hC d_v_rounded_115 ?_
        refine j_isub (pc := 118) hC d_v_rounded_118 ?_
        refine J.topi e1 ?_
        refine j_i2l (pc := 119) hC d_v_rounded_119 ?_
        refine J.topl (nI_l (by omega)) ?_
        refine j_aloadn1 (pc := 120) hC d_v_rounded_120 ?_
        refine jg_V_91d (pc := 121) hC d_v_rounded_121 ?_
        refine j_lmul (pc := 124) hC d_v_rounded_124 ?_
        refine j_lload4 (pc := 125) hC d_v_rounded_125 ?_
        refine j_ladd (pc := 127) hC d_v_rounded_127 ?_
        refine j_lret hC d_v_rounded_128 ⟨_, rfl, _, hs, ?_, rfl⟩
        rw [show (4503599627370496 : Int64) = lN (2 ^ 52) from by decide, lN_mul, lN_add]
      have k75 : ∀ (o : Option Value), J p l e (rmD 3) s m args below meth c D (va_A (wd g ca len ps sp ng fm df dt wg ex hg mo tp lb wo) sz) 7 (MQ below (jQ D (wd g ca len ps sp ng fm df dt wg ex hg mo tp lb wo) sz (jPl fun r w => ∃ s, rdS_d hg mo (wnum wo) s ∧ r = lN s ∧ w = wd g ca len ps sp ng fm df dt wg ex hg mo tp lb wo)) args s 0 0 (va_A (wd g ca len ps sp ng fm df dt wg ex hg mo tp lb wo) sz)) 75 [some (.ref (g 3)), some (.ref (g 1)), some (.int (pw tn)), some (.int (pw (U + 1))), some (.long (lN (wnum wo / 2 ^ U))), none, o] [] (wd g ca len ps sp ng fm df dt wg ex hg mo tp lb wo) := by
        intro o
        have hc53 := hcb U (Nat.le_refl U)
        obtain ⟨V, rfl⟩ : ∃ V, U = V + 1 := ⟨U - 1, by omega⟩
        have hle : (V + 1 - 14) * 2 ^ 52 + 2 ^ 53 ≤ 9218868437227405312 := by
          have h8 : (V + 1 - 14) * 2 ^ 52 ≤ (2060 - 1 - 14) * 2 ^ 52 := Nat.mul_le_mul_right _ (by omega)
          have h9 : (2060 - 1 - 14) * 2 ^ 52 + 2 ^ 53 = 9218868437227405312 := by decide
          exact Nat.le_trans (Nat.add_le_add_right h8 _) (Nat.le_of_eq h9)
        have hbits : hg = 0 → ∀ N M, 0 < M → kA (wnum wo) (decide (mo ≠ 0)) N M → kR 52 14 9218868437227405312 N M (if wnum wo / 2 ^ V % 2 = 1 ∧ (wnum wo / 2 ^ (V + 1) % 2 = 1 ∨ wnum wo % 2 ^ V ≠ 0 ∨ decide (mo ≠ 0) = true) then (V + 1 - 14) * 2 ^ 52 + wnum wo / 2 ^ (V + 1) + 1 else (V + 1 - 14) * 2 ^ 52 + wnum wo / 2 ^ (V + 1)) := by
          intro _ N M hM hA
          refine kR_bits (p := 52) (u := 14) (U := V + 1) (by omega) (by omega) hA rfl hc53 ?_ ?_ (by omega)
          · by_cases hq : V + 1 = 14
            · exact Or.inl hq
            · right
              have hV : V + 1 = tn - 53 := by omega
              have h7 := hnb.2 (by omega)
              rw [Nat.le_div_iff_mul_le (Nat.two_pow_pos _), ← Nat.pow_add]
              exact Nat.le_trans (Nat.pow_le_pow_right (by omega) (by omega)) h7
          · exact Nat.lt_of_lt_of_le (Nat.add_lt_add_left hc53 _) hle
        have kdown : ¬ (wnum wo / 2 ^ V % 2 = 1 ∧ (wnum wo / 2 ^ (V + 1) % 2 = 1 ∨ wnum wo % 2 ^ V ≠ 0 ∨ decide (mo ≠ 0) = true)) → rdS_d hg mo (wnum wo) ((V + 1 - 14) * 2 ^ 52 + wnum wo / 2 ^ (V + 1)) := fun hn => by
          refine ⟨Nat.le_of_lt (Nat.lt_of_lt_of_le (Nat.add_lt_add_left hc53 _) hle), fun q => absurd h2 q, fun q N M hM hA => ?_⟩
          have := hbits q N M hM hA
          rw [if_neg hn] at this
          exact this
        have kup : (wnum wo / 2 ^ V % 2 = 1 ∧ (wnum wo / 2 ^ (V + 1) % 2 = 1 ∨ wnum wo % 2 ^ V ≠ 0 ∨ decide (mo ≠ 0) = true)) → rdS_d hg mo (wnum wo) ((V + 1 - 14) * 2 ^ 52 + (wnum wo / 2 ^ (V + 1) + 1)) := fun hn => by
          refine ⟨Nat.le_trans (Nat.add_le_add_left hc53 _) hle, fun q => absurd h2 q, fun q N M hM hA => ?_⟩
          have := hbits q N M hM hA
          rw [if_pos hn, Nat.add_assoc] at this
          exact this
        have k107 : (wnum wo / 2 ^ V % 2 = 1 ∧ (wnum wo / 2 ^ (V + 1) % 2 = 1 ∨ wnum wo % 2 ^ V ≠ 0 ∨ decide (mo ≠ 0) = true)) → J p l e (rmD 3) s m args below meth c D (va_A (wd g ca len ps sp ng fm df dt wg ex hg mo tp lb wo) sz) 7 (MQ below (jQ D (wd g ca len ps sp ng fm df dt wg ex hg mo tp lb wo) sz (jPl fun r w => ∃ s, rdS_d hg mo (wnum wo) s ∧ r = lN s ∧ w = wd g ca len ps sp ng fm df dt wg ex hg mo tp lb wo)) args s 0 0 (va_A (wd g ca len ps sp ng fm df dt wg ex hg mo tp lb wo) sz)) 107 [some (.ref (g 3)), some (.ref (g 1)), some (.int (pw tn)), some (.int (pw (V + 1 + 1))), some (.long (lN (wnum wo / 2 ^ (V + 1)))), none, o] [] (wd g ca len ps sp ng fm df dt wg ex hg mo tp lb wo) := by
          intro hq
          refine j_lload4 (pc := 107) hC d_v_rounded_107 ?_
          refine j_lconst (pc := 109) (v := 1) hC d_v_rounded_109 (by decide) ?_
          refine j_ladd (pc := 110) hC d_v_rounded_110 ?_
          refine j_lstore4 (pc := 111) hC d_v_rounded_111 (by decide) (by first | exact trivial | exact rfl) ?_
          refine J.to rfl ?_ rfl rfl (k113 (wnum wo / 2 ^ (V + 1) + 1) o (by omega) (kup hq))
          rw [lN_1]
        refine j_aloadn0 (pc := 75) hC d_v_rounded_75 ?_
        refine j_iloadn3 (pc := 76) hC d_v_rounded_76 ?_
        refine j_iconst (pc := 77) (v := 1) hC d_v_rounded_77 (by decide) ?_
        refine j_isub (pc := 78) hC d_v_rounded_78 ?_
        refine J.topi (pw_m1 (by omega)) ?_
        refine j_V1i (pc := 79) (q0 := 3) (ci := 2) hC cw_V_84 (rmD_in (by decide)) (Nat.le_of_ble_eq_true rfl) rfl rfl d_v_rounded_79 (c_v_bitAt V (by omega)) (fun r w2 h5 => ?_)
        obtain ⟨rfl, rfl⟩ := h5
        refine j_iconst (pc := 82) (v := 1) hC d_v_rounded_82 (by decide) ?_
        refine j_icmp_ne (pc := 83) hC 113 d_v_rounded_83 (by decide) (fun h6 => ?_) (fun h6 => ?_)
        · have h6 : ¬ wnum wo / 2 ^ V % 2 = 1 := fun q => h6 (by rw [q]; rfl)
          exact k113 _ o (by omega) (kdown (fun q => h6 q.1))
        · have h6 : wnum wo / 2 ^ V % 2 = 1 := by
            have h7 : nI (wnum wo / 2 ^ V % 2) = nI 1 := h6
            rw [nI_eq (by omega) (by omega)] at h7
            exact h7
          refine j_lload4 (pc := 86) hC d_v_rounded_86 ?_
          refine j_ldc2 (pc := 88) (v := 2) hC mk_V_82 d_v_rounded_88 ?_
          refine j_lrem (pc := 91) hC d_v_rounded_91 (by decide) ?_
          have hc63 : wnum wo / 2 ^ (V + 1) < 2 ^ 63 := Nat.lt_of_lt_of_le hc53 (Nat.pow_le_pow_right (by omega) (by omega))
          refine J.topl (y := lN (wnum wo / 2 ^ (V + 1) % 2)) (by rw [show (2 : Int64) = lN 2 from rfl, pk_lRem hc63 (by omega) (by omega)]) ?_
          refine j_lconst (pc := 92) (v := 1) hC d_v_rounded_92 (by decide) ?_
          refine j_lcmp (pc := 93) hC d_v_rounded_93 ?_
          refine j_if_eq (pc := 94) hC 107 d_v_rounded_94 (by decide) (fun h7 => ?_) (fun h7 => ?_)
          · have h7 : wnum wo / 2 ^ (V + 1) % 2 = 1 := by
              have h8 := (lg_cmp_eq _ _).mp h7
              have h9 : lN (wnum wo / 2 ^ (V + 1) % 2) = lN 1 := h8
              rw [pk_lEQ (by omega) (by omega)] at h9
              exact h9
            exact k107 ⟨h6, Or.inl h7⟩
          · have h7 : ¬ wnum wo / 2 ^ (V + 1) % 2 = 1 := fun q => h7 ((lg_cmp_eq _ _).mpr (by rw [q]; rfl))
            refine j_aloadn0 (pc := 97) hC d_v_rounded_97 ?_
            refine j_iloadn3 (pc := 98) hC d_v_rounded_98 ?_
            refine j_iconst (pc := 99) (v := 1) hC d_v_rounded_99 (by decide) ?_
            refine j_isub (pc := 100) hC d_v_rounded_100 ?_
            refine J.topi (pw_m1 (by omega)) ?_
            refine j_V1i (pc := 101) (q0 := 3) (ci := 2) hC cw_V_87 (rmD_in (by decide)) (Nat.le_of_ble_eq_true rfl) rfl rfl d_v_rounded_101 (c_v_isMoreBelow V (by omega)) (fun r w2 h8 => ?_)
            obtain ⟨rfl, rfl⟩ := h8
            by_cases hm : mo ≠ 0 ∨ wnum wo % 2 ^ V ≠ 0
            · rw [if_pos hm]
              refine j_if_eq (pc := 104) hC 113 d_v_rounded_104 (by decide) (fun h9 => ?_) (fun h9 => ?_)
              · exact absurd h9 (by decide)
              · exact k107 ⟨h6, Or.inr (hm.elim (fun q => Or.inr (decide_eq_true q)) Or.inl)⟩
            · rw [if_neg hm]
              refine j_if_eq (pc := 104) hC 113 d_v_rounded_104 (by decide) (fun h9 => ?_) (fun h9 => ?_)
              · refine k113 _ o (by omega) (kdown ?_)
                rintro ⟨-, q | q | q⟩
                · exact h7 q
                · exact hm (Or.inr q)
                · exact hm (Or.inl (of_decide_eq_true q))
              · exact absurd rfl h9
      have loop : ∀ k, U + k ≤ 2144 → J p l e (rmD 3) s m args below meth c D (va_A (wd g ca len ps sp ng fm df dt wg ex hg mo tp lb wo) sz) 7 (MQ below (jQ D (wd g ca len ps sp ng fm df dt wg ex hg mo tp lb wo) sz (jPl fun r w => ∃ s, rdS_d hg mo (wnum wo) s ∧ r = lN s ∧ w = wd g ca len ps sp ng fm df dt wg ex hg mo tp lb wo)) args s 0 0 (va_A (wd g ca len ps sp ng fm df dt wg ex hg mo tp lb wo) sz)) 47 [some (.ref (g 3)), some (.ref (g 1)), some (.int (pw tn)), some (.int (pw (U + 1))), some (.long (lN (wnum wo / 2 ^ (U + k)))), none, some (.int (pw (U + k)))] [] (wd g ca len ps sp ng fm df dt wg ex hg mo tp lb wo) := by
        intro k
        induction k with
        | zero =>
          intro hk
          refine j_iload6 (pc := 47) hC d_v_rounded_47 ?_
          refine j_iloadn3 (pc := 49) hC d_v_rounded_49 ?_
          refine j_icmp_lt (pc := 50) hC 75 d_v_rounded_50 (by decide) (fun h4 => ?_) (fun h4 => ?_)
          · exact k75 _
          · rw [i32lt, pw_toInt (by omega), pw_toInt (by omega)] at h4
            omega
        | succ k ih =>
          intro hk
          refine j_iload6 (pc := 47) hC d_v_rounded_47 ?_
          refine j_iloadn3 (pc := 49) hC d_v_rounded_49 ?_
          refine j_icmp_lt (pc := 50) hC 75 d_v_rounded_50 (by decide) (fun h4 => ?_) (fun h4 => ?_)
          · rw [i32lt, pw_toInt (by omega), pw_toInt (by omega)] at h4
            omega
          · refine j_ldc2 (pc := 53) (v := 2) hC mk_V_82 d_v_rounded_53 ?_
            refine j_lload4 (pc := 56) hC d_v_rounded_56 ?_
            refine j_lmul (pc := 58) hC d_v_rounded_58 ?_
            refine j_aloadn0 (pc := 59) hC d_v_rounded_59 ?_
            refine j_iload6 (pc := 60) hC d_v_rounded_60 ?_
            refine j_V1i (pc := 62) (q0 := 3) (ci := 2) hC cw_V_84 (rmD_in (by decide)) (Nat.le_of_ble_eq_true rfl) rfl rfl d_v_rounded_62 (c_v_bitAt (U + k) (by omega)) (fun r w2 h5 => ?_)
            obtain ⟨rfl, rfl⟩ := h5
            refine j_i2l (pc := 65) hC d_v_rounded_65 ?_
            refine j_ladd (pc := 66) hC d_v_rounded_66 ?_
            refine j_lstore4 (pc := 67) hC d_v_rounded_67 (by decide) (by first | exact trivial | exact rfl) ?_
            refine j_iinc6 (pc := 69) hC d_v_rounded_69 (by decide) (by first | exact trivial | exact rfl) ?_
            refine j_goto (pc := 72) hC 47 d_v_rounded_72 (by decide) ?_
            refine J.to rfl ?_ rfl rfl (ih (by omega))
            have e1 : 2 * (wnum wo / 2 ^ (U + (k + 1))) + wnum wo / 2 ^ (U + k) % 2 = wnum wo / 2 ^ (U + k) := by
              rw [show U + (k + 1) = U + k + 1 by omega, Nat.pow_succ, ← Nat.div_div_eq_div_mul]
              exact Nat.div_add_mod _ 2
            rw [show (2 : Int64) = lN 2 from rfl, nI_l (by omega), lN_mul, lN_add, e1, show U + (k + 1) = U + k + 1 by omega, pw_dec (by omega)]
      refine j_lconst (pc := 41) (v := 0) hC d_v_rounded_41 (by decide) ?_
      refine j_lstore4 (pc := 42) hC d_v_rounded_42 (by decide) (by first | exact trivial | exact rfl) ?_
      refine j_iloadn2 (pc := 44) hC d_v_rounded_44 ?_
      refine j_istore6 (pc := 45) hC d_v_rounded_45 (by decide) (by first | exact trivial | exact rfl) ?_
      by_cases htU : tn ≤ U
      · have hc0 : wnum wo / 2 ^ U = 0 := Nat.div_eq_of_lt (Nat.lt_of_lt_of_le hnb.1 (Nat.pow_le_pow_right (by omega) htU))
        refine j_iload6 (pc := 47) hC d_v_rounded_47 ?_
        refine j_iloadn3 (pc := 49) hC d_v_rounded_49 ?_
        refine j_icmp_lt (pc := 50) hC 75 d_v_rounded_50 (by decide) (fun h4 => ?_) (fun h4 => ?_)
        · refine J.to rfl ?_ rfl rfl (k75 (some (.int (pw tn))))
          rw [hc0]
          rfl
        · rw [i32lt, pw_toInt (by omega), pw_toInt (by omega)] at h4
          omega
      · refine J.to rfl ?_ rfl rfl (loop (tn - U) (by omega))
        have hc0 : wnum wo / 2 ^ tn = 0 := Nat.div_eq_of_lt hnb.1
        rw [show U + (tn - U) = tn by omega, hc0]
        rfl
    · have hUg : 2060 ≤ U := by
        rw [i32le, pw_toInt (by omega), show (971 : Int32).toInt = 971 from rfl] at h3
        omega
      refine kinf 0 ⟨Nat.le_refl _, fun _ => rfl, fun q N M hM hA => kR_inf (by decide) hM ?_⟩
      rw [kG_inf_d]
      have h5 := hnb.2 (by omega)
      have h6 : 2 ^ 2112 ≤ wnum wo := Nat.le_trans (Nat.pow_le_pow_right (by omega) (by omega)) h5
      have h7 := (hA (2 ^ (2112 - 13))).1
      have e8 : 2 ^ (2112 - 13) * 8192 = 2 ^ 2112 := by rw [show (8192 : Nat) = 2 ^ 13 by decide, ← Nat.pow_add]
      rw [e8] at h7
      exact h7.mpr h6
end VRK

