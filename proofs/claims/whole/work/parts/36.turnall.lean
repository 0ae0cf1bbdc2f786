def T34 : Nat := 4294967296 ^ 34
def B120 : Nat := 1000000000 ^ 120
theorem maC_congr {B T c0 : Nat} {f g : Nat → Nat} {m : Nat} (h : ∀ i, i < m → f i = g i) : ∀ k, k ≤ m → maC B T c0 f m k = maC B T c0 g m k
  | 0, _ => rfl
  | k + 1, hk => by rw [maC, maC, maC_congr h k (by omega), h (m - 1 - k) (by omega)]
theorem maF_congr {B T c0 : Nat} {f g : Nat → Nat} {m : Nat} (h : ∀ i, i < m → f i = g i) (k i : Nat) (hi : i < m) : maF B T c0 f m k i = maF B T c0 g m k i := by
  unfold maF
  rw [h i hi, maC_congr h (m - 1 - i) (by omega)]
theorem Lr0 {lb : Nat → Int32} {f : Nat → Nat} {i : Nat} (h : Lr lb f) (hi : i < 155) : lb i = 0 ↔ f i = 0 := by
  rw [(h i hi).1, show (0 : Int32) = nI 0 from rfl, nI_eq (by have := (h i hi).2; omega) (by omega)]
section VTA
variable {l : Launch} {D : va_G} {X : jX} {g : Nat → Nat} {ca : Nat → ClassId} {len ps sp ng fm df dt wg ex hg mo : Int32} {tp lb wo : Nat → Int32}
set_option maxHeartbeats 4000000 in
theorem c_v_turnBinary_dec (f : Nat → Nat) (hL : Lr lb f) (hw0 : ∀ i, i < 67 → wo i = 0) : jM l y_v_turnBinary b_v_turnBinary 4 none (rmD 1) D (tyD ca) X [.ref (g 3)] (wd g ca len ps sp ng fm df dt wg ex hg mo tp lb wo) (jPv fun w => ∃ (lb2 wo2 : Nat → Int32) (mo2 : Int32), wnum wo2 = hv 1000000000 f 155 * T34 / B120 ∧ (mo2 ≠ 0 ↔ (mo ≠ 0 ∨ hv 1000000000 f 155 * T34 % B120 ≠ 0)) ∧ w = wd g ca len ps sp ng fm df dt wg ex hg (mo2) tp (lb2) (wo2)) := by
  refine jM.of [some (.ref (g 3)), none, none, none] (by simp [jle, jent, Value.category]) rfl (Nat.le_of_ble_eq_true rfl) ?_
  intro p e s m args below meth c sz hC
  -- the end: what the words and the rest say
  have fin : ∀ (mm : Nat) (lb2 wo2 : Nat → Int32) (f2 : Nat → Nat), mm ≤ 120 → (∀ i, mm ≤ i → i < 120 → f (35 + i) = 0) → (∀ i, i < 33 → un (wo2 i) = whW 4294967296 1000000000 33 f 35 i) → (∀ i, i < 34 → un (wo2 (33 + i)) = frW 1000000000 4294967296 mm (fun i => f (35 + i)) i) → (wnum wo2 = hv 1000000000 f 155 * T34 / B120 ∧ (hv 1000000000 f 155 * T34 % B120 ≠ 0 ↔ ∃ i, i < mm ∧ frF 1000000000 4294967296 mm (fun i => f (35 + i)) 34 i ≠ 0)) := by
    intro mm lb2 wo2 f2 hm hz h1 h2
    have hfl : ∀ i, i < 155 → f i < 1000000000 := fun i hi => (hL i hi).2
    have ht := tb_all (B := 1000000000) (T := 4294967296) (m := mm) (n := 120) (f := (fun i => f (35 + i))) (g := f) (Lw := hv 1000000000 f 35) (by omega) hm (fun i hi => hfl (35 + i) (by omega)) hz 34
    have e1 : hv 1000000000 f 155 = hv 1000000000 f 35 * B120 + hv 1000000000 (fun i => f (35 + i)) 120 := hv_app 1000000000 f 35 120
    have e2 : wnum wo2 = hv 4294967296 (fun i => un (wo2 i)) 33 * T34 + hv 4294967296 (fun i => un (wo2 (33 + i))) 34 := hv_app 4294967296 (fun i => un (wo2 i)) 33 34
    have e3 : hv 4294967296 (fun i => un (wo2 i)) 33 = hv 1000000000 f 35 := by
      rw [hv_congr (g := whW 4294967296 1000000000 33 f 35) h1]
      exact wh_sum (by omega) (n := 35) (fun i hi => hfl i (by omega)) (by decide +kernel) (by omega) 35 (Nat.le_refl _)
    have e4 : hv 4294967296 (fun i => un (wo2 (33 + i))) 34 = hv 4294967296 (frW 1000000000 4294967296 mm (fun i => f (35 + i))) 34 := hv_congr h2
    rw [e1, e2, e3, e4]
    exact ⟨ht.1.symm, ht.2⟩
  have loop3 : ∀ (n i : Nat) (mm : Nat) (lb2 wo2 : Nat → Int32) (f2 : Nat → Nat) (mo2 : Int32) (o : Int32) (u : Nat), i + n = mm → mm ≤ 120 → (u = 35 + mm ∨ (u ≤ 35 ∧ mm = 0)) → Lr lb2 f2 → (∀ i, i < mm → f2 (35 + i) = frF 1000000000 4294967296 mm (fun i => f (35 + i)) 34 i) → (wnum wo2 = hv 1000000000 f 155 * T34 / B120 ∧ (hv 1000000000 f 155 * T34 % B120 ≠ 0 ↔ ∃ i, i < mm ∧ frF 1000000000 4294967296 mm (fun i => f (35 + i)) 34 i ≠ 0)) → (mo2 ≠ 0 ↔ (mo ≠ 0 ∨ ∃ j, j < i ∧ frF 1000000000 4294967296 mm (fun i => f (35 + i)) 34 j ≠ 0)) → J p l e (rmD 1) s m args below meth c D (va_A (wd g ca len ps sp ng fm df dt wg ex hg mo tp lb wo) sz) 4 (MQ below (jQ D (wd g ca len ps sp ng fm df dt wg ex hg mo tp lb wo) sz (jPv fun w => ∃ (lb2 wo2 : Nat → Int32) (mo2 : Int32), wnum wo2 = hv 1000000000 f 155 * T34 / B120 ∧ (mo2 ≠ 0 ↔ (mo ≠ 0 ∨ hv 1000000000 f 155 * T34 % B120 ≠ 0)) ∧ w = wd g ca len ps sp ng fm df dt wg ex hg (mo2) tp (lb2) (wo2))) args s 0 0 (va_A (wd g ca len ps sp ng fm df dt wg ex hg mo tp lb wo) sz)) 89 [some (.ref (g 3)), some (.int (nI u)), some (.int o), some (.int (nI (35 + i)))] [] (wd g ca len ps sp ng fm df dt wg ex hg (mo2) tp (lb2) (wo2)) := by
    intro n
    induction n with
    | zero =>
      intro i mm lb2 wo2 f2 mo2 o u hi hm hu hL2 h1 hfin hmo
      have e : i = mm := by omega
      subst e
      refine j_iloadn3 (pc := 89) hC d_v_turnBinary_89 ?_
      refine j_iloadn1 (pc := 90) hC d_v_turnBinary_90 ?_
      refine j_icmp_ge (pc := 91) hC 125 d_v_turnBinary_91 (by decide) (fun h2 => ?_) (fun h2 => ?_)
      · exact j_vret hC d_v_turnBinary_125 ⟨rfl, lb2, wo2, mo2, hfin.1, by rw [hmo, hfin.2], rfl⟩
      · clear hfin hmo
        rw [nI_leI (by omega) (by omega)] at h2
        omega
    | succ n ih =>
      intro i mm lb2 wo2 f2 mo2 o u hi hm hu hL2 h1 hfin hmo
      have hln := Lr0 hL2 (i := 35 + i) (by omega)
      rw [h1 i (by omega)] at hln
      refine j_iloadn3 (pc := 89) hC d_v_turnBinary_89 ?_
      refine j_iloadn1 (pc := 90) hC d_v_turnBinary_90 ?_
      refine j_icmp_ge (pc := 91) hC 125 d_v_turnBinary_91 (by decide) (fun h2 => ?_) (fun h2 => ?_)
      · clear hfin hmo
        rw [nI_leI (by omega) (by omega)] at h2
        omega
      · have next : ∀ mo3 : Int32, (mo3 ≠ 0 ↔ (mo2 ≠ 0 ∨ frF 1000000000 4294967296 mm (fun i => f (35 + i)) 34 i ≠ 0)) → (mo3 ≠ 0 ↔ (mo ≠ 0 ∨ ∃ j, j < i + 1 ∧ frF 1000000000 4294967296 mm (fun i => f (35 + i)) 34 j ≠ 0)) := by
          intro mo3 h
          rw [h, hmo]
          constructor
          · rintro ((q | ⟨j, q1, q2⟩) | q)
            · exact Or.inl q
            · exact Or.inr ⟨j, by omega, q2⟩
            · exact Or.inr ⟨i, by omega, q⟩
          · rintro (q | ⟨j, q1, q2⟩)
            · exact Or.inl (Or.inl q)
            · rcases Nat.lt_or_eq_of_le (Nat.le_of_lt_succ q1) with q | q
              · exact Or.inl (Or.inr ⟨j, q, q2⟩)
              · rw [q] at q2
                exact Or.inr q2
        have k116 : ∀ mo3 : Int32, (mo3 = 0 ∨ mo3 = 1) → (mo3 ≠ 0 ↔ (mo2 ≠ 0 ∨ frF 1000000000 4294967296 mm (fun i => f (35 + i)) 34 i ≠ 0)) → J p l e (rmD 1) s m args below meth c D (va_A (wd g ca len ps sp ng fm df dt wg ex hg mo tp lb wo) sz) 4 (MQ below (jQ D (wd g ca len ps sp ng fm df dt wg ex hg mo tp lb wo) sz (jPv fun w => ∃ (lb2 wo2 : Nat → Int32) (mo2 : Int32), wnum wo2 = hv 1000000000 f 155 * T34 / B120 ∧ (mo2 ≠ 0 ↔ (mo ≠ 0 ∨ hv 1000000000 f 155 * T34 % B120 ≠ 0)) ∧ w = wd g ca len ps sp ng fm df dt wg ex hg (mo2) tp (lb2) (wo2))) args s 0 0 (va_A (wd g ca len ps sp ng fm df dt wg ex hg mo tp lb wo) sz)) 116 [some (.ref (g 3)), some (.int (nI u)), some (.int o), some (.int (nI (35 + i)))] [.int mo3, .ref (g 3)] (wd g ca len ps sp ng fm df dt wg ex hg (mo2) tp (lb2) (wo2)) := by
          intro mo3 h01 h
          refine jp_V_20 (pc := 116) hC (by rcases h01 with rfl | rfl <;> exact ⟨rfl, rfl⟩) d_v_turnBinary_116 ?_
          refine j_iinc3 (pc := 119) hC d_v_turnBinary_119 (by decide) (by first | exact trivial | exact rfl) ?_
          refine j_goto (pc := 122) hC 89 d_v_turnBinary_122 (by decide) ?_
          refine J.to rfl ?_ rfl rfl (ih (i + 1) mm lb2 wo2 f2 mo3 o u (by omega) hm hu hL2 h1 hfin (next mo3 h))
          rw [show 35 + (i + 1) = 35 + i + 1 by omega, ← nI_1]
          rfl
        refine j_aloadn0 (pc := 94) hC d_v_turnBinary_94 ?_
        refine j_aloadn0 (pc := 95) hC d_v_turnBinary_95 ?_
        refine jg_V_20 (pc := 96) hC d_v_turnBinary_96 ?_
        refine j_if_ne (pc := 99) hC 111 d_v_turnBinary_99 (by decide) (fun h3 => ?_) (fun h3 => ?_)
        · refine j_iconst (pc := 111) (v := 1) hC d_v_turnBinary_111 (by decide) ?_
          refine j_goto (pc := 112) hC 116 d_v_turnBinary_112 (by decide) ?_
          exact k116 1 (Or.inr rfl) ⟨fun _ => Or.inl h3, fun _ => by decide⟩
        · refine j_aloadn0 (pc := 102) hC d_v_turnBinary_102 ?_
          refine jg_V_9 (pc := 103) hC d_v_turnBinary_103 ?_
          refine j_iloadn3 (pc := 106) hC d_v_turnBinary_106 ?_
          refine ja_limbs_iaload (pc := 107) hC (vp_in_nI (by omega) (by decide)) d_v_turnBinary_107 ?_
          rw [nI_clamp (show 35 + i < 2 ^ 31 by omega)]
          refine j_if_eq (pc := 108) hC 115 d_v_turnBinary_108 (by decide) (fun h4 => ?_) (fun h4 => ?_)
          · refine j_iconst (pc := 115) (v := 0) hC d_v_turnBinary_115 (by decide) ?_
            exact k116 0 (Or.inl rfl) ⟨fun q => absurd rfl q, fun q => by
              rcases q with q | q
              · exact absurd h3 q
              · exact absurd (hln.mp h4) q⟩
          · refine j_iconst (pc := 111) (v := 1) hC d_v_turnBinary_111 (by decide) ?_
            refine j_goto (pc := 112) hC 116 d_v_turnBinary_112 (by decide) ?_
            exact k116 1 (Or.inr rfl) ⟨fun _ => Or.inr (fun q => h4 (hln.mpr q)), fun _ => by decide⟩
  have loop2 : ∀ (n k : Nat) (mm : Nat) (lb2 wo2 : Nat → Int32) (f2 : Nat → Nat) (o : Int32), k + n = 34 → 0 < mm → mm ≤ 120 → (∀ i, mm ≤ i → i < 120 → f (35 + i) = 0) → Lr lb2 f2 → (∀ i, i < mm → f2 (35 + i) = frF 1000000000 4294967296 mm (fun i => f (35 + i)) k i) → (∀ i, i < 33 → un (wo2 i) = whW 4294967296 1000000000 33 f 35 i) → (∀ i, i < k → un (wo2 (33 + i)) = frW 1000000000 4294967296 mm (fun i => f (35 + i)) i) → J p l e (rmD 1) s m args below meth c D (va_A (wd g ca len ps sp ng fm df dt wg ex hg mo tp lb wo) sz) 4 (MQ below (jQ D (wd g ca len ps sp ng fm df dt wg ex hg mo tp lb wo) sz (jPv fun w => ∃ (lb2 wo2 : Nat → Int32) (mo2 : Int32), wnum wo2 = hv 1000000000 f 155 * T34 / B120 ∧ (mo2 ≠ 0 ↔ (mo ≠ 0 ∨ hv 1000000000 f 155 * T34 % B120 ≠ 0)) ∧ w = wd g ca len ps sp ng fm df dt wg ex hg (mo2) tp (lb2) (wo2))) args s 0 0 (va_A (wd g ca len ps sp ng fm df dt wg ex hg mo tp lb wo) sz)) 57 [some (.ref (g 3)), some (.int (nI (35 + mm))), some (.int o), some (.int (nI (33 + k)))] [] (wd g ca len ps sp ng fm df dt wg ex hg mo tp (lb2) (wo2)) := by
    intro n
    induction n with
    | zero =>
      intro k mm lb2 wo2 f2 o hk hm0 hm hz hL2 h1 h2 h3
      have e : k = 34 := by omega
      subst e
      refine j_iloadn3 (pc := 57) hC d_v_turnBinary_57 ?_
      refine j_bipush (pc := 58) (v := 67) hC d_v_turnBinary_58 (by decide) ?_
      refine j_icmp_ge (pc := 60) hC 86 d_v_turnBinary_60 (by decide) (fun h4 => ?_) (fun h4 => ?_)
      · refine j_bipush (pc := 86) (v := 35) hC d_v_turnBinary_86 (by decide) ?_
        refine j_istoren3 (pc := 88) hC d_v_turnBinary_88 (by decide) (by first | exact trivial | exact rfl) ?_
        exact loop3 mm 0 mm lb2 wo2 f2 mo o (35 + mm) (by omega) hm (Or.inl rfl) hL2 h1 (fin mm lb2 wo2 f2 hm hz h2 h3) ⟨fun q => Or.inl q, fun q => by
          rcases q with q | ⟨j, q, -⟩
          · exact q
          · omega⟩
      · exact absurd (by decide) h4
    | succ n ih =>
      intro k mm lb2 wo2 f2 o hk hm0 hm hz hL2 h1 h2 h3
      refine j_iloadn3 (pc := 57) hC d_v_turnBinary_57 ?_
      refine j_bipush (pc := 58) (v := 67) hC d_v_turnBinary_58 (by decide) ?_
      refine j_icmp_ge (pc := 60) hC 86 d_v_turnBinary_60 (by decide) (fun h4 => ?_) (fun h4 => ?_)
      · have h4 : nI 67 ≤ nI (33 + k) := h4
        rw [nI_leI (by omega) (by omega)] at h4
        omega
      · refine j_iloadn1 (pc := 63) hC d_v_turnBinary_63 ?_
        refine j_bipush (pc := 64) (v := 35) hC d_v_turnBinary_64 (by decide) ?_
        refine j_icmp_le (pc := 66) hC 86 d_v_turnBinary_66 (by decide) (fun h5 => ?_) (fun h5 => ?_)
        · have h5 : nI (35 + mm) ≤ nI 35 := h5
          rw [nI_leI (by omega) (by omega)] at h5
          omega
        · refine j_aloadn0 (pc := 69) hC d_v_turnBinary_69 ?_
          refine jg_V_13 (pc := 70) hC d_v_turnBinary_70 ?_
          refine j_iloadn3 (pc := 73) hC d_v_turnBinary_73 ?_
          refine j_aloadn0 (pc := 74) hC d_v_turnBinary_74 ?_
          refine j_iloadn1 (pc := 75) hC d_v_turnBinary_75 ?_
          refine j_V1i (pc := 76) (q0 := 3) (ci := 2) hC cw_V_50 (rmD_in (by decide)) (Nat.le_of_ble_eq_true rfl) rfl rfl d_v_turnBinary_76 (c_v_takeFractionWord f2 mm hm hL2) (fun r w2 h6 => ?_)
          obtain ⟨lb3, f3, hL3, q1, q2, rfl, rfl⟩ := h6
          have hc : ∀ i, i < mm → (fun i => f2 (35 + i)) i = frF 1000000000 4294967296 mm (fun i => f (35 + i)) k i := h1
          have hcw : maC 1000000000 4294967296 0 (fun i => f2 (35 + i)) mm mm = frW 1000000000 4294967296 mm (fun i => f (35 + i)) k := maC_congr hc mm (Nat.le_refl mm)
          have hfl : ∀ i, i < mm → (fun i => f (35 + i)) i < 1000000000 := fun i hi => (hL (35 + i) (by omega)).2
          have hwl := frW_lt (B := 1000000000) (T := 4294967296) (m := mm) (f := (fun i => f (35 + i))) (by omega) (by omega) hfl k
          refine ja_words_iastore (pc := 79) hC (vp_in_nI (by omega) (by decide)) d_v_turnBinary_79 ?_
          rw [nI_clamp (show 33 + k < 2 ^ 31 by omega)]
          refine j_iinc3 (pc := 80) hC d_v_turnBinary_80 (by decide) (by first | exact trivial | exact rfl) ?_
          refine j_goto (pc := 83) hC 57 d_v_turnBinary_83 (by decide) ?_
          refine J.to rfl ?_ rfl rfl (ih (k + 1) mm lb3 _ f3 o (by omega) hm0 hm hz hL3 (fun i hi => ?_) (fun i hi => ?_) (fun i hi => ?_))
          · rw [show 33 + (k + 1) = 33 + k + 1 by omega, ← nI_1]
            rfl
          · rw [q1 i hi, frF]
            exact maF_congr hc mm i hi
          · unfold upd
            rw [if_neg (by omega)]
            exact h2 i hi
          · unfold upd
            by_cases e : i = k
            · subst e
              rw [if_pos rfl, hcw, un_nI, Nat.mod_eq_of_lt hwl]
            · rw [if_neg (by omega)]
              exact h3 i (by omega)
  have k54 : ∀ (u : Nat) (wo2 : Nat → Int32) (o o2 : Int32), u ≤ 155 → (∀ i, u ≤ i → i < 155 → lb i = 0) → (∀ i, i < 33 → un (wo2 i) = whW 4294967296 1000000000 33 f 35 i) → (∀ i, 33 ≤ i → i < 67 → wo2 i = 0) → J p l e (rmD 1) s m args below meth c D (va_A (wd g ca len ps sp ng fm df dt wg ex hg mo tp lb wo) sz) 4 (MQ below (jQ D (wd g ca len ps sp ng fm df dt wg ex hg mo tp lb wo) sz (jPv fun w => ∃ (lb2 wo2 : Nat → Int32) (mo2 : Int32), wnum wo2 = hv 1000000000 f 155 * T34 / B120 ∧ (mo2 ≠ 0 ↔ (mo ≠ 0 ∨ hv 1000000000 f 155 * T34 % B120 ≠ 0)) ∧ w = wd g ca len ps sp ng fm df dt wg ex hg (mo2) tp (lb2) (wo2))) args s 0 0 (va_A (wd g ca len ps sp ng fm df dt wg ex hg mo tp lb wo) sz)) 54 [some (.ref (g 3)), some (.int (nI u)), some (.int o), some (.int o2)] [] (wd g ca len ps sp ng fm df dt wg ex hg mo tp lb (wo2)) := by
    intro u wo2 o o2 hu hz h1 h2
    refine j_bipush (pc := 54) (v := 33) hC d_v_turnBinary_54 (by decide) ?_
    refine j_istoren3 (pc := 56) hC d_v_turnBinary_56 (by decide) (by first | exact trivial | exact rfl) ?_
    by_cases hu35 : 35 < u
    · obtain ⟨mm, rfl⟩ : ∃ mm, u = 35 + mm := ⟨u - 35, by omega⟩
      exact loop2 34 0 mm lb wo2 f o (by omega) (by omega) (by omega) (fun i q1 q2 => (Lr0 hL (by omega)).mp (hz (35 + i) (by omega) (by omega))) hL (fun i _ => rfl) h1 (fun i q => absurd q (by omega))
    · refine j_iloadn3 (pc := 57) hC d_v_turnBinary_57 ?_
      refine j_bipush (pc := 58) (v := 67) hC d_v_turnBinary_58 (by decide) ?_
      refine j_icmp_ge (pc := 60) hC 86 d_v_turnBinary_60 (by decide) (fun h4 => ?_) (fun h4 => ?_)
      · exact absurd h4 (by decide)
      · refine j_iloadn1 (pc := 63) hC d_v_turnBinary_63 ?_
        refine j_bipush (pc := 64) (v := 35) hC d_v_turnBinary_64 (by decide) ?_
        refine j_icmp_le (pc := 66) hC 86 d_v_turnBinary_66 (by decide) (fun h5 => ?_) (fun h5 => ?_)
        · refine j_bipush (pc := 86) (v := 35) hC d_v_turnBinary_86 (by decide) ?_
          refine j_istoren3 (pc := 88) hC d_v_turnBinary_88 (by decide) (by first | exact trivial | exact rfl) ?_
          refine loop3 0 0 0 lb wo2 f mo o u rfl (by omega) (Or.inr ⟨by omega, rfl⟩) hL (fun i q => absurd q (by omega)) (fin 0 lb wo2 f (by omega) (fun i q1 q2 => (Lr0 hL (by omega)).mp (hz (35 + i) (by omega) (by omega))) h1 (fun i hi => ?_)) ⟨fun q => Or.inl q, fun q => ?_⟩
          · rw [h2 (33 + i) (by omega) (by omega)]
            rfl
          · rcases q with q | ⟨j, q, -⟩
            · exact q
            · omega
        · have h5 : ¬ nI u ≤ nI 35 := h5
          rw [nI_leI (by omega) (by omega)] at h5
          omega
  have loop1 : ∀ (n i : Nat) (u : Nat) (wo2 : Nat → Int32) (st : Int32), i + n = 35 → u ≤ 155 → (∀ i, u ≤ i → i < 155 → lb i = 0) → (st = 0 ∧ (∀ j, j < i → f j = 0) ∨ st = 1) → (∀ j, j < 33 → un (wo2 j) = whW 4294967296 1000000000 33 f i j) → (∀ j, 33 ≤ j → j < 67 → wo2 j = 0) → J p l e (rmD 1) s m args below meth c D (va_A (wd g ca len ps sp ng fm df dt wg ex hg mo tp lb wo) sz) 4 (MQ below (jQ D (wd g ca len ps sp ng fm df dt wg ex hg mo tp lb wo) sz (jPv fun w => ∃ (lb2 wo2 : Nat → Int32) (mo2 : Int32), wnum wo2 = hv 1000000000 f 155 * T34 / B120 ∧ (mo2 ≠ 0 ↔ (mo ≠ 0 ∨ hv 1000000000 f 155 * T34 % B120 ≠ 0)) ∧ w = wd g ca len ps sp ng fm df dt wg ex hg (mo2) tp (lb2) (wo2))) args s 0 0 (va_A (wd g ca len ps sp ng fm df dt wg ex hg mo tp lb wo) sz)) 9 [some (.ref (g 3)), some (.int (nI u)), some (.int st), some (.int (nI i))] [] (wd g ca len ps sp ng fm df dt wg ex hg mo tp lb (wo2)) := by
    intro n
    induction n with
    | zero =>
      intro i u wo2 st hi hu hz hst h1 h2
      have e : i = 35 := by omega
      subst e
      refine j_iloadn3 (pc := 9) hC d_v_turnBinary_9 ?_
      refine j_bipush (pc := 10) (v := 35) hC d_v_turnBinary_10 (by decide) ?_
      refine j_icmp_ge (pc := 12) hC 54 d_v_turnBinary_12 (by decide) (fun h3 => ?_) (fun h3 => ?_)
      · exact k54 u wo2 st _ hu hz h1 h2
      · exact absurd (by decide) h3
    | succ n ih =>
      intro i u wo2 st hi hu hz hst h1 h2
      have hln := Lr0 hL (i := i) (by omega)
      have hli := hL i (by omega)
      refine j_iloadn3 (pc := 9) hC d_v_turnBinary_9 ?_
      refine j_bipush (pc := 10) (v := 35) hC d_v_turnBinary_10 (by decide) ?_
      refine j_icmp_ge (pc := 12) hC 54 d_v_turnBinary_12 (by decide) (fun h3 => ?_) (fun h3 => ?_)
      · have h3 : nI 35 ≤ nI i := h3
        rw [nI_leI (by omega) (by omega)] at h3
        omega
      · have k48 : ∀ (st2 : Int32) (wo3 : Nat → Int32), (st2 = 0 ∧ (∀ j, j < i + 1 → f j = 0) ∨ st2 = 1) → (∀ j, j < 33 → un (wo3 j) = whW 4294967296 1000000000 33 f (i + 1) j) → (∀ j, 33 ≤ j → j < 67 → wo3 j = 0) → J p l e (rmD 1) s m args below meth c D (va_A (wd g ca len ps sp ng fm df dt wg ex hg mo tp lb wo) sz) 4 (MQ below (jQ D (wd g ca len ps sp ng fm df dt wg ex hg mo tp lb wo) sz (jPv fun w => ∃ (lb2 wo2 : Nat → Int32) (mo2 : Int32), wnum wo2 = hv 1000000000 f 155 * T34 / B120 ∧ (mo2 ≠ 0 ↔ (mo ≠ 0 ∨ hv 1000000000 f 155 * T34 % B120 ≠ 0)) ∧ w = wd g ca len ps sp ng fm df dt wg ex hg (mo2) tp (lb2) (wo2))) args s 0 0 (va_A (wd g ca len ps sp ng fm df dt wg ex hg mo tp lb wo) sz)) 48 [some (.ref (g 3)), some (.int (nI u)), some (.int st2), some (.int (nI i))] [] (wd g ca len ps sp ng fm df dt wg ex hg mo tp lb (wo3)) := by
          intro st2 wo3 q1 q2 q3
          refine j_iinc3 (pc := 48) hC d_v_turnBinary_48 (by decide) (by first | exact trivial | exact rfl) ?_
          refine j_goto (pc := 51) hC 9 d_v_turnBinary_51 (by decide) ?_
          refine J.to rfl ?_ rfl rfl (ih (i + 1) u wo3 st2 (by omega) hu hz q1 q2 q3)
          rw [← nI_1]
          rfl
        have k28 : J p l e (rmD 1) s m args below meth c D (va_A (wd g ca len ps sp ng fm df dt wg ex hg mo tp lb wo) sz) 4 (MQ below (jQ D (wd g ca len ps sp ng fm df dt wg ex hg mo tp lb wo) sz (jPv fun w => ∃ (lb2 wo2 : Nat → Int32) (mo2 : Int32), wnum wo2 = hv 1000000000 f 155 * T34 / B120 ∧ (mo2 ≠ 0 ↔ (mo ≠ 0 ∨ hv 1000000000 f 155 * T34 % B120 ≠ 0)) ∧ w = wd g ca len ps sp ng fm df dt wg ex hg (mo2) tp (lb2) (wo2))) args s 0 0 (va_A (wd g ca len ps sp ng fm df dt wg ex hg mo tp lb wo) sz)) 28 [some (.ref (g 3)), some (.int (nI u)), some (.int st), some (.int (nI i))] [] (wd g ca len ps sp ng fm df dt wg ex hg mo tp lb (wo2)) := by
          refine j_iconst (pc := 28) (v := 1) hC d_v_turnBinary_28 (by decide) ?_
          refine j_goto (pc := 29) hC 33 d_v_turnBinary_29 (by decide) ?_
          refine j_istoren2 (pc := 33) hC d_v_turnBinary_33 (by decide) (by first | exact trivial | exact rfl) ?_
          refine j_iloadn2 (pc := 34) hC d_v_turnBinary_34 ?_
          refine j_if_eq (pc := 35) hC 48 d_v_turnBinary_35 (by decide) (fun h4 => ?_) (fun h4 => ?_)
          · exact absurd h4 (by decide)
          · refine j_aloadn0 (pc := 38) hC d_v_turnBinary_38 ?_
            refine j_aloadn0 (pc := 39) hC d_v_turnBinary_39 ?_
            refine jg_V_9 (pc := 40) hC d_v_turnBinary_40 ?_
            refine j_iloadn3 (pc := 43) hC d_v_turnBinary_43 ?_
            refine ja_limbs_iaload (pc := 44) hC (vp_in_nI (by omega) (by decide)) d_v_turnBinary_44 ?_
            rw [nI_clamp (show i < 2 ^ 31 by omega), hli.1]
            refine j_V1v (pc := 45) (q0 := 3) (ci := 2) hC cw_V_47 (rmD_in (by decide)) (Nat.le_of_ble_eq_true rfl) rfl rfl d_v_turnBinary_45 (c_v_appendWholeLimb (f i) hli.2) (fun w2 h5 => ?_)
            obtain ⟨wo3, q1, q2, rfl⟩ := h5
            refine k48 1 wo3 (Or.inr rfl) (fun j hj => ?_) (fun j hj hj2 => by rw [q2 j hj]; exact h2 j hj hj2)
            rw [q1 j hj, whW]
            exact maF_congr h1 33 j hj
        rcases hst with ⟨rfl, hz2⟩ | rfl
        · refine j_iloadn2 (pc := 15) hC d_v_turnBinary_15 ?_
          refine j_if_ne (pc := 16) hC 28 d_v_turnBinary_16 (by decide) (fun h4 => ?_) (fun h4 => ?_)
          · exact absurd rfl h4
          · refine j_aloadn0 (pc := 19) hC d_v_turnBinary_19 ?_
            refine jg_V_9 (pc := 20) hC d_v_turnBinary_20 ?_
            refine j_iloadn3 (pc := 23) hC d_v_turnBinary_23 ?_
            refine ja_limbs_iaload (pc := 24) hC (vp_in_nI (by omega) (by decide)) d_v_turnBinary_24 ?_
            rw [nI_clamp (show i < 2 ^ 31 by omega)]
            refine j_if_eq (pc := 25) hC 32 d_v_turnBinary_25 (by decide) (fun h5 => ?_) (fun h5 => ?_)
            · refine j_iconst (pc := 32) (v := 0) hC d_v_turnBinary_32 (by decide) ?_
              refine j_istoren2 (pc := 33) hC d_v_turnBinary_33 (by decide) (by first | exact trivial | exact rfl) ?_
              refine j_iloadn2 (pc := 34) hC d_v_turnBinary_34 ?_
              refine j_if_eq (pc := 35) hC 48 d_v_turnBinary_35 (by decide) (fun h6 => ?_) (fun h6 => ?_)
              · have hz3 : ∀ j, j < i + 1 → f j = 0 := fun j hj => by
                  rcases Nat.lt_or_eq_of_le (Nat.le_of_lt_succ hj) with q | q
                  · exact hz2 j q
                  · rw [q]; exact hln.mp h5
                refine k48 0 wo2 (Or.inl ⟨rfl, hz3⟩) (fun j hj => ?_) h2
                rw [h1 j hj, whW_0 i hz2, whW_0 (i + 1) hz3]
              · exact absurd rfl h6
            · exact k28
        · refine j_iloadn2 (pc := 15) hC d_v_turnBinary_15 ?_
          refine j_if_ne (pc := 16) hC 28 d_v_turnBinary_16 (by decide) (fun h4 => ?_) (fun h4 => ?_)
          · exact k28
          · exact absurd h4 (by decide)
  refine j_aloadn0 (pc := 0) hC d_v_turnBinary_0 ?_
  refine j_V0i (pc := 1) (q0 := 3) (ci := 2) hC cw_V_43 (rmD_in (by decide)) (Nat.le_of_ble_eq_true rfl) rfl rfl d_v_turnBinary_1 (c_v_usedLimbs) (fun r w2 h1 => ?_)
  obtain ⟨u, hu, hz, -, rfl, rfl⟩ := h1
  refine j_istoren1 (pc := 4) hC d_v_turnBinary_4 (by decide) (by first | exact trivial | exact rfl) ?_
  refine j_iconst (pc := 5) (v := 0) hC d_v_turnBinary_5 (by decide) ?_
  refine j_istoren2 (pc := 6) hC d_v_turnBinary_6 (by decide) (by first | exact trivial | exact rfl) ?_
  refine j_iconst (pc := 7) (v := 0) hC d_v_turnBinary_7 (by decide) ?_
  refine j_istoren3 (pc := 8) hC d_v_turnBinary_8 (by decide) (by first | exact trivial | exact rfl) ?_
  exact loop1 35 0 u wo 0 rfl hu hz (Or.inl ⟨rfl, fun j hj => by omega⟩) (fun j q => by rw [hw0 j (by omega)]; rfl) (fun j _ q => hw0 j q)
set_option maxHeartbeats 4000000 in
theorem c_v_turnBinary_hex (hz : ∀ i, i < 155 → lb i = 0) : jM l y_v_turnBinary b_v_turnBinary 4 none (rmD 1) D (tyD ca) X [.ref (g 3)] (wd g ca len ps sp ng fm df dt wg ex hg mo tp lb wo) (jPv fun w => w = wd g ca len ps sp ng fm df dt wg ex hg mo tp lb wo) := by
  refine jM.of [some (.ref (g 3)), none, none, none] (by simp [jle, jent, Value.category]) rfl (Nat.le_of_ble_eq_true rfl) ?_
  intro p e s m args below meth c sz hC
  have loop1 : ∀ (n i : Nat), i + n = 35 → J p l e (rmD 1) s m args below meth c D (va_A (wd g ca len ps sp ng fm df dt wg ex hg mo tp lb wo) sz) 4 (MQ below (jQ D (wd g ca len ps sp ng fm df dt wg ex hg mo tp lb wo) sz (jPv fun w => w = wd g ca len ps sp ng fm df dt wg ex hg mo tp lb wo)) args s 0 0 (va_A (wd g ca len ps sp ng fm df dt wg ex hg mo tp lb wo) sz)) 9 [some (.ref (g 3)), some (.int (nI 0)), some (.int 0), some (.int (nI i))] [] (wd g ca len ps sp ng fm df dt wg ex hg mo tp lb wo) := by
    intro n
    induction n with
    | zero =>
      intro i hi
      have e : i = 35 := by omega
      subst e
      refine j_iloadn3 (pc := 9) hC d_v_turnBinary_9 ?_
      refine j_bipush (pc := 10) (v := 35) hC d_v_turnBinary_10 (by decide) ?_
      refine j_icmp_ge (pc := 12) hC 54 d_v_turnBinary_12 (by decide) (fun h3 => ?_) (fun h3 => ?_)
      · refine j_bipush (pc := 54) (v := 33) hC d_v_turnBinary_54 (by decide) ?_
        refine j_istoren3 (pc := 56) hC d_v_turnBinary_56 (by decide) (by first | exact trivial | exact rfl) ?_
        refine j_iloadn3 (pc := 57) hC d_v_turnBinary_57 ?_
        refine j_bipush (pc := 58) (v := 67) hC d_v_turnBinary_58 (by decide) ?_
        refine j_icmp_ge (pc := 60) hC 86 d_v_turnBinary_60 (by decide) (fun h4 => ?_) (fun h4 => ?_)
        · exact absurd h4 (by decide)
        · refine j_iloadn1 (pc := 63) hC d_v_turnBinary_63 ?_
          refine j_bipush (pc := 64) (v := 35) hC d_v_turnBinary_64 (by decide) ?_
          refine j_icmp_le (pc := 66) hC 86 d_v_turnBinary_66 (by decide) (fun h5 => ?_) (fun h5 => ?_)
          · refine j_bipush (pc := 86) (v := 35) hC d_v_turnBinary_86 (by decide) ?_
            refine j_istoren3 (pc := 88) hC d_v_turnBinary_88 (by decide) (by first | exact trivial | exact rfl) ?_
            refine j_iloadn3 (pc := 89) hC d_v_turnBinary_89 ?_
            refine j_iloadn1 (pc := 90) hC d_v_turnBinary_90 ?_
            refine j_icmp_ge (pc := 91) hC 125 d_v_turnBinary_91 (by decide) (fun h6 => ?_) (fun h6 => ?_)
            · exact j_vret hC d_v_turnBinary_125 ⟨rfl, rfl⟩
            · exact absurd (by decide) h6
          · exact absurd (by decide) h5
      · exact absurd (by decide) h3
    | succ n ih =>
      intro i hi
      refine j_iloadn3 (pc := 9) hC d_v_turnBinary_9 ?_
      refine j_bipush (pc := 10) (v := 35) hC d_v_turnBinary_10 (by decide) ?_
      refine j_icmp_ge (pc := 12) hC 54 d_v_turnBinary_12 (by decide) (fun h3 => ?_) (fun h3 => ?_)
      · have h3 : nI 35 ≤ nI i := h3
        rw [nI_leI (by omega) (by omega)] at h3
        omega
      · refine j_iloadn2 (pc := 15) hC d_v_turnBinary_15 ?_
        refine j_if_ne (pc := 16) hC 28 d_v_turnBinary_16 (by decide) (fun h4 => ?_) (fun h4 => ?_)
        · exact absurd rfl h4
        · refine j_aloadn0 (pc := 19) hC d_v_turnBinary_19 ?_
          refine jg_V_9 (pc := 20) hC d_v_turnBinary_20 ?_
          refine j_iloadn3 (pc := 23) hC d_v_turnBinary_23 ?_
          refine ja_limbs_iaload (pc := 24) hC (vp_in_nI (by omega) (by decide)) d_v_turnBinary_24 ?_
          rw [nI_clamp (show i < 2 ^ 31 by omega), hz i (by omega)]
          refine j_if_eq (pc := 25) hC 32 d_v_turnBinary_25 (by decide) (fun h5 => ?_) (fun h5 => ?_)
          · refine j_iconst (pc := 32) (v := 0) hC d_v_turnBinary_32 (by decide) ?_
            refine j_istoren2 (pc := 33) hC d_v_turnBinary_33 (by decide) (by first | exact trivial | exact rfl) ?_
            refine j_iloadn2 (pc := 34) hC d_v_turnBinary_34 ?_
            refine j_if_eq (pc := 35) hC 48 d_v_turnBinary_35 (by decide) (fun h6 => ?_) (fun h6 => ?_)
            · refine j_iinc3 (pc := 48) hC d_v_turnBinary_48 (by decide) (by first | exact trivial | exact rfl) ?_
              refine j_goto (pc := 51) hC 9 d_v_turnBinary_51 (by decide) ?_
              refine J.to rfl ?_ rfl rfl (ih (i + 1) (by omega))
              rw [← nI_1]
              rfl
            · exact absurd rfl h6
          · exact absurd rfl h5
  refine j_aloadn0 (pc := 0) hC d_v_turnBinary_0 ?_
  refine j_V0i (pc := 1) (q0 := 3) (ci := 2) hC cw_V_43 (rmD_in (by decide)) (Nat.le_of_ble_eq_true rfl) rfl rfl d_v_turnBinary_1 (c_v_usedLimbs) (fun r w2 h1 => ?_)
  obtain ⟨u, hu, -, hne, rfl, rfl⟩ := h1
  have hu0 : u = 0 := by
    rcases Nat.eq_zero_or_pos u with q | q
    · exact q
    · exact absurd (hz (u - 1) (by omega)) (hne q)
  subst hu0
  refine j_istoren1 (pc := 4) hC d_v_turnBinary_4 (by decide) (by first | exact trivial | exact rfl) ?_
  refine j_iconst (pc := 5) (v := 0) hC d_v_turnBinary_5 (by decide) ?_
  refine j_istoren2 (pc := 6) hC d_v_turnBinary_6 (by decide) (by first | exact trivial | exact rfl) ?_
  refine j_iconst (pc := 7) (v := 0) hC d_v_turnBinary_7 (by decide) ?_
  refine j_istoren3 (pc := 8) hC d_v_turnBinary_8 (by decide) (by first | exact trivial | exact rfl) ?_
  exact loop1 35 0 rfl
end VTA

