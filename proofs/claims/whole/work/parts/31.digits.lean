/-! THE CLASS: digits and exponent -/
/-- the digits at a: hexadecimal or not; from c0 n1 digits, then (behind a point) from c2 n2; the end c3 -/
def scD (t : Nat → Int32) (a z : Nat) (hx : Bool) (c0 n1 n2 c2 c3 : Nat) : Prop := (hx = true ↔ hxs t a z) ∧ c0 = a + (if hx then 2 else 0) ∧ n1 = rn t (if hx then 16 else 10) c0 (z - c0) ∧ ((isc t (c0 + n1) z 46 ∧ c2 = c0 + n1 + 1 ∧ n2 = rn t (if hx then 16 else 10) c2 (z - c2)) ∨ (¬ isc t (c0 + n1) z 46 ∧ c2 = c0 + n1 ∧ n2 = 0)) ∧ c3 = c2 + n2
theorem scD_le {t : Nat → Int32} {a z : Nat} {hx : Bool} {c0 n1 n2 c2 c3 : Nat} (ha : a ≤ z) (h : scD t a z hx c0 n1 n2 c2 c3) : a ≤ c0 ∧ c0 + n1 ≤ c2 ∧ c2 ≤ c0 + n1 + 1 ∧ c3 ≤ z ∧ c3 = c2 + n2 := by
  obtain ⟨h1, h2, h3, h4, h5⟩ := h
  have hc0 : c0 ≤ z := by
    cases hx with
    | false => simp at h2; omega
    | true =>
      have := h1.mp rfl
      have := this.1
      simp at h2
      omega
  have hr := rn_le t (if hx then 16 else 10) (z - c0) c0
  rcases h4 with ⟨g1, g2, g3⟩ | ⟨g1, g2, g3⟩
  · have hr2 := rn_le t (if hx then 16 else 10) (z - c2) c2
    have := g1.1
    cases hx <;> simp_all <;> omega
  · cases hx <;> simp_all <;> omega
section SD
variable {l : Launch} {D : va_G} {X : jX} {g : Nat → Nat} {ca : Nat → ClassId} {len ps sp ng fm df dt wg ex hg mo : Int32} {tp lb wo : Nat → Int32}
set_option maxHeartbeats 2000000 in
theorem c_scanDigits (a z : Nat) (hz : z ≤ 8192) (ha : a ≤ z) : jM l y_scanDigits b_scanDigits 3 (some .boolean) (rmD 2) D (tyD ca) X [.ref (g 0)] (wd g ca len (nI a) (nI z) ng fm df dt wg ex hg mo tp lb wo) (jPi fun r w => ∃ (hx : Bool) (c0 n1 n2 c2 c3 : Nat), scD tp a z hx c0 n1 n2 c2 c3 ∧ r = (if 0 < n1 + n2 then 1 else 0) ∧ w = wd g ca len (nI c3) (nI z) ng (if hx then 3 else 2) (nI c0) (nI c3) (nI n1) ex hg mo tp lb wo) := by
  refine jM.of [some (.ref (g 0)), none, none] (by simp [jle, jent, Value.category]) rfl (Nat.le_of_ble_eq_true rfl) ?_
  intro p e s m args below meth c sz hC
  have k71 : ∀ (hx : Bool) (c0 n1 n2 c2 c3 b : Nat), scD tp a z hx c0 n1 n2 c2 c3 → J p l e (rmD 2) s m args below meth c D (va_A (wd g ca len (nI a) (nI z) ng fm df dt wg ex hg mo tp lb wo) sz) 3 (MQ below (jQ D (wd g ca len (nI a) (nI z) ng fm df dt wg ex hg mo tp lb wo) sz (jPi fun r w => ∃ (hx : Bool) (c0 n1 n2 c2 c3 : Nat), scD tp a z hx c0 n1 n2 c2 c3 ∧ r = (if 0 < n1 + n2 then 1 else 0) ∧ w = wd g ca len (nI c3) (nI z) ng (if hx then 3 else 2) (nI c0) (nI c3) (nI n1) ex hg mo tp lb wo)) args s 0 0 (va_A (wd g ca len (nI a) (nI z) ng fm df dt wg ex hg mo tp lb wo) sz)) 71 [some (.ref (g 0)), some (.int (nI b)), some (.int (nI (n1 + n2)))] [] (wd g ca len (nI c3) (nI z) ng (if hx then 3 else 2) (nI c0) dt (nI n1) ex hg mo tp lb wo) := by
    intro hx c0 n1 n2 c2 c3 b hs
    have hle := scD_le ha hs
    refine j_aloadn0 (pc := 71) hC d_scanDigits_71 ?_
    refine j_aloadn0 (pc := 72) hC d_scanDigits_72 ?_
    refine jg_R_114 (pc := 73) hC d_scanDigits_73 ?_
    refine jp_R_141 (pc := 76) hC d_scanDigits_76 ?_
    refine j_iloadn2 (pc := 79) hC d_scanDigits_79 ?_
    refine j_if_le (pc := 80) hC 87 d_scanDigits_80 (by decide) (fun h1 => ?_) (fun h1 => ?_)
    · refine j_iconst (pc := 87) (v := 0) hC d_scanDigits_87 (by decide) ?_
      have h1 : nI (n1 + n2) ≤ nI 0 := h1
      rw [nI_leI (by omega) (by omega)] at h1
      exact j_zret hC rfl d_scanDigits_88 ⟨0, rfl, hx, c0, n1, n2, c2, c3, hs, by rw [if_neg (by omega)], rfl⟩
    · refine j_iconst (pc := 83) (v := 1) hC d_scanDigits_83 (by decide) ?_
      refine j_goto (pc := 84) hC 88 d_scanDigits_84 (by decide) ?_
      have h1 : ¬ nI (n1 + n2) ≤ nI 0 := h1
      rw [nI_leI (by omega) (by omega)] at h1
      exact j_zret hC rfl d_scanDigits_88 ⟨1, rfl, hx, c0, n1, n2, c2, c3, hs, by rw [if_pos (by omega)], rfl⟩
  have k31 : ∀ (hx : Bool) (c0 b : Nat), (hx = true ↔ hxs tp a z) → c0 = a + (if hx then 2 else 0) → b = (if hx then 16 else 10) → b ≤ 16 → c0 ≤ z → J p l e (rmD 2) s m args below meth c D (va_A (wd g ca len (nI a) (nI z) ng fm df dt wg ex hg mo tp lb wo) sz) 3 (MQ below (jQ D (wd g ca len (nI a) (nI z) ng fm df dt wg ex hg mo tp lb wo) sz (jPi fun r w => ∃ (hx : Bool) (c0 n1 n2 c2 c3 : Nat), scD tp a z hx c0 n1 n2 c2 c3 ∧ r = (if 0 < n1 + n2 then 1 else 0) ∧ w = wd g ca len (nI c3) (nI z) ng (if hx then 3 else 2) (nI c0) (nI c3) (nI n1) ex hg mo tp lb wo)) args s 0 0 (va_A (wd g ca len (nI a) (nI z) ng fm df dt wg ex hg mo tp lb wo) sz)) 31 [some (.ref (g 0)), none, none] [.int (nI b)] (wd g ca len (nI c0) (nI z) ng (if hx then 3 else 2) df dt wg ex hg mo tp lb wo) := by
    intro hx c0 b hh hc0 hb hb16 hcz
    refine j_istoren1 (pc := 31) hC d_scanDigits_31 (by decide) (by first | exact trivial | exact rfl) ?_
    refine j_aloadn0 (pc := 32) hC d_scanDigits_32 ?_
    refine j_aloadn0 (pc := 33) hC d_scanDigits_33 ?_
    refine jg_R_114 (pc := 34) hC d_scanDigits_34 ?_
    refine jp_R_127 (pc := 37) hC d_scanDigits_37 ?_
    refine j_aloadn0 (pc := 40) hC d_scanDigits_40 ?_
    refine j_aloadn0 (pc := 41) hC d_scanDigits_41 ?_
    refine j_iloadn1 (pc := 42) hC d_scanDigits_42 ?_
    refine j_V1i (pc := 43) (q0 := 0) (ci := 0) hC cw_R_130 (rmD_in (by decide)) (Nat.le_of_ble_eq_true rfl) rfl rfl d_scanDigits_43 (c_skipDigits b c0 z hb16 hz hcz) (fun r w2 h1 => ?_)
    obtain ⟨rfl, rfl⟩ := h1
    have hr := rn_le tp b (z - c0) c0
    generalize hn1 : rn tp b c0 (z - c0) = n1 at hr
    refine jp_R_134 (pc := 46) hC d_scanDigits_46 ?_
    refine j_aloadn0 (pc := 49) hC d_scanDigits_49 ?_
    refine jg_R_134 (pc := 50) hC d_scanDigits_50 ?_
    refine j_istoren2 (pc := 53) hC d_scanDigits_53 (by decide) (by first | exact trivial | exact rfl) ?_
    refine j_aloadn0 (pc := 54) hC d_scanDigits_54 ?_
    refine j_bipush (pc := 55) (v := 46) hC d_scanDigits_55 (by decide) ?_
    refine j_V1i (pc := 57) (q0 := 0) (ci := 0) hC cw_R_137 (rmD_in (by decide)) (Nat.le_of_ble_eq_true rfl) rfl rfl d_scanDigits_57 (c_take 46 (c0 + n1) z hz (by omega)) (fun r w2 h2 => ?_)
    rcases h2 with ⟨h2, rfl, rfl⟩ | ⟨h2, rfl, rfl⟩
    · have h2a := h2.1
      refine j_if_eq (pc := 60) hC 71 d_scanDigits_60 (by decide) (fun h3 => ?_) (fun h3 => ?_)
      · exact absurd h3 (by decide)
      · refine j_iloadn2 (pc := 63) hC d_scanDigits_63 ?_
        refine j_aloadn0 (pc := 64) hC d_scanDigits_64 ?_
        refine j_iloadn1 (pc := 65) hC d_scanDigits_65 ?_
        refine j_V1i (pc := 66) (q0 := 0) (ci := 0) hC cw_R_130 (rmD_in (by decide)) (Nat.le_of_ble_eq_true rfl) rfl rfl d_scanDigits_66 (c_skipDigits b (c0 + n1 + 1) z hb16 hz (by omega)) (fun r w2 h4 => ?_)
        obtain ⟨rfl, rfl⟩ := h4
        generalize hn2 : rn tp b (c0 + n1 + 1) (z - (c0 + n1 + 1)) = n2
        refine j_iadd (pc := 69) hC d_scanDigits_69 ?_
        refine j_istoren2 (pc := 70) hC d_scanDigits_70 (by decide) (by first | exact trivial | exact rfl) ?_
        refine J.to rfl ?_ rfl rfl (k71 hx c0 n1 n2 (c0 + n1 + 1) (c0 + n1 + 1 + n2) b ⟨hh, hc0, by rw [← hb, hn1], Or.inl ⟨h2, rfl, by rw [← hb, hn2]⟩, rfl⟩)
        rw [nI_add]
    · refine j_if_eq (pc := 60) hC 71 d_scanDigits_60 (by decide) (fun h3 => ?_) (fun h3 => ?_)
      · exact k71 hx c0 n1 0 (c0 + n1) (c0 + n1) b ⟨hh, hc0, by rw [← hb, hn1], Or.inr ⟨h2, rfl, rfl⟩, rfl⟩
      · exact absurd rfl h3
  refine j_aloadn0 (pc := 0) hC d_scanDigits_0 ?_
  refine j_aloadn0 (pc := 1) hC d_scanDigits_1 ?_
  refine j_V0i (pc := 2) (q0 := 0) (ci := 0) hC cw_R_124 (rmD_in (by decide)) (Nat.le_of_ble_eq_true rfl) rfl rfl d_scanDigits_2 (c_takeHexStart a z hz ha) (fun r w2 h1 => ?_)
  rcases h1 with ⟨h1, rfl, rfl⟩ | ⟨h1, rfl, rfl⟩
  · refine j_if_eq (pc := 5) hC 12 d_scanDigits_5 (by decide) (fun h2 => ?_) (fun h2 => ?_)
    · exact absurd h2 (by decide)
    · refine j_iconst (pc := 8) (v := 3) hC d_scanDigits_8 (by decide) ?_
      refine j_goto (pc := 9) hC 13 d_scanDigits_9 (by decide) ?_
      refine jp_R_68 (pc := 13) hC d_scanDigits_13 ?_
      refine j_aloadn0 (pc := 16) hC d_scanDigits_16 ?_
      refine jg_R_68 (pc := 17) hC d_scanDigits_17 ?_
      refine j_iconst (pc := 20) (v := 3) hC d_scanDigits_20 (by decide) ?_
      refine j_icmp_ne (pc := 21) hC 29 d_scanDigits_21 (by decide) (fun h3 => ?_) (fun h3 => ?_)
      · exact absurd rfl h3
      · refine j_bipush (pc := 24) (v := 16) hC d_scanDigits_24 (by decide) ?_
        refine j_goto (pc := 26) hC 31 d_scanDigits_26 (by decide) ?_
        exact k31 true (a + 2) 16 ⟨fun _ => h1, fun _ => rfl⟩ rfl rfl (by omega) (by have := h1.1; omega)
  · refine j_if_eq (pc := 5) hC 12 d_scanDigits_5 (by decide) (fun h2 => ?_) (fun h2 => ?_)
    · refine j_iconst (pc := 12) (v := 2) hC d_scanDigits_12 (by decide) ?_
      refine jp_R_68 (pc := 13) hC d_scanDigits_13 ?_
      refine j_aloadn0 (pc := 16) hC d_scanDigits_16 ?_
      refine jg_R_68 (pc := 17) hC d_scanDigits_17 ?_
      refine j_iconst (pc := 20) (v := 3) hC d_scanDigits_20 (by decide) ?_
      refine j_icmp_ne (pc := 21) hC 29 d_scanDigits_21 (by decide) (fun h3 => ?_) (fun h3 => ?_)
      · refine j_bipush (pc := 29) (v := 10) hC d_scanDigits_29 (by decide) ?_
        exact k31 false a 10 ⟨fun q => (by cases q), fun q => absurd q h1⟩ rfl rfl (by omega) ha
      · exact absurd h3 (by decide)
    · exact absurd rfl h2
/-- an exponent's digits, cut where lim is reached -/
def xC (t : Nat → Int32) (c lim : Nat) : Nat → Nat
  | 0 => 0
  | k + 1 => if xC t c lim k < lim then 10 * xC t c lim k + dg (t (c + k)) else xC t c lim k
theorem xC_lt {t : Nat → Int32} {c lim : Nat} : ∀ k, (∀ i, i < k → dg (t (c + i)) < 10) → 0 < lim → xC t c lim k < 10 * lim
  | 0, _, h => by simp [xC]; omega
  | k + 1, hd, h => by
    have ih := xC_lt (t := t) (c := c) k (fun i hi => hd i (by omega)) h
    have := hd k (by omega)
    unfold xC
    split <;> omega
theorem xC_stay {t : Nat → Int32} {c lim k : Nat} (h : lim ≤ xC t c lim k) : ∀ d, xC t c lim (k + d) = xC t c lim k
  | 0 => rfl
  | d + 1 => by
    have ih := xC_stay h d
    rw [← Nat.add_assoc, xC, ih, if_neg (by omega)]
/-- the exponent at c3: there or not, its minus, its digits from c5 on, their number, its end -/
def scE (t : Nat → Int32) (c3 z : Nat) (hx : Bool) (ok : Bool) (mi : Prop) (c5 n3 c6 : Nat) : Prop :=
  (¬ (isc t c3 z (if hx then 112 else 101) ∨ isc t c3 z (if hx then 80 else 69)) ∧ ok = !hx ∧ ¬ mi ∧ c5 = c3 ∧ n3 = 0 ∧ c6 = c3) ∨
  ((isc t c3 z (if hx then 112 else 101) ∨ isc t c3 z (if hx then 80 else 69)) ∧ (mi ↔ sgM t (c3 + 1) z) ∧ (sgP t (c3 + 1) z ∧ c5 = c3 + 2 ∨ ¬ sgP t (c3 + 1) z ∧ c5 = c3 + 1) ∧ n3 = rn t 10 c5 (z - c5) ∧ c6 = c5 + n3 ∧ ok = decide (0 < n3))
set_option maxHeartbeats 4000000 in
theorem c_scanExponent (hx : Bool) (c3 z : Nat) (hz : z ≤ 8192) (ha : c3 ≤ z) : jM l y_scanExponent b_scanExponent 6 (some .boolean) (rmD 2) D (tyD ca) X [.ref (g 0)] (wd g ca len (nI c3) (nI z) ng (if hx then 3 else 2) df dt wg ex hg mo tp lb wo) (jPi fun r w => ∃ (ok : Bool) (mi : Bool) (c5 n3 c6 : Nat), scE tp c3 z hx ok (mi = true) c5 n3 c6 ∧ r = (if ok then 1 else 0) ∧ w = wd g ca len (nI c6) (nI z) ng (if hx then 3 else 2) df dt wg (if mi then -nI (xC tp c5 1000000 n3) else nI (xC tp c5 1000000 n3)) hg mo tp lb wo) := by
  refine jM.of [some (.ref (g 0)), none, none, none, none, none] (by simp [jle, jent, Value.category]) rfl (Nat.le_of_ble_eq_true rfl) ?_
  intro p e s m args below meth c sz hC
  have k161 : ∀ (mi : Bool) (c5 n3 : Nat) (o : Option Value), c5 + n3 ≤ z → scE tp c3 z hx (decide (0 < n3)) (mi = true) c5 n3 (c5 + n3) → J p l e (rmD 2) s m args below meth c D (va_A (wd g ca len (nI c3) (nI z) ng (if hx then 3 else 2) df dt wg ex hg mo tp lb wo) sz) 6 (MQ below (jQ D (wd g ca len (nI c3) (nI z) ng (if hx then 3 else 2) df dt wg ex hg mo tp lb wo) sz (jPi fun r w => ∃ (ok : Bool) (mi : Bool) (c5 n3 c6 : Nat), scE tp c3 z hx ok (mi = true) c5 n3 c6 ∧ r = (if ok then 1 else 0) ∧ w = wd g ca len (nI c6) (nI z) ng (if hx then 3 else 2) df dt wg (if mi then -nI (xC tp c5 1000000 n3) else nI (xC tp c5 1000000 n3)) hg mo tp lb wo)) args s 0 0 (va_A (wd g ca len (nI c3) (nI z) ng (if hx then 3 else 2) df dt wg ex hg mo tp lb wo) sz)) 161 [some (.ref (g 0)), some (.int 1), some (.int (if mi then 1 else 0)), some (.int (nI c5)), some (.int (nI (c5 + n3))), o] [] (wd g ca len (nI (c5 + n3)) (nI z) ng (if hx then 3 else 2) df dt wg (if mi then -nI (xC tp c5 1000000 n3) else nI (xC tp c5 1000000 n3)) hg mo tp lb wo) := by
    intro mi c5 n3 o hle hs
    refine j_iload4 (pc := 161) hC d_scanExponent_161 ?_
    refine j_iloadn3 (pc := 163) hC d_scanExponent_163 ?_
    refine j_icmp_le (pc := 164) hC 171 d_scanExponent_164 (by decide) (fun h1 => ?_) (fun h1 => ?_)
    · refine j_iconst (pc := 171) (v := 0) hC d_scanExponent_171 (by decide) ?_
      rw [nI_leI (by omega) (by omega)] at h1
      exact j_zret hC rfl d_scanExponent_172 ⟨0, rfl, decide (0 < n3), mi, c5, n3, c5 + n3, hs, by rw [show n3 = 0 by omega]; rfl, rfl⟩
    · refine j_iconst (pc := 167) (v := 1) hC d_scanExponent_167 (by decide) ?_
      refine j_goto (pc := 168) hC 172 d_scanExponent_168 (by decide) ?_
      rw [nI_leI (by omega) (by omega)] at h1
      exact j_zret hC rfl d_scanExponent_172 ⟨1, rfl, decide (0 < n3), mi, c5, n3, c5 + n3, hs, by rw [decide_eq_true (show 0 < n3 by omega)]; rfl, rfl⟩
  have k148 : ∀ (mi : Bool) (c5 n3 : Nat) (o : Option Value), c5 + n3 ≤ z → scE tp c3 z hx (decide (0 < n3)) (mi = true) c5 n3 (c5 + n3) → J p l e (rmD 2) s m args below meth c D (va_A (wd g ca len (nI c3) (nI z) ng (if hx then 3 else 2) df dt wg ex hg mo tp lb wo) sz) 6 (MQ below (jQ D (wd g ca len (nI c3) (nI z) ng (if hx then 3 else 2) df dt wg ex hg mo tp lb wo) sz (jPi fun r w => ∃ (ok : Bool) (mi : Bool) (c5 n3 c6 : Nat), scE tp c3 z hx ok (mi = true) c5 n3 c6 ∧ r = (if ok then 1 else 0) ∧ w = wd g ca len (nI c6) (nI z) ng (if hx then 3 else 2) df dt wg (if mi then -nI (xC tp c5 1000000 n3) else nI (xC tp c5 1000000 n3)) hg mo tp lb wo)) args s 0 0 (va_A (wd g ca len (nI c3) (nI z) ng (if hx then 3 else 2) df dt wg ex hg mo tp lb wo) sz)) 148 [some (.ref (g 0)), some (.int 1), some (.int (if mi then 1 else 0)), some (.int (nI c5)), some (.int (nI (c5 + n3))), o] [] (wd g ca len (nI (c5 + n3)) (nI z) ng (if hx then 3 else 2) df dt wg (nI (xC tp c5 1000000 n3)) hg mo tp lb wo) := by
    intro mi c5 n3 o hle hs
    cases mi with
    | true =>
      refine j_iloadn2 (pc := 148) hC d_scanExponent_148 ?_
      refine j_if_eq (pc := 149) hC 161 d_scanExponent_149 (by decide) (fun h1 => ?_) (fun h1 => ?_)
      · exact absurd h1 (by decide)
      · refine j_aloadn0 (pc := 152) hC d_scanExponent_152 ?_
        refine j_aloadn0 (pc := 153) hC d_scanExponent_153 ?_
        refine jg_R_144 (pc := 154) hC d_scanExponent_154 ?_
        refine j_ineg (pc := 157) hC d_scanExponent_157 ?_
        refine jp_R_144 (pc := 158) hC d_scanExponent_158 ?_
        exact k161 true c5 n3 o hle hs
    | false =>
      refine j_iloadn2 (pc := 148) hC d_scanExponent_148 ?_
      refine j_if_eq (pc := 149) hC 161 d_scanExponent_149 (by decide) (fun h1 => ?_) (fun h1 => ?_)
      · exact k161 false c5 n3 o hle hs
      · exact absurd rfl h1
  have loop : ∀ (n k : Nat) (mi : Bool) (c5 n3 : Nat), c5 + n3 ≤ z → (∀ i, i < n3 → dg (tp (c5 + i)) < 10) → scE tp c3 z hx (decide (0 < n3)) (mi = true) c5 n3 (c5 + n3) → k + n = n3 → J p l e (rmD 2) s m args below meth c D (va_A (wd g ca len (nI c3) (nI z) ng (if hx then 3 else 2) df dt wg ex hg mo tp lb wo) sz) 6 (MQ below (jQ D (wd g ca len (nI c3) (nI z) ng (if hx then 3 else 2) df dt wg ex hg mo tp lb wo) sz (jPi fun r w => ∃ (ok : Bool) (mi : Bool) (c5 n3 c6 : Nat), scE tp c3 z hx ok (mi = true) c5 n3 c6 ∧ r = (if ok then 1 else 0) ∧ w = wd g ca len (nI c6) (nI z) ng (if hx then 3 else 2) df dt wg (if mi then -nI (xC tp c5 1000000 n3) else nI (xC tp c5 1000000 n3)) hg mo tp lb wo)) args s 0 0 (va_A (wd g ca len (nI c3) (nI z) ng (if hx then 3 else 2) df dt wg ex hg mo tp lb wo) sz)) 104 [some (.ref (g 0)), some (.int 1), some (.int (if mi then 1 else 0)), some (.int (nI c5)), some (.int (nI (c5 + n3))), some (.int (nI (c5 + k)))] [] (wd g ca len (nI (c5 + n3)) (nI z) ng (if hx then 3 else 2) df dt wg (nI (xC tp c5 1000000 k)) hg mo tp lb wo) := by
    intro n
    induction n with
    | zero =>
      intro k mi c5 n3 hle hd hs hk
      have e : k = n3 := by omega
      subst e
      refine j_iload5 (pc := 104) hC d_scanExponent_104 ?_
      refine j_iload4 (pc := 106) hC d_scanExponent_106 ?_
      refine j_icmp_ge (pc := 108) hC 148 d_scanExponent_108 (by decide) (fun h1 => ?_) (fun h1 => ?_)
      · exact k148 mi c5 k _ hle hs
      · rw [nI_leI (by omega) (by omega)] at h1
        omega
    | succ n ih =>
      intro k mi c5 n3 hle hd hs hk
      have hlt := xC_lt (t := tp) (c := c5) (lim := 1000000) k (fun i hi => hd i (by omega)) (by omega)
      refine j_iload5 (pc := 104) hC d_scanExponent_104 ?_
      refine j_iload4 (pc := 106) hC d_scanExponent_106 ?_
      refine j_icmp_ge (pc := 108) hC 148 d_scanExponent_108 (by decide) (fun h1 => ?_) (fun h1 => ?_)
      · rw [nI_leI (by omega) (by omega)] at h1
        omega
      · refine j_aloadn0 (pc := 111) hC d_scanExponent_111 ?_
        refine jg_R_144 (pc := 112) hC d_scanExponent_112 ?_
        refine j_ldc (pc := 115) (v := 1000000) hC mk_R_147 d_scanExponent_115 ?_
        refine j_icmp_ge (pc := 117) hC 148 d_scanExponent_117 (by decide) (fun h2 => ?_) (fun h2 => ?_)
        · have h2 : nI 1000000 ≤ nI (xC tp c5 1000000 k) := h2
          rw [nI_leI (by omega) (by omega)] at h2
          refine J.to rfl rfl rfl ?_ (k148 mi c5 n3 _ hle hs)
          rw [show n3 = k + (n + 1) by omega, xC_stay h2]
        · have h2 : ¬ nI 1000000 ≤ nI (xC tp c5 1000000 k) := h2
          rw [nI_leI (by omega) (by omega)] at h2
          have hcl : (nI (c5 + k)).toNatClampNeg = c5 + k := nI_clamp (by omega)
          refine j_aloadn0 (pc := 120) hC d_scanExponent_120 ?_
          refine j_bipush (pc := 121) (v := 10) hC d_scanExponent_121 (by decide) ?_
          refine j_aloadn0 (pc := 123) hC d_scanExponent_123 ?_
          refine jg_R_144 (pc := 124) hC d_scanExponent_124 ?_
          refine j_imul (pc := 127) hC d_scanExponent_127 ?_
          refine j_aloadn0 (pc := 128) hC d_scanExponent_128 ?_
          refine jg_R_28 (pc := 129) hC d_scanExponent_129 ?_
          refine j_iload5 (pc := 132) hC d_scanExponent_132 ?_
          refine ja_tape_baload (pc := 134) hC (vp_in_nI (by omega) (by decide)) d_scanExponent_134 ?_
          refine j_S1i (pc := 135) hC cw_R_148 (rmD_in (by decide)) (Nat.le_of_ble_eq_true rfl) d_scanExponent_135 (c_digitOf _) (fun r w2 h3 => ?_)
          obtain ⟨rfl, rfl⟩ := h3
          refine j_iadd (pc := 138) hC d_scanExponent_138 ?_
          refine jp_R_144 (pc := 139) hC d_scanExponent_139 ?_
          refine j_iinc5 (pc := 142) hC d_scanExponent_142 (by decide) (by first | exact trivial | exact rfl) ?_
          refine j_goto (pc := 145) hC 104 d_scanExponent_145 (by decide) ?_
          refine J.to rfl ?_ rfl ?_ (ih (k + 1) mi c5 n3 hle hd hs (by omega))
          · rw [show c5 + (k + 1) = c5 + k + 1 by omega, ← nI_1]
            rfl
          · have e9 : xC tp c5 1000000 (k + 1) = 10 * xC tp c5 1000000 k + dg (tp (c5 + k)) := by rw [xC, if_pos (by omega)]
            rw [hcl, e9, show (10 : Int32) = nI 10 from rfl, pk_mul, nI_add]
  have k81 : (isc tp c3 z (if hx then 112 else 101) ∨ isc tp c3 z (if hx then 80 else 69)) → J p l e (rmD 2) s m args below meth c D (va_A (wd g ca len (nI c3) (nI z) ng (if hx then 3 else 2) df dt wg ex hg mo tp lb wo) sz) 6 (MQ below (jQ D (wd g ca len (nI c3) (nI z) ng (if hx then 3 else 2) df dt wg ex hg mo tp lb wo) sz (jPi fun r w => ∃ (ok : Bool) (mi : Bool) (c5 n3 c6 : Nat), scE tp c3 z hx ok (mi = true) c5 n3 c6 ∧ r = (if ok then 1 else 0) ∧ w = wd g ca len (nI c6) (nI z) ng (if hx then 3 else 2) df dt wg (if mi then -nI (xC tp c5 1000000 n3) else nI (xC tp c5 1000000 n3)) hg mo tp lb wo)) args s 0 0 (va_A (wd g ca len (nI c3) (nI z) ng (if hx then 3 else 2) df dt wg ex hg mo tp lb wo) sz)) 81 [some (.ref (g 0)), some (.int 1), none, none, none, none] [] (wd g ca len (nI (c3 + 1)) (nI z) ng (if hx then 3 else 2) df dt wg (0) hg mo tp lb wo) := by
    intro ht
    have hlt : c3 < z := ht.elim (fun q => q.1) (fun q => q.1)
    refine j_aloadn0 (pc := 81) hC d_scanExponent_81 ?_
    refine j_V0i (pc := 82) (q0 := 0) (ci := 0) hC cw_R_94 (rmD_in (by decide)) (Nat.le_of_ble_eq_true rfl) rfl rfl d_scanExponent_82 (c_takeSign (c3 + 1) z hz (by omega)) (fun r w2 h1 => ?_)
    obtain ⟨c5, h1, h2, rfl⟩ := h1
    have hc5 : c5 ≤ z := by
      rcases h2 with ⟨q, rfl⟩ | ⟨q, rfl⟩
      · rcases q with q | q <;> exact q.1
      · omega
    obtain ⟨mi, hr, hmi⟩ : ∃ mi : Bool, r = (if mi then 1 else 0) ∧ (mi = true ↔ sgM tp (c3 + 1) z) := by
      rcases h1 with ⟨q, e⟩ | ⟨q, e⟩
      · exact ⟨true, e, fun _ => q, fun _ => rfl⟩
      · exact ⟨false, e, fun z => (by cases z), fun z => absurd z q⟩
    subst hr
    refine j_istoren2 (pc := 85) hC d_scanExponent_85 (by decide) (by first | exact trivial | exact rfl) ?_
    refine j_aloadn0 (pc := 86) hC d_scanExponent_86 ?_
    refine jg_R_114 (pc := 87) hC d_scanExponent_87 ?_
    refine j_istoren3 (pc := 90) hC d_scanExponent_90 (by decide) (by first | exact trivial | exact rfl) ?_
    refine j_iloadn3 (pc := 91) hC d_scanExponent_91 ?_
    refine j_aloadn0 (pc := 92) hC d_scanExponent_92 ?_
    refine j_bipush (pc := 93) (v := 10) hC d_scanExponent_93 (by decide) ?_
    refine j_V1i (pc := 95) (q0 := 0) (ci := 0) hC cw_R_130 (rmD_in (by decide)) (Nat.le_of_ble_eq_true rfl) rfl rfl d_scanExponent_95 (c_skipDigits 10 c5 z (by omega) hz hc5) (fun r w2 h3 => ?_)
    obtain ⟨rfl, rfl⟩ := h3
    have hrl := rn_le tp 10 (z - c5) c5
    have hri := rn_in tp 10 (z - c5) c5
    have hs : scE tp c3 z hx (decide (0 < rn tp 10 c5 (z - c5))) (mi = true) c5 (rn tp 10 c5 (z - c5)) (c5 + rn tp 10 c5 (z - c5)) := Or.inr ⟨ht, hmi, by rcases h2 with ⟨q, e⟩ | ⟨q, e⟩; exact Or.inl ⟨q, by omega⟩; exact Or.inr ⟨q, e⟩, rfl, rfl, rfl⟩
    generalize rn tp 10 c5 (z - c5) = n3 at hrl hri hs
    refine j_iadd (pc := 98) hC d_scanExponent_98 ?_
    refine j_istore4 (pc := 99) hC d_scanExponent_99 (by decide) (by first | exact trivial | exact rfl) ?_
    refine j_iloadn3 (pc := 101) hC d_scanExponent_101 ?_
    refine j_istore5 (pc := 102) hC d_scanExponent_102 (by decide) (by first | exact trivial | exact rfl) ?_
    refine J.to rfl ?_ rfl rfl (loop n3 0 mi c5 n3 (by omega) hri hs (by omega))
    rw [nI_add]
    rfl
  have k62y : (isc tp c3 z (if hx then 112 else 101) ∨ isc tp c3 z (if hx then 80 else 69)) → J p l e (rmD 2) s m args below meth c D (va_A (wd g ca len (nI c3) (nI z) ng (if hx then 3 else 2) df dt wg ex hg mo tp lb wo) sz) 6 (MQ below (jQ D (wd g ca len (nI c3) (nI z) ng (if hx then 3 else 2) df dt wg ex hg mo tp lb wo) sz (jPi fun r w => ∃ (ok : Bool) (mi : Bool) (c5 n3 c6 : Nat), scE tp c3 z hx ok (mi = true) c5 n3 c6 ∧ r = (if ok then 1 else 0) ∧ w = wd g ca len (nI c6) (nI z) ng (if hx then 3 else 2) df dt wg (if mi then -nI (xC tp c5 1000000 n3) else nI (xC tp c5 1000000 n3)) hg mo tp lb wo)) args s 0 0 (va_A (wd g ca len (nI c3) (nI z) ng (if hx then 3 else 2) df dt wg ex hg mo tp lb wo) sz)) 62 [some (.ref (g 0)), none, none, none, none, none] [.int 1] (wd g ca len (nI (c3 + 1)) (nI z) ng (if hx then 3 else 2) df dt wg (0) hg mo tp lb wo) := by
    intro ht
    refine j_istoren1 (pc := 62) hC d_scanExponent_62 (by decide) (by first | exact trivial | exact rfl) ?_
    refine j_iloadn1 (pc := 63) hC d_scanExponent_63 ?_
    refine j_if_ne (pc := 64) hC 81 d_scanExponent_64 (by decide) (fun h1 => ?_) (fun h1 => ?_)
    · exact k81 ht
    · exact absurd h1 (by decide)
  have k62n : ¬ (isc tp c3 z (if hx then 112 else 101) ∨ isc tp c3 z (if hx then 80 else 69)) → J p l e (rmD 2) s m args below meth c D (va_A (wd g ca len (nI c3) (nI z) ng (if hx then 3 else 2) df dt wg ex hg mo tp lb wo) sz) 6 (MQ below (jQ D (wd g ca len (nI c3) (nI z) ng (if hx then 3 else 2) df dt wg ex hg mo tp lb wo) sz (jPi fun r w => ∃ (ok : Bool) (mi : Bool) (c5 n3 c6 : Nat), scE tp c3 z hx ok (mi = true) c5 n3 c6 ∧ r = (if ok then 1 else 0) ∧ w = wd g ca len (nI c6) (nI z) ng (if hx then 3 else 2) df dt wg (if mi then -nI (xC tp c5 1000000 n3) else nI (xC tp c5 1000000 n3)) hg mo tp lb wo)) args s 0 0 (va_A (wd g ca len (nI c3) (nI z) ng (if hx then 3 else 2) df dt wg ex hg mo tp lb wo) sz)) 62 [some (.ref (g 0)), none, none, none, none, none] [.int 0] (wd g ca len (nI c3) (nI z) ng (if hx then 3 else 2) df dt wg (0) hg mo tp lb wo) := by
    intro hn
    refine j_istoren1 (pc := 62) hC d_scanExponent_62 (by decide) (by first | exact trivial | exact rfl) ?_
    refine j_iloadn1 (pc := 63) hC d_scanExponent_63 ?_
    refine j_if_ne (pc := 64) hC 81 d_scanExponent_64 (by decide) (fun h1 => ?_) (fun h1 => ?_)
    · exact absurd rfl h1
    · refine j_aloadn0 (pc := 67) hC d_scanExponent_67 ?_
      refine jg_R_68 (pc := 68) hC d_scanExponent_68 ?_
      refine j_iconst (pc := 71) (v := 2) hC d_scanExponent_71 (by decide) ?_
      refine j_icmp_ne (pc := 72) hC 79 d_scanExponent_72 (by decide) (fun h2 => ?_) (fun h2 => ?_)
      · refine j_iconst (pc := 79) (v := 0) hC d_scanExponent_79 (by decide) ?_
        have hxt : hx = true := by
          cases hx
          · exact absurd rfl h2
          · rfl
        exact j_zret hC rfl d_scanExponent_80 ⟨0, rfl, false, false, c3, 0, c3, Or.inl ⟨hn, by rw [hxt]; rfl, by decide, rfl, rfl, rfl⟩, rfl, rfl⟩
      · refine j_iconst (pc := 75) (v := 1) hC d_scanExponent_75 (by decide) ?_
        refine j_goto (pc := 76) hC 80 d_scanExponent_76 (by decide) ?_
        have hxf : hx = false := by
          cases hx
          · rfl
          · exact absurd h2 (by decide)
        exact j_zret hC rfl d_scanExponent_80 ⟨1, rfl, true, false, c3, 0, c3, Or.inl ⟨hn, by rw [hxf]; rfl, by decide, rfl, rfl, rfl⟩, rfl, rfl⟩
  cases hx with
  | true =>
    refine j_aloadn0 (pc := 0) hC d_scanExponent_0 ?_
    refine j_iconst (pc := 1) (v := 0) hC d_scanExponent_1 (by decide) ?_
    refine jp_R_144 (pc := 2) hC d_scanExponent_2 ?_
    refine j_aloadn0 (pc := 5) hC d_scanExponent_5 ?_
    refine jg_R_68 (pc := 6) hC d_scanExponent_6 ?_
    refine j_iconst (pc := 9) (v := 3) hC d_scanExponent_9 (by decide) ?_
    refine j_icmp_ne (pc := 10) hC 39 d_scanExponent_10 (by decide) (fun h1 => ?_) (fun h1 => ?_)
    · exact absurd rfl h1
    · refine j_aloadn0 (pc := 13) hC d_scanExponent_13 ?_
      refine j_bipush (pc := 14) (v := 112) hC d_scanExponent_14 (by decide) ?_
      refine j_V1i (pc := 16) (q0 := 0) (ci := 0) hC cw_R_137 (rmD_in (by decide)) (Nat.le_of_ble_eq_true rfl) rfl rfl d_scanExponent_16 (c_take 112 c3 z hz ha) (fun r w2 h2 => ?_)
      rcases h2 with ⟨h2, rfl, rfl⟩ | ⟨h2, rfl, rfl⟩
      · refine j_if_ne (pc := 19) hC 31 d_scanExponent_19 (by decide) (fun h3 => ?_) (fun h3 => ?_)
        · refine j_iconst (pc := 31) (v := 1) hC d_scanExponent_31 (by decide) ?_
          refine j_goto (pc := 32) hC 62 d_scanExponent_32 (by decide) ?_
          exact k62y (Or.inl h2)
        · exact absurd h3 (by decide)
      · refine j_if_ne (pc := 19) hC 31 d_scanExponent_19 (by decide) (fun h3 => ?_) (fun h3 => ?_)
        · exact absurd rfl h3
        · refine j_aloadn0 (pc := 22) hC d_scanExponent_22 ?_
          refine j_bipush (pc := 23) (v := 80) hC d_scanExponent_23 (by decide) ?_
          refine j_V1i (pc := 25) (q0 := 0) (ci := 0) hC cw_R_137 (rmD_in (by decide)) (Nat.le_of_ble_eq_true rfl) rfl rfl d_scanExponent_25 (c_take 80 c3 z hz ha) (fun r w2 h4 => ?_)
          rcases h4 with ⟨h4, rfl, rfl⟩ | ⟨h4, rfl, rfl⟩
          · refine j_if_eq (pc := 28) hC 35 d_scanExponent_28 (by decide) (fun h5 => ?_) (fun h5 => ?_)
            · exact absurd h5 (by decide)
            · refine j_iconst (pc := 31) (v := 1) hC d_scanExponent_31 (by decide) ?_
              refine j_goto (pc := 32) hC 62 d_scanExponent_32 (by decide) ?_
              exact k62y (Or.inr h4)
          · refine j_if_eq (pc := 28) hC 35 d_scanExponent_28 (by decide) (fun h5 => ?_) (fun h5 => ?_)
            · refine j_iconst (pc := 35) (v := 0) hC d_scanExponent_35 (by decide) ?_
              refine j_goto (pc := 36) hC 62 d_scanExponent_36 (by decide) ?_
              exact k62n (fun q => q.elim h2 h4)
            · exact absurd rfl h5
  | false =>
    refine j_aloadn0 (pc := 0) hC d_scanExponent_0 ?_
    refine j_iconst (pc := 1) (v := 0) hC d_scanExponent_1 (by decide) ?_
    refine jp_R_144 (pc := 2) hC d_scanExponent_2 ?_
    refine j_aloadn0 (pc := 5) hC d_scanExponent_5 ?_
    refine jg_R_68 (pc := 6) hC d_scanExponent_6 ?_
    refine j_iconst (pc := 9) (v := 3) hC d_scanExponent_9 (by decide) ?_
    refine j_icmp_ne (pc := 10) hC 39 d_scanExponent_10 (by decide) (fun h1 => ?_) (fun h1 => ?_)
    · refine j_aloadn0 (pc := 39) hC d_scanExponent_39 ?_
      refine j_bipush (pc := 40) (v := 101) hC d_scanExponent_40 (by decide) ?_
      refine j_V1i (pc := 42) (q0 := 0) (ci := 0) hC cw_R_137 (rmD_in (by decide)) (Nat.le_of_ble_eq_true rfl) rfl rfl d_scanExponent_42 (c_take 101 c3 z hz ha) (fun r w2 h2 => ?_)
      rcases h2 with ⟨h2, rfl, rfl⟩ | ⟨h2, rfl, rfl⟩
      · refine j_if_ne (pc := 45) hC 57 d_scanExponent_45 (by decide) (fun h3 => ?_) (fun h3 => ?_)
        · refine j_iconst (pc := 57) (v := 1) hC d_scanExponent_57 (by decide) ?_
          refine j_goto (pc := 58) hC 62 d_scanExponent_58 (by decide) ?_
          exact k62y (Or.inl h2)
        · exact absurd h3 (by decide)
      · refine j_if_ne (pc := 45) hC 57 d_scanExponent_45 (by decide) (fun h3 => ?_) (fun h3 => ?_)
        · exact absurd rfl h3
        · refine j_aloadn0 (pc := 48) hC d_scanExponent_48 ?_
          refine j_bipush (pc := 49) (v := 69) hC d_scanExponent_49 (by decide) ?_
          refine j_V1i (pc := 51) (q0 := 0) (ci := 0) hC cw_R_137 (rmD_in (by decide)) (Nat.le_of_ble_eq_true rfl) rfl rfl d_scanExponent_51 (c_take 69 c3 z hz ha) (fun r w2 h4 => ?_)
          rcases h4 with ⟨h4, rfl, rfl⟩ | ⟨h4, rfl, rfl⟩
          · refine j_if_eq (pc := 54) hC 61 d_scanExponent_54 (by decide) (fun h5 => ?_) (fun h5 => ?_)
            · exact absurd h5 (by decide)
            · refine j_iconst (pc := 57) (v := 1) hC d_scanExponent_57 (by decide) ?_
              refine j_goto (pc := 58) hC 62 d_scanExponent_58 (by decide) ?_
              exact k62y (Or.inr h4)
          · refine j_if_eq (pc := 54) hC 61 d_scanExponent_54 (by decide) (fun h5 => ?_) (fun h5 => ?_)
            · refine j_iconst (pc := 61) (v := 0) hC d_scanExponent_61 (by decide) ?_
              exact k62n (fun q => q.elim h2 h4)
            · exact absurd rfl h5
    · exact absurd h1 (by decide)
end SD

