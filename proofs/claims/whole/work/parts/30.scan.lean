/-! THE CLASS: its small methods -/
theorem i32lt {x y : Int32} : x < y ↔ x.toInt < y.toInt := Int32.lt_iff_toInt_lt
theorem i32le {x y : Int32} : x ≤ y ↔ x.toInt ≤ y.toInt := Int32.le_iff_toInt_le
theorem i32eq {x y : Int32} : x = y ↔ x.toInt = y.toInt := Int32.toInt_inj.symm
section SC
variable {l : Launch} {D : va_G} {X : jX} {g : Nat → Nat} {ca : Nat → ClassId} {len ps sp ng fm df dt wg ex hg mo : Int32} {tp lb wo : Nat → Int32}
set_option maxHeartbeats 1000000 in
theorem c_isBlank (x : Int32) : jM l y_isBlank b_isBlank 1 (some .boolean) (rmD 0) D (tyD ca) X [.int x] (wd g ca len ps sp ng fm df dt wg ex hg mo tp lb wo) (jPi fun r w => r = (if 0 ≤ x.toInt ∧ x.toInt ≤ 32 then 1 else 0) ∧ w = wd g ca len ps sp ng fm df dt wg ex hg mo tp lb wo) := by
  refine jM.of [some (.int x)] (by simp [jle, jent, Value.category]) rfl (Nat.le_of_ble_eq_true rfl) ?_
  intro p e s m args below meth c sz hC
  refine j_iloadn0 (pc := 0) hC d_isBlank_0 ?_
  refine j_if_lt (pc := 1) hC 14 d_isBlank_1 (by decide) (fun h1 => ?_) (fun h1 => ?_)
  · refine j_iconst (pc := 14) (v := 0) hC d_isBlank_14 (by decide) ?_
    refine j_zret hC rfl d_isBlank_15 ⟨0, rfl, ?_, rfl⟩
    rw [i32lt] at h1
    rw [if_neg (by have e : (0 : Int32).toInt = 0 := rfl; omega)]
  · refine j_iloadn0 (pc := 4) hC d_isBlank_4 ?_
    refine j_bipush (pc := 5) (v := 32) hC d_isBlank_5 (by decide) ?_
    refine j_icmp_gt (pc := 7) hC 14 d_isBlank_7 (by decide) (fun h2 => ?_) (fun h2 => ?_)
    · refine j_iconst (pc := 14) (v := 0) hC d_isBlank_14 (by decide) ?_
      refine j_zret hC rfl d_isBlank_15 ⟨0, rfl, ?_, rfl⟩
      rw [i32lt] at h2
      rw [if_neg (by have e : (32 : Int32).toInt = 32 := rfl; omega)]
    · refine j_iconst (pc := 10) (v := 1) hC d_isBlank_10 (by decide) ?_
      refine j_goto (pc := 11) hC 15 d_isBlank_11 (by decide) ?_
      refine j_zret hC rfl d_isBlank_15 ⟨1, rfl, ?_, rfl⟩
      rw [i32lt] at h1 h2
      rw [if_pos (by have e : (32 : Int32).toInt = 32 := rfl; have e2 : (0 : Int32).toInt = 0 := rfl; omega)]
theorem dg_48 {x : Int32} (h1 : 48 ≤ x.toInt) (h2 : x.toInt ≤ 57) : x - 48 = nI (dg x) := by
  have e : dg x = (x.toInt - 48).toNat := by unfold dg; rw [if_pos ⟨h1, h2⟩]
  rw [e]
  apply Int32.toInt_inj.mp
  rw [nI_toInt (by omega), Int32.toInt_sub, show (48 : Int32).toInt = 48 from rfl, Int.bmod_eq_of_le (by omega) (by omega)]
  omega
theorem dg_97 {x : Int32} (h1 : 97 ≤ x.toInt) (h2 : x.toInt ≤ 102) : x - 97 + 10 = nI (dg x) := by
  have e : dg x = (x.toInt - 87).toNat := by unfold dg; rw [if_neg (by omega), if_pos ⟨h1, h2⟩]
  rw [e]
  apply Int32.toInt_inj.mp
  rw [nI_toInt (by omega), Int32.toInt_add, Int32.toInt_sub, show (97 : Int32).toInt = 97 from rfl, show (10 : Int32).toInt = 10 from rfl, Int.bmod_eq_of_le (n := x.toInt - 97) (by omega) (by omega), Int.bmod_eq_of_le (by omega) (by omega)]
  omega
theorem dg_65 {x : Int32} (h1 : 65 ≤ x.toInt) (h2 : x.toInt ≤ 70) : x - 65 + 10 = nI (dg x) := by
  have e : dg x = (x.toInt - 55).toNat := by unfold dg; rw [if_neg (by omega), if_neg (by omega), if_pos ⟨h1, h2⟩]
  rw [e]
  apply Int32.toInt_inj.mp
  rw [nI_toInt (by omega), Int32.toInt_add, Int32.toInt_sub, show (65 : Int32).toInt = 65 from rfl, show (10 : Int32).toInt = 10 from rfl, Int.bmod_eq_of_le (n := x.toInt - 65) (by omega) (by omega), Int.bmod_eq_of_le (by omega) (by omega)]
  omega
theorem dg_no {x : Int32} (h1 : ¬ (48 ≤ x.toInt ∧ x.toInt ≤ 57)) (h2 : ¬ (97 ≤ x.toInt ∧ x.toInt ≤ 102)) (h3 : ¬ (65 ≤ x.toInt ∧ x.toInt ≤ 70)) : (16 : Int32) = nI (dg x) := by
  have e : dg x = 16 := by unfold dg; rw [if_neg h1, if_neg h2, if_neg h3]
  rw [e]
  rfl
theorem tl48 : (48 : Int32).toInt = 48 := rfl
theorem tl57 : (57 : Int32).toInt = 57 := rfl
theorem tl97 : (97 : Int32).toInt = 97 := rfl
theorem tl102 : (102 : Int32).toInt = 102 := rfl
theorem tl65 : (65 : Int32).toInt = 65 := rfl
theorem tl70 : (70 : Int32).toInt = 70 := rfl
set_option maxHeartbeats 1000000 in
theorem c_digitOf (x : Int32) : jM l y_digitOf b_digitOf 1 (some .int) (rmD 0) D (tyD ca) X [.int x] (wd g ca len ps sp ng fm df dt wg ex hg mo tp lb wo) (jPi fun r w => r = nI (dg x) ∧ w = wd g ca len ps sp ng fm df dt wg ex hg mo tp lb wo) := by
  refine jM.of [some (.int x)] (by simp [jle, jent, Value.category]) rfl (Nat.le_of_ble_eq_true rfl) ?_
  intro p e s m args below meth c sz hC
  have k37 : ¬ (48 ≤ x.toInt ∧ x.toInt ≤ 57) → ¬ (97 ≤ x.toInt ∧ x.toInt ≤ 102) → J p l e (rmD 0) s m args below meth c D (va_A (wd g ca len ps sp ng fm df dt wg ex hg mo tp lb wo) sz) 1 (MQ below (jQ D (wd g ca len ps sp ng fm df dt wg ex hg mo tp lb wo) sz (jPi fun r w => r = nI (dg x) ∧ w = wd g ca len ps sp ng fm df dt wg ex hg mo tp lb wo)) args s 0 0 (va_A (wd g ca len ps sp ng fm df dt wg ex hg mo tp lb wo) sz)) 37 [some (.int x)] [] (wd g ca len ps sp ng fm df dt wg ex hg mo tp lb wo) := by
    intro n1 n2
    refine j_iloadn0 (pc := 37) hC d_digitOf_37 ?_
    refine j_bipush (pc := 38) (v := 65) hC d_digitOf_38 (by decide) ?_
    refine j_icmp_lt (pc := 40) hC 57 d_digitOf_40 (by decide) (fun h1 => ?_) (fun h1 => ?_)
    · refine j_bipush (pc := 57) (v := 16) hC d_digitOf_57 (by decide) ?_
      exact j_iret hC d_digitOf_59 ⟨_, rfl, dg_no n1 n2 (by rw [i32lt, tl65] at h1; omega), rfl⟩
    · refine j_iloadn0 (pc := 43) hC d_digitOf_43 ?_
      refine j_bipush (pc := 44) (v := 70) hC d_digitOf_44 (by decide) ?_
      refine j_icmp_gt (pc := 46) hC 57 d_digitOf_46 (by decide) (fun h2 => ?_) (fun h2 => ?_)
      · refine j_bipush (pc := 57) (v := 16) hC d_digitOf_57 (by decide) ?_
        exact j_iret hC d_digitOf_59 ⟨_, rfl, dg_no n1 n2 (by rw [i32lt, tl70] at h2; omega), rfl⟩
      · refine j_iloadn0 (pc := 49) hC d_digitOf_49 ?_
        refine j_bipush (pc := 50) (v := 65) hC d_digitOf_50 (by decide) ?_
        refine j_isub (pc := 52) hC d_digitOf_52 ?_
        refine j_bipush (pc := 53) (v := 10) hC d_digitOf_53 (by decide) ?_
        refine j_iadd (pc := 55) hC d_digitOf_55 ?_
        exact j_iret hC d_digitOf_56 ⟨_, rfl, dg_65 (by rw [i32lt, tl65] at h1; omega) (by rw [i32lt, tl70] at h2; omega), rfl⟩
  have k17 : ¬ (48 ≤ x.toInt ∧ x.toInt ≤ 57) → J p l e (rmD 0) s m args below meth c D (va_A (wd g ca len ps sp ng fm df dt wg ex hg mo tp lb wo) sz) 1 (MQ below (jQ D (wd g ca len ps sp ng fm df dt wg ex hg mo tp lb wo) sz (jPi fun r w => r = nI (dg x) ∧ w = wd g ca len ps sp ng fm df dt wg ex hg mo tp lb wo)) args s 0 0 (va_A (wd g ca len ps sp ng fm df dt wg ex hg mo tp lb wo) sz)) 17 [some (.int x)] [] (wd g ca len ps sp ng fm df dt wg ex hg mo tp lb wo) := by
    intro n1
    refine j_iloadn0 (pc := 17) hC d_digitOf_17 ?_
    refine j_bipush (pc := 18) (v := 97) hC d_digitOf_18 (by decide) ?_
    refine j_icmp_lt (pc := 20) hC 37 d_digitOf_20 (by decide) (fun h1 => ?_) (fun h1 => ?_)
    · exact k37 n1 (by rw [i32lt, tl97] at h1; omega)
    · refine j_iloadn0 (pc := 23) hC d_digitOf_23 ?_
      refine j_bipush (pc := 24) (v := 102) hC d_digitOf_24 (by decide) ?_
      refine j_icmp_gt (pc := 26) hC 37 d_digitOf_26 (by decide) (fun h2 => ?_) (fun h2 => ?_)
      · exact k37 n1 (by rw [i32lt, tl102] at h2; omega)
      · refine j_iloadn0 (pc := 29) hC d_digitOf_29 ?_
        refine j_bipush (pc := 30) (v := 97) hC d_digitOf_30 (by decide) ?_
        refine j_isub (pc := 32) hC d_digitOf_32 ?_
        refine j_bipush (pc := 33) (v := 10) hC d_digitOf_33 (by decide) ?_
        refine j_iadd (pc := 35) hC d_digitOf_35 ?_
        exact j_iret hC d_digitOf_36 ⟨_, rfl, dg_97 (by rw [i32lt, tl97] at h1; omega) (by rw [i32lt, tl102] at h2; omega), rfl⟩
  refine j_iloadn0 (pc := 0) hC d_digitOf_0 ?_
  refine j_bipush (pc := 1) (v := 48) hC d_digitOf_1 (by decide) ?_
  refine j_icmp_lt (pc := 3) hC 17 d_digitOf_3 (by decide) (fun h1 => ?_) (fun h1 => ?_)
  · exact k17 (by rw [i32lt, tl48] at h1; omega)
  · refine j_iloadn0 (pc := 6) hC d_digitOf_6 ?_
    refine j_bipush (pc := 7) (v := 57) hC d_digitOf_7 (by decide) ?_
    refine j_icmp_gt (pc := 9) hC 17 d_digitOf_9 (by decide) (fun h2 => ?_) (fun h2 => ?_)
    · exact k17 (by rw [i32lt, tl57] at h2; omega)
    · refine j_iloadn0 (pc := 12) hC d_digitOf_12 ?_
      refine j_bipush (pc := 13) (v := 48) hC d_digitOf_13 (by decide) ?_
      refine j_isub (pc := 15) hC d_digitOf_15 ?_
      exact j_iret hC d_digitOf_16 ⟨_, rfl, dg_48 (by rw [i32lt, tl48] at h1; omega) (by rw [i32lt, tl57] at h2; omega), rfl⟩
set_option maxHeartbeats 1000000 in
theorem c_take (x : Int32) (a z : Nat) (hz : z ≤ 8192) (ha : a ≤ z) : jM l y_take b_take 2 (some .boolean) (rmD 0) D (tyD ca) X [.ref (g 0), .int x] (wd g ca len (nI a) (nI z) ng fm df dt wg ex hg mo tp lb wo) (jPi fun r w => (isc tp a z x ∧ r = 1 ∧ w = wd g ca len (nI (a + 1)) (nI z) ng fm df dt wg ex hg mo tp lb wo) ∨ (¬ isc tp a z x ∧ r = 0 ∧ w = wd g ca len (nI a) (nI z) ng fm df dt wg ex hg mo tp lb wo)) := by
  refine jM.of [some (.ref (g 0)), some (.int x)] (by simp [jle, jent, Value.category]) rfl (Nat.le_of_ble_eq_true rfl) ?_
  intro p e s m args below meth c sz hC
  refine j_aloadn0 (pc := 0) hC d_take_0 ?_
  refine jg_R_114 (pc := 1) hC d_take_1 ?_
  refine j_aloadn0 (pc := 4) hC d_take_4 ?_
  refine jg_R_117 (pc := 5) hC d_take_5 ?_
  refine j_icmp_ge (pc := 8) hC 24 d_take_8 (by decide) (fun h1 => ?_) (fun h1 => ?_)
  · refine j_iconst (pc := 24) (v := 0) hC d_take_24 (by decide) ?_
    rw [nI_leI (by omega) (by omega)] at h1
    exact j_zret hC rfl d_take_25 ⟨0, rfl, Or.inr ⟨fun q => by have := q.1; omega, rfl, rfl⟩⟩
  · rw [nI_leI (by omega) (by omega)] at h1
    have hcl : (nI a).toNatClampNeg = a := nI_clamp (by omega)
    refine j_aloadn0 (pc := 11) hC d_take_11 ?_
    refine jg_R_28 (pc := 12) hC d_take_12 ?_
    refine j_aloadn0 (pc := 15) hC d_take_15 ?_
    refine jg_R_114 (pc := 16) hC d_take_16 ?_
    refine ja_tape_baload (pc := 19) hC (vp_in_nI (by omega) (by decide)) d_take_19 ?_
    refine j_iloadn1 (pc := 20) hC d_take_20 ?_
    refine j_icmp_eq (pc := 21) hC 26 d_take_21 (by decide) (fun h2 => ?_) (fun h2 => ?_)
    · rw [hcl] at h2
      refine j_aloadn0 (pc := 26) hC d_take_26 ?_
      refine j_dup (pc := 27) hC d_take_27 rfl ?_
      refine jg_R_114 (pc := 28) hC d_take_28 ?_
      refine j_iconst (pc := 31) (v := 1) hC d_take_31 (by decide) ?_
      refine j_iadd (pc := 32) hC d_take_32 ?_
      refine jp_R_114 (pc := 33) hC d_take_33 ?_
      refine j_iconst (pc := 36) (v := 1) hC d_take_36 (by decide) ?_
      exact j_zret hC rfl d_take_37 ⟨1, rfl, Or.inl ⟨⟨by omega, h2⟩, rfl, by rw [nI_1]⟩⟩
    · rw [hcl] at h2
      refine j_iconst (pc := 24) (v := 0) hC d_take_24 (by decide) ?_
      exact j_zret hC rfl d_take_25 ⟨0, rfl, Or.inr ⟨fun q => h2 q.2, rfl, rfl⟩⟩
/-- a sign taken at a: whether it is a minus; the place behind it -/
def sgM (t : Nat → Int32) (a z : Nat) : Prop := isc t a z 45
def sgP (t : Nat → Int32) (a z : Nat) : Prop := isc t a z 45 ∨ isc t a z 43
set_option maxHeartbeats 1000000 in
theorem c_takeSign (a z : Nat) (hz : z ≤ 8192) (ha : a ≤ z) : jM l y_takeSign b_takeSign 1 (some .boolean) (rmD 1) D (tyD ca) X [.ref (g 0)] (wd g ca len (nI a) (nI z) ng fm df dt wg ex hg mo tp lb wo) (jPi fun r w => ∃ b, (sgM tp a z ∧ r = 1 ∨ ¬ sgM tp a z ∧ r = 0) ∧ (sgP tp a z ∧ b = a + 1 ∨ ¬ sgP tp a z ∧ b = a) ∧ w = wd g ca len (nI b) (nI z) ng fm df dt wg ex hg mo tp lb wo) := by
  refine jM.of [some (.ref (g 0))] (by simp [jle, jent, Value.category]) rfl (Nat.le_of_ble_eq_true rfl) ?_
  intro p e s m args below meth c sz hC
  refine j_aloadn0 (pc := 0) hC d_takeSign_0 ?_
  refine j_bipush (pc := 1) (v := 45) hC d_takeSign_1 (by decide) ?_
  refine j_V1i (pc := 3) (q0 := 0) (ci := 0) hC cw_R_137 (rmD_in (by decide)) (Nat.le_of_ble_eq_true rfl) rfl rfl d_takeSign_3 (c_take 45 a z hz ha) (fun r w2 h1 => ?_)
  rcases h1 with ⟨h1, rfl, rfl⟩ | ⟨h1, rfl, rfl⟩
  · refine j_if_eq (pc := 6) hC 11 d_takeSign_6 (by decide) (fun h2 => ?_) (fun h2 => ?_)
    · exact absurd h2 (by decide)
    · refine j_iconst (pc := 9) (v := 1) hC d_takeSign_9 (by decide) ?_
      exact j_zret hC rfl d_takeSign_10 ⟨1, rfl, a + 1, Or.inl ⟨h1, rfl⟩, Or.inl ⟨Or.inl h1, rfl⟩, rfl⟩
  · refine j_if_eq (pc := 6) hC 11 d_takeSign_6 (by decide) (fun h2 => ?_) (fun h2 => ?_)
    · refine j_aloadn0 (pc := 11) hC d_takeSign_11 ?_
      refine j_bipush (pc := 12) (v := 43) hC d_takeSign_12 (by decide) ?_
      refine j_V1i (pc := 14) (q0 := 0) (ci := 0) hC cw_R_137 (rmD_in (by decide)) (Nat.le_of_ble_eq_true rfl) rfl rfl d_takeSign_14 (c_take 43 a z hz ha) (fun r w2 h3 => ?_)
      rcases h3 with ⟨h3, rfl, rfl⟩ | ⟨h3, rfl, rfl⟩
      · refine j_pop (pc := 17) hC d_takeSign_17 rfl ?_
        refine j_iconst (pc := 18) (v := 0) hC d_takeSign_18 (by decide) ?_
        exact j_zret hC rfl d_takeSign_19 ⟨0, rfl, a + 1, Or.inr ⟨h1, rfl⟩, Or.inl ⟨Or.inr h3, rfl⟩, rfl⟩
      · refine j_pop (pc := 17) hC d_takeSign_17 rfl ?_
        refine j_iconst (pc := 18) (v := 0) hC d_takeSign_18 (by decide) ?_
        exact j_zret hC rfl d_takeSign_19 ⟨0, rfl, a, Or.inr ⟨h1, rfl⟩, Or.inr ⟨fun q => q.elim h1 h3, rfl⟩, rfl⟩
    · exact absurd rfl h2
set_option maxHeartbeats 1000000 in
theorem c_skipDigits (b a z : Nat) (hb : b ≤ 16) (hz : z ≤ 8192) (ha : a ≤ z) : jM l y_skipDigits b_skipDigits 3 (some .int) (rmD 1) D (tyD ca) X [.ref (g 0), .int (nI b)] (wd g ca len (nI a) (nI z) ng fm df dt wg ex hg mo tp lb wo) (jPi fun r w => r = nI (rn tp b a (z - a)) ∧ w = wd g ca len (nI (a + rn tp b a (z - a))) (nI z) ng fm df dt wg ex hg mo tp lb wo) := by
  refine jM.of [some (.ref (g 0)), some (.int (nI b)), none] (by simp [jle, jent, Value.category]) rfl (Nat.le_of_ble_eq_true rfl) ?_
  intro p e s m args below meth c sz hC
  have loop : ∀ (n j : Nat), a + j + n = z → (∀ i, i < j → dg (tp (a + i)) < b) → J p l e (rmD 1) s m args below meth c D (va_A (wd g ca len (nI a) (nI z) ng fm df dt wg ex hg mo tp lb wo) sz) 3 (MQ below (jQ D (wd g ca len (nI a) (nI z) ng fm df dt wg ex hg mo tp lb wo) sz (jPi fun r w => r = nI (rn tp b a (z - a)) ∧ w = wd g ca len (nI (a + rn tp b a (z - a))) (nI z) ng fm df dt wg ex hg mo tp lb wo)) args s 0 0 (va_A (wd g ca len (nI a) (nI z) ng fm df dt wg ex hg mo tp lb wo) sz)) 5 [some (.ref (g 0)), some (.int (nI b)), some (.int (nI a))] [] (wd g ca len (nI (a + j)) (nI z) ng fm df dt wg ex hg mo tp lb wo) := by
    intro n
    induction n with
    | zero =>
      intro j hj hd
      have hr : rn tp b a (z - a) = j := rn_eq (by omega) hd (Or.inl (by omega))
      refine j_aloadn0 (pc := 5) hC d_skipDigits_5 ?_
      refine jg_R_114 (pc := 6) hC d_skipDigits_6 ?_
      refine j_aloadn0 (pc := 9) hC d_skipDigits_9 ?_
      refine jg_R_117 (pc := 10) hC d_skipDigits_10 ?_
      refine j_icmp_ge (pc := 13) hC 45 d_skipDigits_13 (by decide) (fun h1 => ?_) (fun h1 => ?_)
      · refine j_aloadn0 (pc := 45) hC d_skipDigits_45 ?_
        refine jg_R_114 (pc := 46) hC d_skipDigits_46 ?_
        refine j_iloadn2 (pc := 49) hC d_skipDigits_49 ?_
        refine j_isub (pc := 50) hC d_skipDigits_50 ?_
        exact j_iret hC d_skipDigits_51 ⟨_, rfl, by rw [hr, pk_sub (by omega), show a + j - a = j by omega], by rw [hr]⟩
      · rw [nI_leI (by omega) (by omega)] at h1
        omega
    | succ n ih =>
      intro j hj hd
      have hcl : (nI (a + j)).toNatClampNeg = a + j := nI_clamp (by omega)
      refine j_aloadn0 (pc := 5) hC d_skipDigits_5 ?_
      refine jg_R_114 (pc := 6) hC d_skipDigits_6 ?_
      refine j_aloadn0 (pc := 9) hC d_skipDigits_9 ?_
      refine jg_R_117 (pc := 10) hC d_skipDigits_10 ?_
      refine j_icmp_ge (pc := 13) hC 45 d_skipDigits_13 (by decide) (fun h1 => ?_) (fun h1 => ?_)
      · rw [nI_leI (by omega) (by omega)] at h1
        omega
      · refine j_aloadn0 (pc := 16) hC d_skipDigits_16 ?_
        refine jg_R_28 (pc := 17) hC d_skipDigits_17 ?_
        refine j_aloadn0 (pc := 20) hC d_skipDigits_20 ?_
        refine jg_R_114 (pc := 21) hC d_skipDigits_21 ?_
        refine ja_tape_baload (pc := 24) hC (vp_in_nI (by omega) (by decide)) d_skipDigits_24 ?_
        refine j_S1i (pc := 25) hC cw_R_148 (rmD_in (by decide)) (Nat.le_of_ble_eq_true rfl) d_skipDigits_25 (c_digitOf _) (fun r w2 h2 => ?_)
        obtain ⟨rfl, rfl⟩ := h2
        have hdl := dg_le (tp (nI (a + j)).toNatClampNeg)
        refine j_iloadn1 (pc := 28) hC d_skipDigits_28 ?_
        refine j_icmp_ge (pc := 29) hC 45 d_skipDigits_29 (by decide) (fun h3 => ?_) (fun h3 => ?_)
        · rw [nI_leI (by omega) (by omega), hcl] at h3
          have hr : rn tp b a (z - a) = j := rn_eq (by omega) hd (Or.inr (by omega))
          refine j_aloadn0 (pc := 45) hC d_skipDigits_45 ?_
          refine jg_R_114 (pc := 46) hC d_skipDigits_46 ?_
          refine j_iloadn2 (pc := 49) hC d_skipDigits_49 ?_
          refine j_isub (pc := 50) hC d_skipDigits_50 ?_
          exact j_iret hC d_skipDigits_51 ⟨_, rfl, by rw [hr, pk_sub (by omega), show a + j - a = j by omega], by rw [hr]⟩
        · rw [nI_leI (by omega) (by omega), hcl] at h3
          refine j_aloadn0 (pc := 32) hC d_skipDigits_32 ?_
          refine j_dup (pc := 33) hC d_skipDigits_33 rfl ?_
          refine jg_R_114 (pc := 34) hC d_skipDigits_34 ?_
          refine j_iconst (pc := 37) (v := 1) hC d_skipDigits_37 (by decide) ?_
          refine j_iadd (pc := 38) hC d_skipDigits_38 ?_
          refine jp_R_114 (pc := 39) hC d_skipDigits_39 ?_
          refine j_goto (pc := 42) hC 5 d_skipDigits_42 (by decide) ?_
          refine J.to rfl rfl rfl ?_ (ih (j + 1) (by omega) (fun i hi => ?_))
          · rw [nI_1]; rfl
          · rcases Nat.lt_or_eq_of_le (Nat.le_of_lt_succ hi) with h | h
            · exact hd i h
            · rw [h]; omega
  refine j_aloadn0 (pc := 0) hC d_skipDigits_0 ?_
  refine jg_R_114 (pc := 1) hC d_skipDigits_1 ?_
  refine j_istoren2 (pc := 4) hC d_skipDigits_4 (by decide) (by first | exact trivial | exact rfl) ?_
  exact loop (z - a) 0 (by omega) (fun i hi => absurd hi (by omega))
/-- 0x or 0X stands at a -/
def hxs (t : Nat → Int32) (a z : Nat) : Prop := a + 1 < z ∧ t a = 48 ∧ (t (a + 1) = 120 ∨ t (a + 1) = 88)
set_option maxHeartbeats 1000000 in
theorem c_takeHexStart (a z : Nat) (hz : z ≤ 8192) (ha : a ≤ z) : jM l y_takeHexStart b_takeHexStart 2 (some .boolean) (rmD 0) D (tyD ca) X [.ref (g 0)] (wd g ca len (nI a) (nI z) ng fm df dt wg ex hg mo tp lb wo) (jPi fun r w => (hxs tp a z ∧ r = 1 ∧ w = wd g ca len (nI (a + 2)) (nI z) ng fm df dt wg ex hg mo tp lb wo) ∨ (¬ hxs tp a z ∧ r = 0 ∧ w = wd g ca len (nI a) (nI z) ng fm df dt wg ex hg mo tp lb wo)) := by
  refine jM.of [some (.ref (g 0)), none] (by simp [jle, jent, Value.category]) rfl (Nat.le_of_ble_eq_true rfl) ?_
  intro p e s m args below meth c sz hC
  have e1 : nI a + 1 = nI (a + 1) := nI_1 a
  have hcl : (nI a).toNatClampNeg = a := nI_clamp (by omega)
  have hcl1 : (nI (a + 1)).toNatClampNeg = a + 1 := nI_clamp (by omega)
  have k63 : ¬ hxs tp a z → J p l e (rmD 0) s m args below meth c D (va_A (wd g ca len (nI a) (nI z) ng fm df dt wg ex hg mo tp lb wo) sz) 2 (MQ below (jQ D (wd g ca len (nI a) (nI z) ng fm df dt wg ex hg mo tp lb wo) sz (jPi fun r w => (hxs tp a z ∧ r = 1 ∧ w = wd g ca len (nI (a + 2)) (nI z) ng fm df dt wg ex hg mo tp lb wo) ∨ (¬ hxs tp a z ∧ r = 0 ∧ w = wd g ca len (nI a) (nI z) ng fm df dt wg ex hg mo tp lb wo))) args s 0 0 (va_A (wd g ca len (nI a) (nI z) ng fm df dt wg ex hg mo tp lb wo) sz)) 63 [some (.ref (g 0)), none] [] (wd g ca len (nI a) (nI z) ng fm df dt wg ex hg mo tp lb wo) := by
    intro hn
    refine j_iconst (pc := 63) (v := 0) hC d_takeHexStart_63 (by decide) ?_
    refine j_istoren1 (pc := 64) hC d_takeHexStart_64 (by decide) (by first | exact trivial | exact rfl) ?_
    refine j_iloadn1 (pc := 65) hC d_takeHexStart_65 ?_
    refine j_if_eq (pc := 66) hC 79 d_takeHexStart_66 (by decide) (fun h1 => ?_) (fun h1 => ?_)
    · refine j_iloadn1 (pc := 79) hC d_takeHexStart_79 ?_
      exact j_zret hC rfl d_takeHexStart_80 ⟨0, rfl, Or.inr ⟨hn, rfl, rfl⟩⟩
    · exact absurd rfl h1
  have k59 : hxs tp a z → J p l e (rmD 0) s m args below meth c D (va_A (wd g ca len (nI a) (nI z) ng fm df dt wg ex hg mo tp lb wo) sz) 2 (MQ below (jQ D (wd g ca len (nI a) (nI z) ng fm df dt wg ex hg mo tp lb wo) sz (jPi fun r w => (hxs tp a z ∧ r = 1 ∧ w = wd g ca len (nI (a + 2)) (nI z) ng fm df dt wg ex hg mo tp lb wo) ∨ (¬ hxs tp a z ∧ r = 0 ∧ w = wd g ca len (nI a) (nI z) ng fm df dt wg ex hg mo tp lb wo))) args s 0 0 (va_A (wd g ca len (nI a) (nI z) ng fm df dt wg ex hg mo tp lb wo) sz)) 59 [some (.ref (g 0)), none] [] (wd g ca len (nI a) (nI z) ng fm df dt wg ex hg mo tp lb wo) := by
    intro hy
    refine j_iconst (pc := 59) (v := 1) hC d_takeHexStart_59 (by decide) ?_
    refine j_goto (pc := 60) hC 64 d_takeHexStart_60 (by decide) ?_
    refine j_istoren1 (pc := 64) hC d_takeHexStart_64 (by decide) (by first | exact trivial | exact rfl) ?_
    refine j_iloadn1 (pc := 65) hC d_takeHexStart_65 ?_
    refine j_if_eq (pc := 66) hC 79 d_takeHexStart_66 (by decide) (fun h1 => ?_) (fun h1 => ?_)
    · exact absurd h1 (by decide)
    · refine j_aloadn0 (pc := 69) hC d_takeHexStart_69 ?_
      refine j_dup (pc := 70) hC d_takeHexStart_70 rfl ?_
      refine jg_R_114 (pc := 71) hC d_takeHexStart_71 ?_
      refine j_iconst (pc := 74) (v := 2) hC d_takeHexStart_74 (by decide) ?_
      refine j_iadd (pc := 75) hC d_takeHexStart_75 ?_
      refine jp_R_114 (pc := 76) hC d_takeHexStart_76 ?_
      refine j_iloadn1 (pc := 79) hC d_takeHexStart_79 ?_
      exact j_zret hC rfl d_takeHexStart_80 ⟨1, rfl, Or.inl ⟨hy, rfl, by rw [show nI a + 2 = nI (a + 2) from nI_add a 2]⟩⟩
  refine j_aloadn0 (pc := 0) hC d_takeHexStart_0 ?_
  refine jg_R_114 (pc := 1) hC d_takeHexStart_1 ?_
  refine j_iconst (pc := 4) (v := 1) hC d_takeHexStart_4 (by decide) ?_
  refine j_iadd (pc := 5) hC d_takeHexStart_5 ?_
  refine j_aloadn0 (pc := 6) hC d_takeHexStart_6 ?_
  refine jg_R_117 (pc := 7) hC d_takeHexStart_7 ?_
  refine j_icmp_ge (pc := 10) hC 63 d_takeHexStart_10 (by decide) (fun h1 => ?_) (fun h1 => ?_)
  · rw [e1, nI_leI (by omega) (by omega)] at h1
    exact k63 (fun q => by have := q.1; omega)
  · rw [e1, nI_leI (by omega) (by omega)] at h1
    refine j_aloadn0 (pc := 13) hC d_takeHexStart_13 ?_
    refine jg_R_28 (pc := 14) hC d_takeHexStart_14 ?_
    refine j_aloadn0 (pc := 17) hC d_takeHexStart_17 ?_
    refine jg_R_114 (pc := 18) hC d_takeHexStart_18 ?_
    refine ja_tape_baload (pc := 21) hC (vp_in_nI (by omega) (by decide)) d_takeHexStart_21 ?_
    refine j_bipush (pc := 22) (v := 48) hC d_takeHexStart_22 (by decide) ?_
    refine j_icmp_ne (pc := 24) hC 63 d_takeHexStart_24 (by decide) (fun h2 => ?_) (fun h2 => ?_)
    · rw [hcl] at h2
      exact k63 (fun q => h2 q.2.1)
    · rw [hcl] at h2
      refine j_aloadn0 (pc := 27) hC d_takeHexStart_27 ?_
      refine jg_R_28 (pc := 28) hC d_takeHexStart_28 ?_
      refine j_aloadn0 (pc := 31) hC d_takeHexStart_31 ?_
      refine jg_R_114 (pc := 32) hC d_takeHexStart_32 ?_
      refine j_iconst (pc := 35) (v := 1) hC d_takeHexStart_35 (by decide) ?_
      refine j_iadd (pc := 36) hC d_takeHexStart_36 ?_
      refine J.topi e1 ?_
      refine ja_tape_baload (pc := 37) hC (vp_in_nI (by omega) (by decide)) d_takeHexStart_37 ?_
      refine j_bipush (pc := 38) (v := 120) hC d_takeHexStart_38 (by decide) ?_
      refine j_icmp_eq (pc := 40) hC 59 d_takeHexStart_40 (by decide) (fun h3 => ?_) (fun h3 => ?_)
      · rw [hcl1] at h3
        exact k59 ⟨by omega, h2, Or.inl h3⟩
      · rw [hcl1] at h3
        refine j_aloadn0 (pc := 43) hC d_takeHexStart_43 ?_
        refine jg_R_28 (pc := 44) hC d_takeHexStart_44 ?_
        refine j_aloadn0 (pc := 47) hC d_takeHexStart_47 ?_
        refine jg_R_114 (pc := 48) hC d_takeHexStart_48 ?_
        refine j_iconst (pc := 51) (v := 1) hC d_takeHexStart_51 (by decide) ?_
        refine j_iadd (pc := 52) hC d_takeHexStart_52 ?_
        refine J.topi e1 ?_
        refine ja_tape_baload (pc := 53) hC (vp_in_nI (by omega) (by decide)) d_takeHexStart_53 ?_
        refine j_bipush (pc := 54) (v := 88) hC d_takeHexStart_54 (by decide) ?_
        refine j_icmp_ne (pc := 56) hC 63 d_takeHexStart_56 (by decide) (fun h4 => ?_) (fun h4 => ?_)
        · rw [hcl1] at h4
          exact k63 (fun q => q.2.2.elim h3 h4)
        · rw [hcl1] at h4
          exact k59 ⟨by omega, h2, Or.inr h4⟩
set_option maxHeartbeats 1000000 in
theorem c_leaveBlanksOut (n : Nat) (hn : n ≤ 8192) : jM l y_leaveBlanksOut b_leaveBlanksOut 1 none (rmD 1) D (tyD ca) X [.ref (g 0)] (wd g ca (nI n) ps sp ng fm df dt wg ex hg mo tp lb wo) (jPv fun w => w = wd g ca (nI n) (nI (ld tp 0 n)) (nI (tr tp (ld tp 0 n) (n - ld tp 0 n))) ng fm df dt wg ex hg mo tp lb wo) := by
  refine jM.of [some (.ref (g 0))] (by simp [jle, jent, Value.category]) rfl (Nat.le_of_ble_eq_true rfl) ?_
  intro p e s m args below meth c sz hC
  have loop2 : ∀ (k : Nat) (a : Nat), a + k ≤ n → ld tp 0 n = a → tr tp a k = tr tp a (n - a) → J p l e (rmD 1) s m args below meth c D (va_A (wd g ca (nI n) ps sp ng fm df dt wg ex hg mo tp lb wo) sz) 1 (MQ below (jQ D (wd g ca (nI n) ps sp ng fm df dt wg ex hg mo tp lb wo) sz (jPv fun w => w = wd g ca (nI n) (nI (ld tp 0 n)) (nI (tr tp (ld tp 0 n) (n - ld tp 0 n))) ng fm df dt wg ex hg mo tp lb wo)) args s 0 0 (va_A (wd g ca (nI n) ps sp ng fm df dt wg ex hg mo tp lb wo) sz)) 52 [some (.ref (g 0))] [] (wd g ca (nI n) (nI a) (nI (a + k)) ng fm df dt wg ex hg mo tp lb wo) := by
    intro k
    induction k with
    | zero =>
      intro a hk ha ht
      refine j_aloadn0 (pc := 52) hC d_leaveBlanksOut_52 ?_
      refine jg_R_117 (pc := 53) hC d_leaveBlanksOut_53 ?_
      refine j_aloadn0 (pc := 56) hC d_leaveBlanksOut_56 ?_
      refine jg_R_114 (pc := 57) hC d_leaveBlanksOut_57 ?_
      refine j_icmp_le (pc := 60) hC 93 d_leaveBlanksOut_60 (by decide) (fun h1 => ?_) (fun h1 => ?_)
      · refine j_vret hC d_leaveBlanksOut_93 ⟨rfl, ?_⟩
        rw [ha, ← ht]
        rfl
      · rw [nI_leI (by omega) (by omega)] at h1
        omega
    | succ k ih =>
      intro a hk ha ht
      refine j_aloadn0 (pc := 52) hC d_leaveBlanksOut_52 ?_
      refine jg_R_117 (pc := 53) hC d_leaveBlanksOut_53 ?_
      refine j_aloadn0 (pc := 56) hC d_leaveBlanksOut_56 ?_
      refine jg_R_114 (pc := 57) hC d_leaveBlanksOut_57 ?_
      refine j_icmp_le (pc := 60) hC 93 d_leaveBlanksOut_60 (by decide) (fun h1 => ?_) (fun h1 => ?_)
      · rw [nI_leI (by omega) (by omega)] at h1
        omega
      · refine j_aloadn0 (pc := 63) hC d_leaveBlanksOut_63 ?_
        refine jg_R_28 (pc := 64) hC d_leaveBlanksOut_64 ?_
        refine j_aloadn0 (pc := 67) hC d_leaveBlanksOut_67 ?_
        refine jg_R_117 (pc := 68) hC d_leaveBlanksOut_68 ?_
        refine j_iconst (pc := 71) (v := 1) hC d_leaveBlanksOut_71 (by decide) ?_
        refine j_isub (pc := 72) hC d_leaveBlanksOut_72 ?_
        refine J.topi (y := nI (a + k)) (by rw [show a + (k + 1) = a + k + 1 by omega, nI_pred]) ?_
        have hcl : (nI (a + k)).toNatClampNeg = a + k := nI_clamp (by omega)
        refine ja_tape_baload (pc := 73) hC (vp_in_nI (by omega) (by decide)) d_leaveBlanksOut_73 ?_
        refine j_S1i (pc := 74) hC cw_R_120 (rmD_in (by decide)) (Nat.le_of_ble_eq_true rfl) d_leaveBlanksOut_74 (c_isBlank _) (fun r w2 h2 => ?_)
        obtain ⟨rfl, rfl⟩ := h2
        rw [hcl]
        by_cases hb : 0 ≤ (tp (a + k)).toInt ∧ (tp (a + k)).toInt ≤ 32
        · rw [if_pos hb]
          refine j_if_eq (pc := 77) hC 93 d_leaveBlanksOut_77 (by decide) (fun h3 => ?_) (fun h3 => ?_)
          · exact absurd h3 (by decide)
          · refine j_aloadn0 (pc := 80) hC d_leaveBlanksOut_80 ?_
            refine j_dup (pc := 81) hC d_leaveBlanksOut_81 rfl ?_
            refine jg_R_117 (pc := 82) hC d_leaveBlanksOut_82 ?_
            refine j_iconst (pc := 85) (v := 1) hC d_leaveBlanksOut_85 (by decide) ?_
            refine j_isub (pc := 86) hC d_leaveBlanksOut_86 ?_
            refine jp_R_117 (pc := 87) hC d_leaveBlanksOut_87 ?_
            refine j_goto (pc := 90) hC 52 d_leaveBlanksOut_90 (by decide) ?_
            refine J.to rfl rfl rfl ?_ (ih a (by omega) ha (by rw [← ht, tr, if_pos hb]))
            rw [show a + (k + 1) = a + k + 1 by omega, nI_pred]
        · rw [if_neg hb]
          refine j_if_eq (pc := 77) hC 93 d_leaveBlanksOut_77 (by decide) (fun h3 => ?_) (fun h3 => ?_)
          · refine j_vret hC d_leaveBlanksOut_93 ⟨rfl, ?_⟩
            rw [ha, ← ht, tr, if_neg hb]
            rfl
          · exact absurd rfl h3
  have loop1 : ∀ (k : Nat) (a : Nat), a + k = n → ld tp 0 n = ld tp a k → J p l e (rmD 1) s m args below meth c D (va_A (wd g ca (nI n) ps sp ng fm df dt wg ex hg mo tp lb wo) sz) 1 (MQ below (jQ D (wd g ca (nI n) ps sp ng fm df dt wg ex hg mo tp lb wo) sz (jPv fun w => w = wd g ca (nI n) (nI (ld tp 0 n)) (nI (tr tp (ld tp 0 n) (n - ld tp 0 n))) ng fm df dt wg ex hg mo tp lb wo)) args s 0 0 (va_A (wd g ca (nI n) ps sp ng fm df dt wg ex hg mo tp lb wo) sz)) 13 [some (.ref (g 0))] [] (wd g ca (nI n) (nI a) (nI n) ng fm df dt wg ex hg mo tp lb wo) := by
    intro k
    induction k with
    | zero =>
      intro a hk ha
      refine j_aloadn0 (pc := 13) hC d_leaveBlanksOut_13 ?_
      refine jg_R_114 (pc := 14) hC d_leaveBlanksOut_14 ?_
      refine j_aloadn0 (pc := 17) hC d_leaveBlanksOut_17 ?_
      refine jg_R_117 (pc := 18) hC d_leaveBlanksOut_18 ?_
      refine j_icmp_ge (pc := 21) hC 52 d_leaveBlanksOut_21 (by decide) (fun h1 => ?_) (fun h1 => ?_)
      · refine J.to rfl rfl rfl ?_ (loop2 (n - a) a (by omega) (by rw [ha, ld]) rfl)
        rw [show a + (n - a) = n by omega]
      · rw [nI_leI (by omega) (by omega)] at h1
        omega
    | succ k ih =>
      intro a hk ha
      refine j_aloadn0 (pc := 13) hC d_leaveBlanksOut_13 ?_
      refine jg_R_114 (pc := 14) hC d_leaveBlanksOut_14 ?_
      refine j_aloadn0 (pc := 17) hC d_leaveBlanksOut_17 ?_
      refine jg_R_117 (pc := 18) hC d_leaveBlanksOut_18 ?_
      refine j_icmp_ge (pc := 21) hC 52 d_leaveBlanksOut_21 (by decide) (fun h1 => ?_) (fun h1 => ?_)
      · rw [nI_leI (by omega) (by omega)] at h1
        omega
      · have hcl : (nI a).toNatClampNeg = a := nI_clamp (by omega)
        refine j_aloadn0 (pc := 24) hC d_leaveBlanksOut_24 ?_
        refine jg_R_28 (pc := 25) hC d_leaveBlanksOut_25 ?_
        refine j_aloadn0 (pc := 28) hC d_leaveBlanksOut_28 ?_
        refine jg_R_114 (pc := 29) hC d_leaveBlanksOut_29 ?_
        refine ja_tape_baload (pc := 32) hC (vp_in_nI (by omega) (by decide)) d_leaveBlanksOut_32 ?_
        refine j_S1i (pc := 33) hC cw_R_120 (rmD_in (by decide)) (Nat.le_of_ble_eq_true rfl) d_leaveBlanksOut_33 (c_isBlank _) (fun r w2 h2 => ?_)
        obtain ⟨rfl, rfl⟩ := h2
        rw [hcl]
        by_cases hb : 0 ≤ (tp a).toInt ∧ (tp a).toInt ≤ 32
        · rw [if_pos hb]
          refine j_if_eq (pc := 36) hC 52 d_leaveBlanksOut_36 (by decide) (fun h3 => ?_) (fun h3 => ?_)
          · exact absurd h3 (by decide)
          · refine j_aloadn0 (pc := 39) hC d_leaveBlanksOut_39 ?_
            refine j_dup (pc := 40) hC d_leaveBlanksOut_40 rfl ?_
            refine jg_R_114 (pc := 41) hC d_leaveBlanksOut_41 ?_
            refine j_iconst (pc := 44) (v := 1) hC d_leaveBlanksOut_44 (by decide) ?_
            refine j_iadd (pc := 45) hC d_leaveBlanksOut_45 ?_
            refine jp_R_114 (pc := 46) hC d_leaveBlanksOut_46 ?_
            refine j_goto (pc := 49) hC 13 d_leaveBlanksOut_49 (by decide) ?_
            refine J.to rfl rfl rfl ?_ (ih (a + 1) (by omega) (by rw [ha, ld, if_pos hb]))
            rw [nI_1]
        · rw [if_neg hb]
          refine j_if_eq (pc := 36) hC 52 d_leaveBlanksOut_36 (by decide) (fun h3 => ?_) (fun h3 => ?_)
          · refine J.to rfl rfl rfl ?_ (loop2 (n - a) a (by omega) (by rw [ha, ld, if_neg hb]) rfl)
            rw [show a + (n - a) = n by omega]
          · exact absurd rfl h3
  refine j_aloadn0 (pc := 0) hC d_leaveBlanksOut_0 ?_
  refine j_iconst (pc := 1) (v := 0) hC d_leaveBlanksOut_1 (by decide) ?_
  refine jp_R_114 (pc := 2) hC d_leaveBlanksOut_2 ?_
  refine j_aloadn0 (pc := 5) hC d_leaveBlanksOut_5 ?_
  refine j_aloadn0 (pc := 6) hC d_leaveBlanksOut_6 ?_
  refine jg_R_32 (pc := 7) hC d_leaveBlanksOut_7 ?_
  refine jp_R_117 (pc := 10) hC d_leaveBlanksOut_10 ?_
  exact loop1 n 0 (by omega) rfl
end SC

