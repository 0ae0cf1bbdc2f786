/-! THE CLASS: Value, its bits -/
/-- the words as one number -/
def wnum (wo : Nat → Int32) : Nat := hv 4294967296 (fun i => un (wo i)) 67
theorem wnum_word (wo : Nat → Int32) {k : Nat} (hk : k < 67) : wnum wo / 2 ^ (32 * k) % 4294967296 = un (wo (66 - k)) := by
  have h := hv_dig (B := 4294967296) (by omega) (f := fun i => un (wo i)) (n := 67) (k := 66 - k) (by omega) (fun i _ => un_lt (wo i))
  rw [show 67 - 1 - (66 - k) = k by omega] at h
  rw [Nat.pow_mul, show (2 : Nat) ^ 32 = 4294967296 by decide]
  exact h
theorem wnum_bit (wo : Nat → Int32) {n : Nat} (hn : n < 2144) : wnum wo / 2 ^ n % 2 = un (wo (66 - n / 32)) / 2 ^ (n % 32) % 2 := by
  rw [← wnum_word wo (k := n / 32) (by omega)]
  have e : n = 32 * (n / 32) + n % 32 := (Nat.div_add_mod n 32).symm
  have h1 : 2 ^ n = 2 ^ (32 * (n / 32)) * 2 ^ (n % 32) := by rw [← Nat.pow_add, ← e]
  rw [h1, ← Nat.div_div_eq_div_mul]
  generalize wnum wo / 2 ^ (32 * (n / 32)) = y
  have hr : n % 32 < 32 := Nat.mod_lt _ (by omega)
  have h2 : (4294967296 : Nat) = 2 ^ (n % 32) * (2 * 2 ^ (31 - n % 32)) := by
    rw [← Nat.mul_assoc, ← Nat.pow_succ, ← Nat.pow_add, show n % 32 + 1 + (31 - n % 32) = 32 by omega]
  rw [h2, Nat.mod_mul_right_div_self, Nat.mod_mul_right_mod]
section VB
variable {l : Launch} {D : va_G} {X : jX} {g : Nat → Nat} {ca : Nat → ClassId} {len ps sp ng fm df dt wg ex hg mo : Int32} {tp lb wo : Nat → Int32}
theorem pw_place {n : Nat} (hn : n < 2144) : 1055 - pw (n + 1) = nI (2143 - n) := nI_to (by omega) (by
  have e := pw_toInt (n := n + 1) (by omega)
  have o : (1055 : Int32).toInt = 1055 := rfl
  rw [tsub (by omega) (by omega), e, o]
  omega)
theorem c_v_wordOf (n : Nat) (hn : n < 2144) : jM l y_v_wordOf b_v_wordOf 1 (some .int) (rmD 0) D (tyD ca) X [.int (pw (n + 1))] (wd g ca len ps sp ng fm df dt wg ex hg mo tp lb wo) (jPi fun r w => r = nI (66 - n / 32) ∧ w = wd g ca len ps sp ng fm df dt wg ex hg mo tp lb wo) := by
  refine jM.of [some (.int (pw (n + 1)))] (by simp [jle, jent, Value.category]) rfl (Nat.le_of_ble_eq_true rfl) ?_
  intro p e s m args below meth c sz hC
  refine j_sipush (pc := 0) (v := 1055) hC d_v_wordOf_0 (by decide) ?_
  refine j_iloadn0 (pc := 3) hC d_v_wordOf_3 ?_
  refine j_isub (pc := 4) hC d_v_wordOf_4 ?_
  refine J.topi (pw_place hn) ?_
  refine j_bipush (pc := 5) (v := 32) hC d_v_wordOf_5 (by decide) ?_
  refine j_idiv (pc := 7) hC d_v_wordOf_7 (by decide) ?_
  refine j_iret hC d_v_wordOf_8 ⟨_, rfl, ?_, rfl⟩
  rw [show (32 : Int32) = nI 32 from rfl, pk_div (by omega) (by omega) (by omega)]
  congr 1
  omega
theorem c_v_shiftOf (n : Nat) (hn : n < 2144) : jM l y_v_shiftOf b_v_shiftOf 1 (some .int) (rmD 0) D (tyD ca) X [.int (pw (n + 1))] (wd g ca len ps sp ng fm df dt wg ex hg mo tp lb wo) (jPi fun r w => r = nI (n % 32) ∧ w = wd g ca len ps sp ng fm df dt wg ex hg mo tp lb wo) := by
  refine jM.of [some (.int (pw (n + 1)))] (by simp [jle, jent, Value.category]) rfl (Nat.le_of_ble_eq_true rfl) ?_
  intro p e s m args below meth c sz hC
  refine j_bipush (pc := 0) (v := 31) hC d_v_shiftOf_0 (by decide) ?_
  refine j_sipush (pc := 2) (v := 1055) hC d_v_shiftOf_2 (by decide) ?_
  refine j_iloadn0 (pc := 5) hC d_v_shiftOf_5 ?_
  refine j_isub (pc := 6) hC d_v_shiftOf_6 ?_
  refine J.topi (pw_place hn) ?_
  refine j_bipush (pc := 7) (v := 32) hC d_v_shiftOf_7 (by decide) ?_
  refine j_irem (pc := 9) hC d_v_shiftOf_9 (by decide) ?_
  refine j_isub (pc := 10) hC d_v_shiftOf_10 ?_
  refine j_iret hC d_v_shiftOf_11 ⟨_, rfl, ?_, rfl⟩
  rw [show (32 : Int32) = nI 32 from rfl, pk_rem (by omega) (by omega) (by omega), show (31 : Int32) = nI 31 from rfl, pk_sub (by omega)]
  congr 1
  omega
set_option maxHeartbeats 1000000 in
theorem c_v_bitAt (n : Nat) (hn : n < 2144) : jM l y_v_bitAt b_v_bitAt 2 (some .int) (rmD 1) D (tyD ca) X [.ref (g 3), .int (pw (n + 1))] (wd g ca len ps sp ng fm df dt wg ex hg mo tp lb wo) (jPi fun r w => r = nI (wnum wo / 2 ^ n % 2) ∧ w = wd g ca len ps sp ng fm df dt wg ex hg mo tp lb wo) := by
  refine jM.of [some (.ref (g 3)), some (.int (pw (n + 1)))] (by simp [jle, jent, Value.category]) rfl (Nat.le_of_ble_eq_true rfl) ?_
  intro p e s m args below meth c sz hC
  refine j_aloadn0 (pc := 0) hC d_v_bitAt_0 ?_
  refine jg_V_13 (pc := 1) hC d_v_bitAt_1 ?_
  refine j_iloadn1 (pc := 4) hC d_v_bitAt_4 ?_
  refine j_S1i (pc := 5) hC cw_V_36 (rmD_in (by decide)) (Nat.le_of_ble_eq_true rfl) d_v_bitAt_5 (c_v_wordOf n hn) (fun r w2 h1 => ?_)
  obtain ⟨rfl, rfl⟩ := h1
  refine ja_words_iaload (pc := 8) hC (vp_in_nI (by omega) (by decide)) d_v_bitAt_8 ?_
  refine j_iloadn1 (pc := 9) hC d_v_bitAt_9 ?_
  refine j_S1i (pc := 10) hC cw_V_40 (rmD_in (by decide)) (Nat.le_of_ble_eq_true rfl) d_v_bitAt_10 (c_v_shiftOf n hn) (fun r w2 h2 => ?_)
  obtain ⟨rfl, rfl⟩ := h2
  refine j_iushr (pc := 13) hC d_v_bitAt_13 ?_
  refine j_iconst (pc := 14) (v := 1) hC d_v_bitAt_14 (by decide) ?_
  refine j_iand (pc := 15) hC d_v_bitAt_15 ?_
  refine j_iret hC d_v_bitAt_16 ⟨_, rfl, ?_, rfl⟩
  rw [bit_at _ (Nat.mod_lt _ (by omega)), wnum_bit wo hn, nI_clamp (by omega)]
/-- how many bits a number has -/
def nbits (w n : Nat) : Prop := w < 2 ^ n ∧ (0 < n → 2 ^ (n - 1) ≤ w)
theorem div_mod_zero {w n : Nat} (h : w < 2 ^ (n + 1)) (hb : w / 2 ^ n % 2 = 0) : w < 2 ^ n := by
  rw [Nat.pow_succ] at h
  have h1 : w / 2 ^ n < 2 := (Nat.div_lt_iff_lt_mul (Nat.two_pow_pos n)).mpr (by omega)
  have h2 : w / 2 ^ n = 0 := by
    generalize w / 2 ^ n = q at h1 hb
    omega
  rcases Nat.lt_or_ge w (2 ^ n) with h3 | h3
  · exact h3
  · have := Nat.div_pos h3 (Nat.two_pow_pos n)
    omega
theorem div_mod_one {w n : Nat} (hb : ¬ w / 2 ^ n % 2 = 0) : 2 ^ n ≤ w := by
  rcases Nat.lt_or_ge w (2 ^ n) with h3 | h3
  · rw [Nat.div_eq_of_lt h3] at hb
    omega
  · exact h3
set_option maxHeartbeats 2000000 in
theorem c_v_topPower : jM l y_v_topPower b_v_topPower 2 (some .int) (rmD 2) D (tyD ca) X [.ref (g 3)] (wd g ca len ps sp ng fm df dt wg ex hg mo tp lb wo) (jPi fun r w => ∃ n, n ≤ 2144 ∧ nbits (wnum wo) n ∧ r = pw n ∧ w = wd g ca len ps sp ng fm df dt wg ex hg mo tp lb wo) := by
  refine jM.of [some (.ref (g 3)), none] (by simp [jle, jent, Value.category]) rfl (Nat.le_of_ble_eq_true rfl) ?_
  intro p e s m args below meth c sz hC
  have cmp : ∀ n, n ≤ 2144 → (pw n < -1088 ↔ n = 0) := fun n hn => by
    rw [i32lt, pw_toInt (by omega), show ((-1088 : Int32)).toInt = -1088 from rfl]
    omega
  have loop2 : ∀ n, n ≤ 2144 → wnum wo < 2 ^ n → J p l e (rmD 2) s m args below meth c D (va_A (wd g ca len ps sp ng fm df dt wg ex hg mo tp lb wo) sz) 2 (MQ below (jQ D (wd g ca len ps sp ng fm df dt wg ex hg mo tp lb wo) sz (jPi fun r w => ∃ n, n ≤ 2144 ∧ nbits (wnum wo) n ∧ r = pw n ∧ w = wd g ca len ps sp ng fm df dt wg ex hg mo tp lb wo)) args s 0 0 (va_A (wd g ca len ps sp ng fm df dt wg ex hg mo tp lb wo) sz)) 29 [some (.ref (g 3)), some (.int (pw n))] [] (wd g ca len ps sp ng fm df dt wg ex hg mo tp lb wo) := by
    intro n
    induction n with
    | zero =>
      intro hn hw
      refine j_iloadn1 (pc := 29) hC d_v_topPower_29 ?_
      refine j_sipush (pc := 30) (v := -1088) hC d_v_topPower_30 (by decide) ?_
      refine j_icmp_lt (pc := 33) hC 50 d_v_topPower_33 (by decide) (fun h1 => ?_) (fun h1 => ?_)
      · refine j_iloadn1 (pc := 50) hC d_v_topPower_50 ?_
        exact j_iret hC d_v_topPower_51 ⟨_, rfl, 0, hn, ⟨hw, fun q => absurd q (by omega)⟩, rfl, rfl⟩
      · rw [cmp 0 hn] at h1
        exact absurd rfl h1
    | succ n ih =>
      intro hn hw
      refine j_iloadn1 (pc := 29) hC d_v_topPower_29 ?_
      refine j_sipush (pc := 30) (v := -1088) hC d_v_topPower_30 (by decide) ?_
      refine j_icmp_lt (pc := 33) hC 50 d_v_topPower_33 (by decide) (fun h1 => ?_) (fun h1 => ?_)
      · rw [cmp (n + 1) hn] at h1
        omega
      · refine j_aloadn0 (pc := 36) hC d_v_topPower_36 ?_
        refine j_iloadn1 (pc := 37) hC d_v_topPower_37 ?_
        refine j_V1i (pc := 38) (q0 := 3) (ci := 2) hC cw_V_84 (rmD_in (by decide)) (Nat.le_of_ble_eq_true rfl) rfl rfl d_v_topPower_38 (c_v_bitAt n (by omega)) (fun r w2 h2 => ?_)
        obtain ⟨rfl, rfl⟩ := h2
        refine j_if_ne (pc := 41) hC 50 d_v_topPower_41 (by decide) (fun h3 => ?_) (fun h3 => ?_)
        · refine j_iloadn1 (pc := 50) hC d_v_topPower_50 ?_
          have h3 : ¬ wnum wo / 2 ^ n % 2 = 0 := fun q => h3 (by rw [q]; rfl)
          exact j_iret hC d_v_topPower_51 ⟨_, rfl, n + 1, hn, ⟨hw, fun _ => div_mod_one h3⟩, rfl, rfl⟩
        · refine j_iinc1 (pc := 44) hC d_v_topPower_44 (by decide) (by first | exact trivial | exact rfl) ?_
          refine j_goto (pc := 47) hC 29 d_v_topPower_47 (by decide) ?_
          have h3 : wnum wo / 2 ^ n % 2 = 0 := by
            have h4 : nI (wnum wo / 2 ^ n % 2) = nI 0 := h3
            rw [nI_eq (by omega) (by omega)] at h4
            exact h4
          refine J.to rfl ?_ rfl rfl (ih (by omega) (div_mod_zero hw h3))
          rw [pw_dec (by omega)]
  have loop1 : ∀ k, k ≤ 67 → wnum wo < 2 ^ (32 * k) → J p l e (rmD 2) s m args below meth c D (va_A (wd g ca len ps sp ng fm df dt wg ex hg mo tp lb wo) sz) 2 (MQ below (jQ D (wd g ca len ps sp ng fm df dt wg ex hg mo tp lb wo) sz (jPi fun r w => ∃ n, n ≤ 2144 ∧ nbits (wnum wo) n ∧ r = pw n ∧ w = wd g ca len ps sp ng fm df dt wg ex hg mo tp lb wo)) args s 0 0 (va_A (wd g ca len ps sp ng fm df dt wg ex hg mo tp lb wo) sz)) 4 [some (.ref (g 3)), some (.int (pw (32 * k)))] [] (wd g ca len ps sp ng fm df dt wg ex hg mo tp lb wo) := by
    intro k
    induction k with
    | zero =>
      intro hk hw
      refine j_iloadn1 (pc := 4) hC d_v_topPower_4 ?_
      refine j_sipush (pc := 5) (v := -1088) hC d_v_topPower_5 (by decide) ?_
      refine j_icmp_lt (pc := 8) hC 29 d_v_topPower_8 (by decide) (fun h1 => ?_) (fun h1 => ?_)
      · exact loop2 0 (by omega) hw
      · rw [cmp _ (by omega)] at h1
        omega
    | succ k ih =>
      intro hk hw
      refine j_iloadn1 (pc := 4) hC d_v_topPower_4 ?_
      refine j_sipush (pc := 5) (v := -1088) hC d_v_topPower_5 (by decide) ?_
      refine j_icmp_lt (pc := 8) hC 29 d_v_topPower_8 (by decide) (fun h1 => ?_) (fun h1 => ?_)
      · rw [cmp _ (by omega)] at h1
        omega
      · refine j_aloadn0 (pc := 11) hC d_v_topPower_11 ?_
        refine jg_V_13 (pc := 12) hC d_v_topPower_12 ?_
        refine j_iloadn1 (pc := 15) hC d_v_topPower_15 ?_
        refine j_S1i (pc := 16) hC cw_V_36 (rmD_in (by decide)) (Nat.le_of_ble_eq_true rfl) d_v_topPower_16 (c_v_wordOf (32 * k + 31) (by omega)) (fun r w2 h2 => ?_)
        obtain ⟨rfl, rfl⟩ := h2
        have hcl : (nI (66 - (32 * k + 31) / 32)).toNatClampNeg = 66 - k := by rw [nI_clamp (by omega)]; omega
        refine ja_words_iaload (pc := 19) hC (vp_in_nI (by omega) (by decide)) d_v_topPower_19 ?_
        rw [hcl]
        have hword := wnum_word wo (k := k) (by omega)
        have hpw : (2 : Nat) ^ (32 * (k + 1)) = 2 ^ (32 * k) * 4294967296 := by
          rw [Nat.mul_add, Nat.pow_add]
        refine j_if_ne (pc := 20) hC 29 d_v_topPower_20 (by decide) (fun h3 => ?_) (fun h3 => ?_)
        · exact loop2 (32 * (k + 1)) (by omega) hw
        · refine j_iinc1 (pc := 23) hC d_v_topPower_23 (by decide) (by first | exact trivial | exact rfl) ?_
          refine j_goto (pc := 26) hC 4 d_v_topPower_26 (by decide) ?_
          have h4 : un (wo (66 - k)) = 0 := un_0.mpr h3
          rw [h4] at hword
          have h5 : wnum wo < 2 ^ (32 * k) := by
            rw [hpw] at hw
            have h6 : wnum wo / 2 ^ (32 * k) < 4294967296 := (Nat.div_lt_iff_lt_mul (Nat.two_pow_pos _)).mpr (by rw [Nat.mul_comm]; exact hw)
            rw [Nat.mod_eq_of_lt h6] at hword
            rcases Nat.lt_or_ge (wnum wo) (2 ^ (32 * k)) with h7 | h7
            · exact h7
            · have := Nat.div_pos h7 (Nat.two_pow_pos _)
              omega
          refine J.to rfl ?_ rfl rfl (ih (by omega) h5)
          have e : pw (32 * (k + 1)) + Int32.ofInt (-32) = pw (32 * k) := pw_inj (by omega) (by
            have e1 := pw_toInt (n := 32 * (k + 1)) (by omega)
            have o : (Int32.ofInt (-32)).toInt = -32 := rfl
            rw [tadd (by omega) (by omega), e1, o]
            omega)
          rw [e]
  refine j_sipush (pc := 0) (v := 1055) hC d_v_topPower_0 (by decide) ?_
  refine j_istoren1 (pc := 3) hC d_v_topPower_3 (by decide) (by first | exact trivial | exact rfl) ?_
  exact loop1 67 (by omega) (by
    have h := hv_lt (B := 4294967296) (f := fun i => un (wo i)) (n := 67) (fun i _ => un_lt (wo i))
    rw [show (4294967296 : Nat) = 2 ^ 32 by decide, ← Nat.pow_mul] at h
    exact h)
end VB

