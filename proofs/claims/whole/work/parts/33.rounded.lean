/-! THE CLASS: Value.rounded -/
theorem wnum_low (wo : Nat → Int32) {n : Nat} (hn : n < 2144) : wnum wo % 2 ^ n ≠ 0 ↔ (un (wo (66 - n / 32)) % 2 ^ (n % 32) ≠ 0 ∨ ∃ i, 67 - n / 32 ≤ i ∧ i < 67 ∧ wo i ≠ 0) := by
  have e : n = 32 * (n / 32) + n % 32 := (Nat.div_add_mod n 32).symm
  have h1 : 2 ^ n = 2 ^ (32 * (n / 32)) * 2 ^ (n % 32) := by rw [← Nat.pow_add, ← e]
  have hr : n % 32 < 32 := Nat.mod_lt _ (by omega)
  have hword := wnum_word wo (k := n / 32) (by omega)
  have h2 : (4294967296 : Nat) = 2 ^ (n % 32) * 2 ^ (32 - n % 32) := by
    rw [← Nat.pow_add, show n % 32 + (32 - n % 32) = 32 by omega]
  have h3 : wnum wo / 2 ^ (32 * (n / 32)) % 2 ^ (n % 32) = un (wo (66 - n / 32)) % 2 ^ (n % 32) := by
    rw [← hword, h2, Nat.mod_mul_right_mod]
  have hk : n / 32 ≤ 66 := by omega
  have h4 : wnum wo % 2 ^ (32 * (n / 32)) = hv 4294967296 (fun i => un (wo (67 - n / 32 + i))) (n / 32) := by
    have := hv_mod (B := 4294967296) (by omega) (f := fun i => un (wo i)) (n := 67 - n / 32) (m := n / 32) (fun i _ => un_lt (wo i))
    rw [show 67 - n / 32 + n / 32 = 67 by omega] at this
    rw [Nat.pow_mul, show (2 : Nat) ^ 32 = 4294967296 by decide]
    exact this
  rw [h1, Nat.mod_mul, h3, h4]
  have hp : 0 < 2 ^ (32 * (n / 32)) := Nat.two_pow_pos _
  constructor
  · intro h
    rcases Nat.eq_zero_or_pos (un (wo (66 - n / 32)) % 2 ^ (n % 32)) with z | z
    · right
      rw [z, Nat.mul_zero, Nat.add_zero] at h
      rcases Classical.em (∃ i, 67 - n / 32 ≤ i ∧ i < 67 ∧ wo i ≠ 0) with q | q
      · exact q
      · exact absurd (hv_zero _ (fun i hi => by
          rcases Classical.em (wo (67 - n / 32 + i) = 0) with y | y
          · exact un_0.mpr y
          · exact absurd ⟨_, by omega, by omega, y⟩ q)) h
    · left
      omega
  · rintro (h | ⟨i, h5, h6, h7⟩)
    · have : 0 < 2 ^ (32 * (n / 32)) * (un (wo (66 - n / 32)) % 2 ^ (n % 32)) := Nat.mul_pos hp (by omega)
      omega
    · have := hv_pos (B := 4294967296) (by omega) (f := fun i => un (wo (67 - n / 32 + i))) (n := n / 32) (k := i - (67 - n / 32)) (by omega) (by
        show un (wo (67 - n / 32 + (i - (67 - n / 32)))) ≠ 0
        rw [show 67 - n / 32 + (i - (67 - n / 32)) = i by omega]
        exact fun q => h7 (un_0.mp q))
      omega
theorem mask_at (x : Int32) {k : Nat} (hk : k < 32) : x &&& ((1 : Int32) <<< (nI k &&& 31) - 1) = nI (un x % 2 ^ k) := by
  have h1 : (1 : Int32) <<< (nI k &&& 31) = nI (2 ^ k) := by
    have := pk_shlN (n := 1) (nI k &&& 31) k (sl32 k hk) (by rw [Nat.one_mul]; exact Nat.pow_lt_pow_right (by omega) hk)
    rw [Nat.one_mul] at this
    exact this
  have hp : 0 < 2 ^ k := Nat.two_pow_pos k
  have hlt : 2 ^ k < 2 ^ 32 := Nat.pow_lt_pow_right (by omega) hk
  obtain ⟨j, hj⟩ : ∃ j, 2 ^ k = j + 1 := ⟨2 ^ k - 1, by omega⟩
  rw [h1, hj, nI_pred, ← hj]
  exact pk_and x k (by rw [pk_tn (by omega)]; omega)
section VR
variable {l : Launch} {D : va_G} {X : jX} {g : Nat → Nat} {ca : Nat → ClassId} {len ps sp ng fm df dt wg ex hg mo : Int32} {tp lb wo : Nat → Int32}
set_option maxHeartbeats 2000000 in
theorem c_v_isMoreBelow (n : Nat) (hn : n < 2144) : jM l y_v_isMoreBelow b_v_isMoreBelow 4 (some .boolean) (rmD 1) D (tyD ca) X [.ref (g 3), .int (pw (n + 1))] (wd g ca len ps sp ng fm df dt wg ex hg mo tp lb wo) (jPi fun r w => r = (if mo ≠ 0 ∨ wnum wo % 2 ^ n ≠ 0 then 1 else 0) ∧ w = wd g ca len ps sp ng fm df dt wg ex hg mo tp lb wo) := by
  refine jM.of [some (.ref (g 3)), some (.int (pw (n + 1))), none, none] (by simp [jle, jent, Value.category]) rfl (Nat.le_of_ble_eq_true rfl) ?_
  intro p e s m args below meth c sz hC
  have hlow := wnum_low wo hn
  have loop : ∀ k i, i + k = 67 → mo = 0 → ¬ un (wo (66 - n / 32)) % 2 ^ (n % 32) ≠ 0 → 67 - n / 32 ≤ i → (∀ j, 67 - n / 32 ≤ j → j < i → wo j = 0) → J p l e (rmD 1) s m args below meth c D (va_A (wd g ca len ps sp ng fm df dt wg ex hg mo tp lb wo) sz) 4 (MQ below (jQ D (wd g ca len ps sp ng fm df dt wg ex hg mo tp lb wo) sz (jPi fun r w => r = (if mo ≠ 0 ∨ wnum wo % 2 ^ n ≠ 0 then 1 else 0) ∧ w = wd g ca len ps sp ng fm df dt wg ex hg mo tp lb wo)) args s 0 0 (va_A (wd g ca len ps sp ng fm df dt wg ex hg mo tp lb wo) sz)) 36 [some (.ref (g 3)), some (.int (pw (n + 1))), some (.int (nI (66 - n / 32))), some (.int (nI i))] [] (wd g ca len ps sp ng fm df dt wg ex hg mo tp lb wo) := by
    intro k
    induction k with
    | zero =>
      intro i hi hm hu hge hz
      refine j_iloadn3 (pc := 36) hC d_v_isMoreBelow_36 ?_
      refine j_bipush (pc := 37) (v := 67) hC d_v_isMoreBelow_37 (by decide) ?_
      refine j_icmp_ge (pc := 39) hC 59 d_v_isMoreBelow_39 (by decide) (fun h1 => ?_) (fun h1 => ?_)
      · refine j_iconst (pc := 59) (v := 0) hC d_v_isMoreBelow_59 (by decide) ?_
        refine j_zret hC rfl d_v_isMoreBelow_60 ⟨0, rfl, ?_, rfl⟩
        rw [if_neg]
        rintro (q | q)
        · exact q hm
        · rcases hlow.mp q with q | ⟨j, q1, q2, q3⟩
          · exact hu q
          · exact q3 (hz j q1 (by omega))
      · have h1 : ¬ nI 67 ≤ nI i := h1
        rw [nI_leI (by omega) (by omega)] at h1
        omega
    | succ k ih =>
      intro i hi hm hu hge hz
      refine j_iloadn3 (pc := 36) hC d_v_isMoreBelow_36 ?_
      refine j_bipush (pc := 37) (v := 67) hC d_v_isMoreBelow_37 (by decide) ?_
      refine j_icmp_ge (pc := 39) hC 59 d_v_isMoreBelow_39 (by decide) (fun h1 => ?_) (fun h1 => ?_)
      · have h1 : nI 67 ≤ nI i := h1
        rw [nI_leI (by omega) (by omega)] at h1
        omega
      · refine j_aloadn0 (pc := 42) hC d_v_isMoreBelow_42 ?_
        refine jg_V_13 (pc := 43) hC d_v_isMoreBelow_43 ?_
        refine j_iloadn3 (pc := 46) hC d_v_isMoreBelow_46 ?_
        refine ja_words_iaload (pc := 47) hC (vp_in_nI (by omega) (by decide)) d_v_isMoreBelow_47 ?_
        rw [nI_clamp (show i < 2 ^ 31 by omega)]
        refine j_if_eq (pc := 48) hC 53 d_v_isMoreBelow_48 (by decide) (fun h2 => ?_) (fun h2 => ?_)
        · refine j_iinc3 (pc := 53) hC d_v_isMoreBelow_53 (by decide) (by first | exact trivial | exact rfl) ?_
          refine j_goto (pc := 56) hC 36 d_v_isMoreBelow_56 (by decide) ?_
          refine J.to rfl ?_ rfl rfl (ih (i + 1) (by omega) hm hu (by omega) (fun j q1 q2 => ?_))
          · rw [← nI_1]
            rfl
          · rcases Nat.lt_or_eq_of_le (Nat.le_of_lt_succ q2) with q | q
            · exact hz j q1 q
            · rw [q]; exact h2
        · refine j_iconst (pc := 51) (v := 1) hC d_v_isMoreBelow_51 (by decide) ?_
          refine j_zret hC rfl d_v_isMoreBelow_52 ⟨1, rfl, ?_, rfl⟩
          rw [if_pos (Or.inr (hlow.mpr (Or.inr ⟨i, hge, by omega, h2⟩)))]
  refine j_iloadn1 (pc := 0) hC d_v_isMoreBelow_0 ?_
  refine j_S1i (pc := 1) hC cw_V_36 (rmD_in (by decide)) (Nat.le_of_ble_eq_true rfl) d_v_isMoreBelow_1 (c_v_wordOf n hn) (fun r w2 h1 => ?_)
  obtain ⟨rfl, rfl⟩ := h1
  refine j_istoren2 (pc := 4) hC d_v_isMoreBelow_4 (by decide) (by first | exact trivial | exact rfl) ?_
  refine j_aloadn0 (pc := 5) hC d_v_isMoreBelow_5 ?_
  refine jg_V_20 (pc := 6) hC d_v_isMoreBelow_6 ?_
  refine j_if_ne (pc := 9) hC 30 d_v_isMoreBelow_9 (by decide) (fun h2 => ?_) (fun h2 => ?_)
  · refine j_iconst (pc := 30) (v := 1) hC d_v_isMoreBelow_30 (by decide) ?_
    exact j_zret hC rfl d_v_isMoreBelow_31 ⟨1, rfl, by rw [if_pos (Or.inl h2)], rfl⟩
  · refine j_aloadn0 (pc := 12) hC d_v_isMoreBelow_12 ?_
    refine jg_V_13 (pc := 13) hC d_v_isMoreBelow_13 ?_
    refine j_iloadn2 (pc := 16) hC d_v_isMoreBelow_16 ?_
    refine ja_words_iaload (pc := 17) hC (vp_in_nI (by omega) (by decide)) d_v_isMoreBelow_17 ?_
    refine j_iconst (pc := 18) (v := 1) hC d_v_isMoreBelow_18 (by decide) ?_
    refine j_iloadn1 (pc := 19) hC d_v_isMoreBelow_19 ?_
    refine j_S1i (pc := 20) hC cw_V_40 (rmD_in (by decide)) (Nat.le_of_ble_eq_true rfl) d_v_isMoreBelow_20 (c_v_shiftOf n hn) (fun r w2 h3 => ?_)
    obtain ⟨rfl, rfl⟩ := h3
    rw [nI_clamp (show 66 - n / 32 < 2 ^ 31 by omega)]
    refine j_ishl (pc := 23) hC d_v_isMoreBelow_23 ?_
    refine j_iconst (pc := 24) (v := 1) hC d_v_isMoreBelow_24 (by decide) ?_
    refine j_isub (pc := 25) hC d_v_isMoreBelow_25 ?_
    refine j_iand (pc := 26) hC d_v_isMoreBelow_26 ?_
    refine J.topi (mask_at _ (Nat.mod_lt _ (by omega))) ?_
    have hsm : un (wo (66 - n / 32)) % 2 ^ (n % 32) < 2 ^ 31 := by
      have h5 : n % 32 < 32 := Nat.mod_lt _ (by omega)
      have h6 : 2 ^ (n % 32) ≤ 2 ^ 31 := Nat.pow_le_pow_right (by omega) (by omega)
      have h7 := Nat.mod_lt (un (wo (66 - n / 32))) (Nat.two_pow_pos (n % 32))
      omega
    refine j_if_eq (pc := 27) hC 32 d_v_isMoreBelow_27 (by decide) (fun h4 => ?_) (fun h4 => ?_)
    · have h4 : nI (un (wo (66 - n / 32)) % 2 ^ (n % 32)) = nI 0 := h4
      rw [nI_eq hsm (by omega)] at h4
      refine j_iloadn2 (pc := 32) hC d_v_isMoreBelow_32 ?_
      refine j_iconst (pc := 33) (v := 1) hC d_v_isMoreBelow_33 (by decide) ?_
      refine j_iadd (pc := 34) hC d_v_isMoreBelow_34 ?_
      refine j_istoren3 (pc := 35) hC d_v_isMoreBelow_35 (by decide) (by first | exact trivial | exact rfl) ?_
      refine J.to rfl ?_ rfl rfl (loop (n / 32) (67 - n / 32) (by omega) h2 (fun q => q h4) (Nat.le_refl _) (fun j q1 q2 => by omega))
      rw [show 67 - n / 32 = 66 - n / 32 + 1 by omega, ← nI_1]
    · have h4 : ¬ un (wo (66 - n / 32)) % 2 ^ (n % 32) = 0 := fun q => h4 (by rw [q]; rfl)
      refine j_iconst (pc := 30) (v := 1) hC d_v_isMoreBelow_30 (by decide) ?_
      exact j_zret hC rfl d_v_isMoreBelow_31 ⟨1, rfl, by rw [if_pos (Or.inr (hlow.mpr (Or.inl h4)))], rfl⟩
end VR

