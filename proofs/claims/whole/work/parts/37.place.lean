/-! THE CLASS: Value.addDecimalDigit, addHexDigit; by places -/
/-- the limbs hold the digits e of the places 0 to 1394 -/
def Le (lb : Nat → Int32) (e : Nat → Nat) : Prop := ∀ k, k < 155 → lb k = nI (hv 10 (fun i => e (9 * k + i)) 9)
theorem Le_lt {e : Nat → Nat} (he : ∀ P, e P < 10) (k : Nat) : hv 10 (fun i => e (9 * k + i)) 9 < 1000000000 := hv_lt (B := 10) (n := 9) (fun i _ => he _)
theorem Le.Lr {lb : Nat → Int32} {e : Nat → Nat} (h : Le lb e) (he : ∀ P, e P < 10) : Lr lb (fun k => hv 10 (fun i => e (9 * k + i)) 9) := fun k hk => ⟨h k hk, Le_lt he k⟩
theorem Le.set {lb : Nat → Int32} {e : Nat → Nat} {P d : Nat} (h : Le lb e) (hP : P < 1395) (h0 : e P = 0) : Le (upd lb (P / 9) (lb (P / 9) + nI d * nI (10 ^ (8 - P % 9)))) (nup e P d) := fun k hk => by
  have hr : P % 9 < 9 := Nat.mod_lt _ (by omega)
  have hdm := Nat.div_add_mod P 9
  unfold upd
  by_cases e1 : k = P / 9
  · subst e1
    rw [if_pos rfl, h _ hk, pk_mul, nI_add]
    congr 1
    have h1 := hv_set (B := 10) (f := fun i => e (9 * (P / 9) + i)) (k := P % 9) (x := d) (n := 9) hr
    have e2 : e (9 * (P / 9) + P % 9) = 0 := by rw [hdm]; exact h0
    rw [e2, Nat.zero_mul, Nat.add_zero] at h1
    rw [show 9 - 1 - P % 9 = 8 - P % 9 by omega] at h1
    rw [← h1]
    apply hv_congr
    intro i hi
    unfold nup
    by_cases e3 : i = P % 9
    · rw [if_pos e3, if_pos (by omega)]
    · rw [if_neg e3, if_neg (by omega)]
  · rw [if_neg e1, h _ hk]
    congr 1
    apply hv_congr
    intro i hi
    unfold nup
    rw [if_neg (by omega)]
/-- the words hold the bits e of the places 0 to 2143 -/
def We (wo : Nat → Int32) (e : Nat → Nat) : Prop := ∀ k, k < 67 → un (wo k) = hv 2 (fun i => e (32 * k + i)) 32
theorem We.num {wo : Nat → Int32} {e : Nat → Nat} (h : We wo e) : wnum wo = hv 2 e 2144 := by
  have := hv_group (b := 2) (w := 32) (e := e) (f := fun i => un (wo i)) (n := 67) h
  exact this
theorem or_bit {x k : Nat} (hk : x / 2 ^ k % 2 = 0) : x ||| 2 ^ k = x + 2 ^ k := by
  have h1 := Nat.div_add_mod x (2 ^ (k + 1))
  have hlt : x % 2 ^ (k + 1) < 2 ^ k := by
    have h2 : x % 2 ^ (k + 1) / 2 ^ k % 2 = 0 := by
      rw [Nat.pow_succ, Nat.mod_mul_right_div_self]
      omega
    exact div_mod_zero (Nat.mod_lt _ (Nat.two_pow_pos _)) h2
  apply Nat.eq_of_testBit_eq
  intro i
  rw [Nat.testBit_or, Nat.testBit_two_pow]
  rcases Nat.lt_trichotomy i k with h | h | h
  · rw [Nat.add_comm x, Nat.testBit_two_pow_add_gt h]
    simp [show ¬ k = i by omega]
  · subst h
    rw [Nat.add_comm x, Nat.testBit_two_pow_add_eq]
    have : x.testBit i = false := by
      rw [Nat.testBit_eq_decide_div_mod_eq]
      simp [hk]
    simp [this]
  · have e1 : x + 2 ^ k = 2 ^ (k + 1) * (x / 2 ^ (k + 1)) + (x % 2 ^ (k + 1) + 2 ^ k) := by omega
    have hlt2 : x % 2 ^ (k + 1) + 2 ^ k < 2 ^ (k + 1) := by rw [Nat.pow_succ] at *; omega
    rw [e1, Nat.testBit_two_pow_mul_add _ hlt2]
    have e2 : x.testBit i = (x / 2 ^ (k + 1)).testBit (i - (k + 1)) := by
      conv => lhs; rw [← h1]
      rw [Nat.testBit_two_pow_mul_add _ (Nat.mod_lt _ (Nat.two_pow_pos _))]
      simp [show ¬ i < k + 1 by omega]
    rw [e2]
    simp [show ¬ i < k + 1 by omega, show ¬ k = i by omega]
/-- a digit laid at a place, if the place is kept -/
def eP (C : Nat) (e : Nat → Nat) (P : Int) (d : Nat) : Nat → Nat := if P < 0 ∨ (C : Int) ≤ P then e else nup e P.toNat d
theorem eS_eP (C : Nat) (dgt : Nat → Nat) (s : Int) (k : Nat) : eS C dgt s (k + 1) = eP C (eS C dgt s k) (s + (k : Int)) (dgt k) := rfl
theorem eP_0 {C : Nat} {e : Nat → Nat} {P : Int} (h : ∀ n : Nat, (n : Int) = P → e n = 0) : eP C e P 0 = e := by
  unfold eP
  split
  · rfl
  · funext j
    unfold nup
    split
    · rename_i h1 h2
      rw [h2]
      exact (h P.toNat (by omega)).symm
    · rfl
theorem eP_swap {C : Nat} {e : Nat → Nat} {P Q : Int} {a b : Nat} (h : P ≠ Q) : eP C (eP C e P a) Q b = eP C (eP C e Q b) P a := by
  unfold eP
  by_cases h1 : P < 0 ∨ (C : Int) ≤ P <;> by_cases h2 : Q < 0 ∨ (C : Int) ≤ Q
  · simp only [if_pos h1, if_pos h2]
  · simp only [if_pos h1, if_neg h2]
  · simp only [if_neg h1, if_pos h2]
  · simp only [if_neg h1, if_neg h2]
    funext j
    unfold nup
    by_cases h3 : j = Q.toNat
    · have h4 : ¬ j = P.toNat := by omega
      simp only [if_pos h3, if_neg h4]
    · simp only [if_neg h3]
theorem eP_at {C : Nat} {e : Nat → Nat} {P : Int} {d n : Nat} (h : (n : Int) ≠ P) : eP C e P d n = e n := by
  unfold eP
  split
  · rfl
  · unfold nup
    rw [if_neg (by omega)]
theorem eP_lt {b C : Nat} {e : Nat → Nat} {P : Int} {d : Nat} (he : ∀ n, e n < b) (hd : d < b) (n : Nat) : eP C e P d n < b := by
  unfold eP
  split
  · exact he n
  · unfold nup
    split
    · exact hd
    · exact he n
section VP
variable {l : Launch} {D : va_G} {X : jX} {g : Nat → Nat} {ca : Nat → ClassId} {len ps sp ng fm df dt wg ex hg mo : Int32} {tp lb wo : Nat → Int32}
set_option maxHeartbeats 2000000 in
theorem c_v_addDecimalDigit (d : Nat) (wt : Int32) (e : Nat → Nat) (hd : d < 10) (hLe : Le lb e) (h0 : ∀ n : Nat, (n : Int) = 314 - wt.toInt → e n = 0) : jM l y_v_addDecimalDigit b_v_addDecimalDigit 5 none (rmD 0) D (tyD ca) X [.ref (g 3), .int (nI d), .int wt] (wd g ca len ps sp ng fm df dt wg ex hg mo tp lb wo) (jPv fun w => ∃ (lb2 : Nat → Int32) (hg2 mo2 : Int32), Le lb2 (eP 1395 e (314 - wt.toInt) d) ∧ (hg2 ≠ 0 ↔ (hg ≠ 0 ∨ (d ≠ 0 ∧ 314 - wt.toInt < 0))) ∧ (mo2 ≠ 0 ↔ (mo ≠ 0 ∨ (d ≠ 0 ∧ 1395 ≤ 314 - wt.toInt))) ∧ w = wd g ca len ps sp ng fm df dt wg ex (hg2) (mo2) tp (lb2) wo) := by
  refine jM.of [some (.ref (g 3)), some (.int (nI d)), some (.int wt), none, none] (by simp [jle, jent, Value.category]) rfl (Nat.le_of_ble_eq_true rfl) ?_
  intro p env s m args below meth c sz hC
  have e314 : (314 : Int32).toInt = 314 := rfl
  have e1080 : (-1080 : Int32).toInt = -1080 := rfl
  refine j_iloadn1 (pc := 0) hC d_v_addDecimalDigit_0 ?_
  refine j_if_ne (pc := 1) hC 5 d_v_addDecimalDigit_1 (by decide) (fun h1 => ?_) (fun h1 => ?_)
  · have hd0 : d ≠ 0 := fun q => h1 (by rw [q]; rfl)
    refine j_iloadn2 (pc := 5) hC d_v_addDecimalDigit_5 ?_
    refine j_sipush (pc := 6) (v := 314) hC d_v_addDecimalDigit_6 (by decide) ?_
    refine j_icmp_le (pc := 9) hC 20 d_v_addDecimalDigit_9 (by decide) (fun h2 => ?_) (fun h2 => ?_)
    · rw [i32le, e314] at h2
      refine j_iloadn2 (pc := 20) hC d_v_addDecimalDigit_20 ?_
      refine j_sipush (pc := 21) (v := -1080) hC d_v_addDecimalDigit_21 (by decide) ?_
      refine j_icmp_ge (pc := 24) hC 35 d_v_addDecimalDigit_24 (by decide) (fun h3 => ?_) (fun h3 => ?_)
      · rw [i32le, e1080] at h3
        obtain ⟨P, hP⟩ : ∃ P : Nat, (P : Int) = 314 - wt.toInt := ⟨(314 - wt.toInt).toNat, by omega⟩
        have hPlt : P < 1395 := by omega
        have eP0 := h0 P hP
        refine j_sipush (pc := 35) (v := 314) hC d_v_addDecimalDigit_35 (by decide) ?_
        refine j_iloadn2 (pc := 38) hC d_v_addDecimalDigit_38 ?_
        refine j_isub (pc := 39) hC d_v_addDecimalDigit_39 ?_
        refine J.topi (y := nI P) (nI_to (by omega) (by rw [tsub (by omega) (by omega), e314]; omega)) ?_
        refine j_istoren3 (pc := 40) hC d_v_addDecimalDigit_40 (by decide) (by first | exact trivial | exact rfl) ?_
        refine js_V_29 (pc := 41) hC d_v_addDecimalDigit_41 ?_
        refine j_bipush (pc := 44) (v := 8) hC d_v_addDecimalDigit_44 (by decide) ?_
        refine j_iloadn3 (pc := 46) hC d_v_addDecimalDigit_46 ?_
        refine j_bipush (pc := 47) (v := 9) hC d_v_addDecimalDigit_47 (by decide) ?_
        refine j_irem (pc := 49) hC d_v_addDecimalDigit_49 (by decide) ?_
        refine j_isub (pc := 50) hC d_v_addDecimalDigit_50 ?_
        refine J.topi (y := nI (8 - P % 9)) (by rw [show (9 : Int32) = nI 9 from rfl, pk_rem (by omega) (by omega) (by omega), show (8 : Int32) = nI 8 from rfl, pk_sub (by omega)]) ?_
        refine j_pow (pc := 51) hC (by omega) d_v_addDecimalDigit_51 ?_
        refine j_istore4 (pc := 52) hC d_v_addDecimalDigit_52 (by decide) (by first | exact trivial | exact rfl) ?_
        refine j_aloadn0 (pc := 54) hC d_v_addDecimalDigit_54 ?_
        refine jg_V_9 (pc := 55) hC d_v_addDecimalDigit_55 ?_
        refine j_iloadn3 (pc := 58) hC d_v_addDecimalDigit_58 ?_
        refine j_bipush (pc := 59) (v := 9) hC d_v_addDecimalDigit_59 (by decide) ?_
        refine j_idiv (pc := 61) hC d_v_addDecimalDigit_61 (by decide) ?_
        refine J.topi (y := nI (P / 9)) (by rw [show (9 : Int32) = nI 9 from rfl, pk_div (by omega) (by omega) (by omega)]) ?_
        first | refine j_dup2 (pc := 62) hC d_v_addDecimalDigit_62 rfl rfl ?_ | refine j_dup2L (pc := 62) hC d_v_addDecimalDigit_62 rfl ?_
        refine ja_limbs_iaload (pc := 63) hC (vp_in_nI (by omega) (by decide)) d_v_addDecimalDigit_63 ?_
        refine j_iloadn1 (pc := 64) hC d_v_addDecimalDigit_64 ?_
        refine j_iload4 (pc := 65) hC d_v_addDecimalDigit_65 ?_
        refine j_imul (pc := 67) hC d_v_addDecimalDigit_67 ?_
        refine j_iadd (pc := 68) hC d_v_addDecimalDigit_68 ?_
        refine ja_limbs_iastore (pc := 69) hC (vp_in_nI (by omega) (by decide)) d_v_addDecimalDigit_69 ?_
        refine j_vret hC d_v_addDecimalDigit_70 ⟨rfl, _, hg, mo, ?_, ⟨Or.inl, fun q => q.elim id (fun q => by omega)⟩, ⟨Or.inl, fun q => q.elim id (fun q => by omega)⟩, rfl⟩
        rw [nI_clamp (by omega)]
        have hset := hLe.set (d := d) hPlt eP0
        unfold eP
        rw [if_neg (by omega), show (314 - wt.toInt).toNat = P by omega]
        exact hset
      · rw [i32le, e1080] at h3
        refine j_aloadn0 (pc := 27) hC d_v_addDecimalDigit_27 ?_
        refine j_iconst (pc := 28) (v := 1) hC d_v_addDecimalDigit_28 (by decide) ?_
        refine jp_V_20 (pc := 29) hC ⟨rfl,rfl⟩ d_v_addDecimalDigit_29 ?_
        refine j_goto (pc := 32) hC 70 d_v_addDecimalDigit_32 (by decide) ?_
        refine j_vret hC d_v_addDecimalDigit_70 ⟨rfl, lb, hg, 1, ?_, ⟨Or.inl, fun q => q.elim id (fun q => by omega)⟩, ⟨fun _ => Or.inr ⟨hd0, by omega⟩, fun _ => by decide⟩, rfl⟩
        unfold eP
        rw [if_pos (by omega)]
        exact hLe
    · rw [i32le, e314] at h2
      refine j_aloadn0 (pc := 12) hC d_v_addDecimalDigit_12 ?_
      refine j_iconst (pc := 13) (v := 1) hC d_v_addDecimalDigit_13 (by decide) ?_
      refine jp_V_16 (pc := 14) hC ⟨rfl,rfl⟩ d_v_addDecimalDigit_14 ?_
      refine j_goto (pc := 17) hC 70 d_v_addDecimalDigit_17 (by decide) ?_
      refine j_vret hC d_v_addDecimalDigit_70 ⟨rfl, lb, 1, mo, ?_, ⟨fun _ => Or.inr ⟨hd0, by omega⟩, fun _ => by decide⟩, ⟨Or.inl, fun q => q.elim id (fun q => by omega)⟩, rfl⟩
      unfold eP
      rw [if_pos (by omega)]
      exact hLe
  · have hd0 : d = 0 := by
      have h2 : nI d = nI 0 := h1
      rw [nI_eq (by omega) (by omega)] at h2
      exact h2
    subst hd0
    refine j_vret hC d_v_addDecimalDigit_4 ⟨rfl, lb, hg, mo, ?_, ⟨Or.inl, fun q => q.elim id (fun q => absurd rfl q.1)⟩, ⟨Or.inl, fun q => q.elim id (fun q => absurd rfl q.1)⟩, rfl⟩
    rw [eP_0 h0]
    exact hLe
theorem We_bit {wo : Nat → Int32} {e : Nat → Nat} {P : Nat} (h : We wo e) (he : ∀ n, e n < 2) (hP : P < 2144) (h0 : e P = 0) : We (upd wo (P / 32) (wo (P / 32) ||| (1 : Int32) <<< (nI (31 - P % 32) &&& 31))) (nup e P 1) := fun k hk => by
  have hr : P % 32 < 32 := Nat.mod_lt _ (by omega)
  have hdm := Nat.div_add_mod P 32
  have hone : (1 : Int32) <<< (nI (31 - P % 32) &&& 31) = nI (2 ^ (31 - P % 32)) := by
    have := pk_shlN (n := 1) (nI (31 - P % 32) &&& 31) (31 - P % 32) (sl32 _ (by omega)) (by rw [Nat.one_mul]; exact Nat.pow_lt_pow_right (by omega) (by omega))
    rw [Nat.one_mul] at this
    exact this
  unfold upd
  by_cases e1 : k = P / 32
  · subst e1
    rw [if_pos rfl, hone]
    have hor : un (wo (P / 32) ||| nI (2 ^ (31 - P % 32))) = un (wo (P / 32)) ||| 2 ^ (31 - P % 32) := by
      have h2 : un (nI (2 ^ (31 - P % 32))) = 2 ^ (31 - P % 32) := by
        rw [un_nI]
        exact Nat.mod_eq_of_lt (Nat.pow_lt_pow_right (a := 2) (m := 31 - P % 32) (n := 32) (by omega) (by omega))
      have h3 : un (wo (P / 32) ||| nI (2 ^ (31 - P % 32))) = un (wo (P / 32)) ||| un (nI (2 ^ (31 - P % 32))) := by
        unfold un
        rw [Int32.toBitVec_or, BitVec.toNat_or]
      rw [h3, h2]
    have hb : hv 2 (fun i => e (32 * (P / 32) + i)) 32 / 2 ^ (32 - 1 - P % 32) % 2 = e (32 * (P / 32) + P % 32) := hv_dig (B := 2) (by omega) (f := fun i => e (32 * (P / 32) + i)) hr (fun i _ => he _)
    rw [hdm, h0, show 32 - 1 - P % 32 = 31 - P % 32 by omega] at hb
    rw [hor, h _ hk, or_bit hb]
    have h1 := hv_set (B := 2) (f := fun i => e (32 * (P / 32) + i)) (k := P % 32) (x := 1) (n := 32) hr
    have e2 : e (32 * (P / 32) + P % 32) = 0 := by rw [hdm]; exact h0
    rw [e2, Nat.zero_mul, Nat.add_zero, Nat.one_mul, show 32 - 1 - P % 32 = 31 - P % 32 by omega] at h1
    rw [← h1]
    apply hv_congr
    intro i hi
    unfold nup
    by_cases e3 : i = P % 32
    · rw [if_pos e3, if_pos (by omega)]
    · rw [if_neg e3, if_neg (by omega)]
  · rw [if_neg e1, h _ hk]
    apply hv_congr
    intro i hi
    unfold nup
    rw [if_neg (by omega)]
set_option maxHeartbeats 2000000 in
theorem c_v_addBit (wt : Int32) (e : Nat → Nat) (he : ∀ n, e n < 2) (hWe : We wo e) (h0 : ∀ n : Nat, (n : Int) = 1055 - wt.toInt → e n = 0) : jM l y_v_addBit b_v_addBit 2 none (rmD 1) D (tyD ca) X [.ref (g 3), .int wt] (wd g ca len ps sp ng fm df dt wg ex hg mo tp lb wo) (jPv fun w => ∃ (wo2 : Nat → Int32) (hg2 mo2 : Int32), We wo2 (eP 2144 e (1055 - wt.toInt) 1) ∧ (hg2 ≠ 0 ↔ (hg ≠ 0 ∨ 1055 - wt.toInt < 0)) ∧ (mo2 ≠ 0 ↔ (mo ≠ 0 ∨ 2144 ≤ 1055 - wt.toInt)) ∧ w = wd g ca len ps sp ng fm df dt wg ex (hg2) (mo2) tp lb (wo2)) := by
  refine jM.of [some (.ref (g 3)), some (.int wt)] (by simp [jle, jent, Value.category]) rfl (Nat.le_of_ble_eq_true rfl) ?_
  intro p env s m args below meth c sz hC
  have e1055 : (1055 : Int32).toInt = 1055 := rfl
  have e1088 : (-1088 : Int32).toInt = -1088 := rfl
  refine j_iloadn1 (pc := 0) hC d_v_addBit_0 ?_
  refine j_sipush (pc := 1) (v := 1055) hC d_v_addBit_1 (by decide) ?_
  refine j_icmp_le (pc := 4) hC 15 d_v_addBit_4 (by decide) (fun h2 => ?_) (fun h2 => ?_)
  · rw [i32le, e1055] at h2
    refine j_iloadn1 (pc := 15) hC d_v_addBit_15 ?_
    refine j_sipush (pc := 16) (v := -1088) hC d_v_addBit_16 (by decide) ?_
    refine j_icmp_ge (pc := 19) hC 30 d_v_addBit_19 (by decide) (fun h3 => ?_) (fun h3 => ?_)
    · rw [i32le, e1088] at h3
      obtain ⟨P, hP⟩ : ∃ P : Nat, (P : Int) = 1055 - wt.toInt := ⟨(1055 - wt.toInt).toNat, by omega⟩
      have hPlt : P < 2144 := by omega
      have eP0 := h0 P hP
      have hpw : wt = pw (2143 - P + 1) := pw_inj (by omega) (by omega)
      subst hpw
      refine j_aloadn0 (pc := 30) hC d_v_addBit_30 ?_
      refine jg_V_13 (pc := 31) hC d_v_addBit_31 ?_
      refine j_iloadn1 (pc := 34) hC d_v_addBit_34 ?_
      refine j_S1i (pc := 35) hC cw_V_36 (rmD_in (by decide)) (Nat.le_of_ble_eq_true rfl) d_v_addBit_35 (c_v_wordOf (2143 - P) (by omega)) (fun r w2 h4 => ?_)
      obtain ⟨rfl, rfl⟩ := h4
      have ew : 66 - (2143 - P) / 32 = P / 32 := by omega
      have es : (2143 - P) % 32 = 31 - P % 32 := by omega
      rw [ew]
      first | refine j_dup2 (pc := 38) hC d_v_addBit_38 rfl rfl ?_ | refine j_dup2L (pc := 38) hC d_v_addBit_38 rfl ?_
      refine ja_words_iaload (pc := 39) hC (vp_in_nI (by omega) (by decide)) d_v_addBit_39 ?_
      refine j_iconst (pc := 40) (v := 1) hC d_v_addBit_40 (by decide) ?_
      refine j_iloadn1 (pc := 41) hC d_v_addBit_41 ?_
      refine j_S1i (pc := 42) hC cw_V_40 (rmD_in (by decide)) (Nat.le_of_ble_eq_true rfl) d_v_addBit_42 (c_v_shiftOf (2143 - P) (by omega)) (fun r w2 h5 => ?_)
      obtain ⟨rfl, rfl⟩ := h5
      rw [es]
      refine j_ishl (pc := 45) hC d_v_addBit_45 ?_
      refine j_ior (pc := 46) hC d_v_addBit_46 ?_
      refine ja_words_iastore (pc := 47) hC (vp_in_nI (by omega) (by decide)) d_v_addBit_47 ?_
      refine j_vret hC d_v_addBit_48 ⟨rfl, _, hg, mo, ?_, ⟨Or.inl, fun q => q.elim id (fun q => by omega)⟩, ⟨Or.inl, fun q => q.elim id (fun q => by omega)⟩, rfl⟩
      rw [nI_clamp (by omega)]
      have hset := We_bit hWe he hPlt eP0
      unfold eP
      rw [if_neg (by omega), show (1055 - (pw (2143 - P + 1)).toInt).toNat = P by omega]
      exact hset
    · rw [i32le, e1088] at h3
      refine j_aloadn0 (pc := 22) hC d_v_addBit_22 ?_
      refine j_iconst (pc := 23) (v := 1) hC d_v_addBit_23 (by decide) ?_
      refine jp_V_20 (pc := 24) hC ⟨rfl,rfl⟩ d_v_addBit_24 ?_
      refine j_goto (pc := 27) hC 48 d_v_addBit_27 (by decide) ?_
      refine j_vret hC d_v_addBit_48 ⟨rfl, wo, hg, 1, ?_, ⟨Or.inl, fun q => q.elim id (fun q => by omega)⟩, ⟨fun _ => Or.inr (by omega), fun _ => by decide⟩, rfl⟩
      unfold eP
      rw [if_pos (by omega)]
      exact hWe
  · rw [i32le, e1055] at h2
    refine j_aloadn0 (pc := 7) hC d_v_addBit_7 ?_
    refine j_iconst (pc := 8) (v := 1) hC d_v_addBit_8 (by decide) ?_
    refine jp_V_16 (pc := 9) hC ⟨rfl,rfl⟩ d_v_addBit_9 ?_
    refine j_goto (pc := 12) hC 48 d_v_addBit_12 (by decide) ?_
    refine j_vret hC d_v_addBit_48 ⟨rfl, wo, 1, mo, ?_, ⟨fun _ => Or.inr (by omega), fun _ => by decide⟩, ⟨Or.inl, fun q => q.elim id (fun q => by omega)⟩, rfl⟩
    unfold eP
    rw [if_pos (by omega)]
    exact hWe
/-- the bits of a hexadecimal digit laid down, the lowest first; s: the place of the highest -/
def eH (e : Nat → Nat) (s : Int) (d : Nat) : Nat → Nat → Nat
  | 0 => e
  | i + 1 => eP 2144 (eH e s d i) (s + 3 - (i : Int)) (d / 2 ^ i % 2)
theorem eH_at {e : Nat → Nat} {s : Int} {d n : Nat} : ∀ i : Nat, (n : Int) ≤ s + 3 - (i : Int) → eH e s d i n = e n
  | 0, _ => rfl
  | i + 1, h => by
    rw [eH, eP_at (by omega)]
    exact eH_at i (by omega)
theorem eH_lt {e : Nat → Nat} {s : Int} {d : Nat} (he : ∀ n, e n < 2) : ∀ i n : Nat, eH e s d i n < 2
  | 0, n => he n
  | i + 1, n => eP_lt (eH_lt he i) (Nat.mod_lt _ (by omega)) n
theorem eH_4 {e : Nat → Nat} {s : Int} {d : Nat} : eH e s d 4 = eP 2144 (eP 2144 (eP 2144 (eP 2144 e s (d / 2 ^ 3 % 2)) (s + 1) (d / 2 ^ 2 % 2)) (s + 2) (d / 2 ^ 1 % 2)) (s + 3) (d / 2 ^ 0 % 2) := by
  show eP 2144 (eP 2144 (eP 2144 (eP 2144 e (s + 3 - ((0 : Nat) : Int)) (d / 2 ^ 0 % 2)) (s + 3 - ((1 : Nat) : Int)) (d / 2 ^ 1 % 2)) (s + 3 - ((2 : Nat) : Int)) (d / 2 ^ 2 % 2)) (s + 3 - ((3 : Nat) : Int)) (d / 2 ^ 3 % 2) = _
  rw [show s + 3 - ((0 : Nat) : Int) = s + 3 by omega, show s + 3 - ((1 : Nat) : Int) = s + 2 by omega, show s + 3 - ((2 : Nat) : Int) = s + 1 by omega, show s + 3 - ((3 : Nat) : Int) = s by omega]
  rw [eP_swap (e := e) (P := s + 3) (Q := s + 2) (by omega), eP_swap (P := s + 3) (Q := s + 1) (by omega), eP_swap (P := s + 3) (Q := s) (by omega), eP_swap (e := e) (P := s + 2) (Q := s + 1) (by omega), eP_swap (P := s + 2) (Q := s) (by omega), eP_swap (e := e) (P := s + 1) (Q := s) (by omega)]
theorem ex_succ {P : Nat → Prop} {A B C : Prop} {i : Nat} (h1 : A ↔ (B ∨ ∃ j, j < i ∧ P j)) (h2 : C ↔ (A ∨ P i)) : C ↔ (B ∨ ∃ j, j < i + 1 ∧ P j) := by
  rw [h2, h1]
  constructor
  · rintro ((q | ⟨j, q1, q2⟩) | q)
    · exact Or.inl q
    · exact Or.inr ⟨j, by omega, q2⟩
    · exact Or.inr ⟨i, by omega, q⟩
  · rintro (q | ⟨j, q1, q2⟩)
    · exact Or.inl (Or.inl q)
    · rcases Nat.lt_or_eq_of_le (Nat.le_of_lt_succ q1) with q | q
      · exact Or.inl (Or.inr ⟨j, q, q2⟩)
      · rw [q] at q2
        exact Or.inr q2
theorem ex_zero {P : Nat → Prop} {B : Prop} : B ↔ (B ∨ ∃ j, j < 0 ∧ P j) := ⟨Or.inl, fun q => q.elim id (fun ⟨_, q, _⟩ => absurd q (by omega))⟩
set_option maxHeartbeats 2000000 in
theorem c_v_addHexDigit (d : Nat) (wt : Int32) (e : Nat → Nat) (hd : d < 16) (hw : -1000000000 < wt.toInt ∧ wt.toInt < 1000000000) (he : ∀ n, e n < 2) (hWe : We wo e) (h0 : ∀ n : Nat, 1052 - wt.toInt ≤ (n : Int) → e n = 0) : jM l y_v_addHexDigit b_v_addHexDigit 4 none (rmD 2) D (tyD ca) X [.ref (g 3), .int (nI d), .int wt] (wd g ca len ps sp ng fm df dt wg ex hg mo tp lb wo) (jPv fun w => ∃ (wo2 : Nat → Int32) (hg2 mo2 : Int32), We wo2 (eH e (1052 - wt.toInt) d 4) ∧ (hg2 ≠ 0 ↔ (hg ≠ 0 ∨ ∃ j : Nat, j < 4 ∧ d / 2 ^ j % 2 ≠ 0 ∧ 1052 - wt.toInt + 3 - (j : Int) < 0)) ∧ (mo2 ≠ 0 ↔ (mo ≠ 0 ∨ ∃ j : Nat, j < 4 ∧ d / 2 ^ j % 2 ≠ 0 ∧ 2144 ≤ 1052 - wt.toInt + 3 - (j : Int))) ∧ w = wd g ca len ps sp ng fm df dt wg ex (hg2) (mo2) tp lb (wo2)) := by
  refine jM.of [some (.ref (g 3)), some (.int (nI d)), some (.int wt), none] (by simp [jle, jent, Value.category]) rfl (Nat.le_of_ble_eq_true rfl) ?_
  intro p env s m args below meth c sz hC
  have loop : ∀ (n i : Nat) (wo2 : Nat → Int32) (hg2 mo2 : Int32), i + n = 4 → We wo2 (eH e (1052 - wt.toInt) d i) → (hg2 ≠ 0 ↔ (hg ≠ 0 ∨ ∃ j : Nat, j < i ∧ d / 2 ^ j % 2 ≠ 0 ∧ 1052 - wt.toInt + 3 - (j : Int) < 0)) → (mo2 ≠ 0 ↔ (mo ≠ 0 ∨ ∃ j : Nat, j < i ∧ d / 2 ^ j % 2 ≠ 0 ∧ 2144 ≤ 1052 - wt.toInt + 3 - (j : Int))) → J p l env (rmD 2) s m args below meth c D (va_A (wd g ca len ps sp ng fm df dt wg ex hg mo tp lb wo) sz) 4 (MQ below (jQ D (wd g ca len ps sp ng fm df dt wg ex hg mo tp lb wo) sz (jPv fun w => ∃ (wo2 : Nat → Int32) (hg2 mo2 : Int32), We wo2 (eH e (1052 - wt.toInt) d 4) ∧ (hg2 ≠ 0 ↔ (hg ≠ 0 ∨ ∃ j : Nat, j < 4 ∧ d / 2 ^ j % 2 ≠ 0 ∧ 1052 - wt.toInt + 3 - (j : Int) < 0)) ∧ (mo2 ≠ 0 ↔ (mo ≠ 0 ∨ ∃ j : Nat, j < 4 ∧ d / 2 ^ j % 2 ≠ 0 ∧ 2144 ≤ 1052 - wt.toInt + 3 - (j : Int))) ∧ w = wd g ca len ps sp ng fm df dt wg ex (hg2) (mo2) tp lb (wo2))) args s 0 0 (va_A (wd g ca len ps sp ng fm df dt wg ex hg mo tp lb wo) sz)) 2 [some (.ref (g 3)), some (.int (nI d)), some (.int wt), some (.int (nI i))] [] (wd g ca len ps sp ng fm df dt wg ex (hg2) (mo2) tp lb (wo2)) := by
    intro n
    induction n with
    | zero =>
      intro i wo2 hg2 mo2 hi h1 h2 h3
      have e4 : i = 4 := by clear h2 h3; omega
      subst e4
      refine j_iloadn3 (pc := 2) hC d_v_addHexDigit_2 ?_
      refine j_iconst (pc := 3) (v := 4) hC d_v_addHexDigit_3 (by decide) ?_
      refine j_icmp_ge (pc := 4) hC 28 d_v_addHexDigit_4 (by decide) (fun h4 => ?_) (fun h4 => ?_)
      · exact j_vret hC d_v_addHexDigit_28 ⟨rfl, wo2, hg2, mo2, h1, h2, h3, rfl⟩
      · exact absurd (by decide) h4
    | succ n ih =>
      intro i wo2 hg2 mo2 hi h1 h2 h3
      have hi4 : i < 4 := by clear h2 h3; omega
      have hi1 : i + 1 + n = 4 := by clear h2 h3; omega
      have hbit : (((nI d).toUInt32 >>> ((nI i).toUInt32 &&& Int32.toUInt32 31)).toInt32 &&& 1) = nI (d / 2 ^ i % 2) := by
        rw [bit_at _ (by omega), un_nI, Nat.mod_eq_of_lt (a := d) (by omega)]
      have k22 : ∀ (wo3 : Nat → Int32) (hg3 mo3 : Int32), We wo3 (eH e (1052 - wt.toInt) d (i + 1)) → (hg3 ≠ 0 ↔ (hg2 ≠ 0 ∨ (d / 2 ^ i % 2 ≠ 0 ∧ 1052 - wt.toInt + 3 - (i : Int) < 0))) → (mo3 ≠ 0 ↔ (mo2 ≠ 0 ∨ (d / 2 ^ i % 2 ≠ 0 ∧ 2144 ≤ 1052 - wt.toInt + 3 - (i : Int)))) → J p l env (rmD 2) s m args below meth c D (va_A (wd g ca len ps sp ng fm df dt wg ex hg mo tp lb wo) sz) 4 (MQ below (jQ D (wd g ca len ps sp ng fm df dt wg ex hg mo tp lb wo) sz (jPv fun w => ∃ (wo2 : Nat → Int32) (hg2 mo2 : Int32), We wo2 (eH e (1052 - wt.toInt) d 4) ∧ (hg2 ≠ 0 ↔ (hg ≠ 0 ∨ ∃ j : Nat, j < 4 ∧ d / 2 ^ j % 2 ≠ 0 ∧ 1052 - wt.toInt + 3 - (j : Int) < 0)) ∧ (mo2 ≠ 0 ↔ (mo ≠ 0 ∨ ∃ j : Nat, j < 4 ∧ d / 2 ^ j % 2 ≠ 0 ∧ 2144 ≤ 1052 - wt.toInt + 3 - (j : Int))) ∧ w = wd g ca len ps sp ng fm df dt wg ex (hg2) (mo2) tp lb (wo2))) args s 0 0 (va_A (wd g ca len ps sp ng fm df dt wg ex hg mo tp lb wo) sz)) 22 [some (.ref (g 3)), some (.int (nI d)), some (.int wt), some (.int (nI i))] [] (wd g ca len ps sp ng fm df dt wg ex (hg3) (mo3) tp lb (wo3)) := by
        intro wo3 hg3 mo3 q1 q2 q3
        refine j_iinc3 (pc := 22) hC d_v_addHexDigit_22 (by decide) (by first | exact trivial | exact rfl) ?_
        refine j_goto (pc := 25) hC 2 d_v_addHexDigit_25 (by decide) ?_
        refine J.to rfl ?_ rfl rfl (ih (i + 1) wo3 hg3 mo3 hi1 q1 (ex_succ h2 q2) (ex_succ h3 q3))
        rw [← nI_1]
        rfl
      refine j_iloadn3 (pc := 2) hC d_v_addHexDigit_2 ?_
      refine j_iconst (pc := 3) (v := 4) hC d_v_addHexDigit_3 (by decide) ?_
      refine j_icmp_ge (pc := 4) hC 28 d_v_addHexDigit_4 (by decide) (fun h4 => ?_) (fun h4 => ?_)
      · have h4 : nI 4 ≤ nI i := h4
        rw [nI_leI (by omega) (by omega)] at h4
        exact absurd h4 (by omega)
      · refine j_iloadn1 (pc := 7) hC d_v_addHexDigit_7 ?_
        refine j_iloadn3 (pc := 8) hC d_v_addHexDigit_8 ?_
        refine j_iushr (pc := 9) hC d_v_addHexDigit_9 ?_
        refine j_iconst (pc := 10) (v := 1) hC d_v_addHexDigit_10 (by decide) ?_
        refine j_iand (pc := 11) hC d_v_addHexDigit_11 ?_
        refine J.topi hbit ?_
        have hbl : d / 2 ^ i % 2 < 2 := Nat.mod_lt _ (by omega)
        have hz : ∀ n : Nat, (n : Int) = 1052 - wt.toInt + 3 - (i : Int) → eH e (1052 - wt.toInt) d i n = 0 := fun n hn => by
          rw [eH_at i (by omega)]
          exact h0 n (by omega)
        refine j_if_eq (pc := 12) hC 22 d_v_addHexDigit_12 (by decide) (fun h5 => ?_) (fun h5 => ?_)
        · have h5 : d / 2 ^ i % 2 = 0 := by
            have h6 : nI (d / 2 ^ i % 2) = nI 0 := h5
            rw [nI_eq (Nat.lt_of_lt_of_le hbl (by decide)) (by decide)] at h6
            exact h6
          refine k22 wo2 hg2 mo2 ?_ ⟨Or.inl, fun q => q.elim id (fun q => absurd h5 q.1)⟩ ⟨Or.inl, fun q => q.elim id (fun q => absurd h5 q.1)⟩
          rw [eH, h5, eP_0 hz]
          exact h1
        · have h5 : d / 2 ^ i % 2 ≠ 0 := fun q => h5 (by rw [q]; rfl)
          have h6 : d / 2 ^ i % 2 = 1 := by
            generalize d / 2 ^ i % 2 = y at h5 hbl
            omega
          have hsum : (wt + nI i).toInt = wt.toInt + (i : Int) := by
            have e1 := nI_toInt (n := i) (by omega)
            rw [tadd (by omega) (by omega), e1]
          have hpl : 1055 - (wt + nI i).toInt = 1052 - wt.toInt + 3 - (i : Int) := by rw [hsum]; omega
          refine j_aloadn0 (pc := 15) hC d_v_addHexDigit_15 ?_
          refine j_iloadn2 (pc := 16) hC d_v_addHexDigit_16 ?_
          refine j_iloadn3 (pc := 17) hC d_v_addHexDigit_17 ?_
          refine j_iadd (pc := 18) hC d_v_addHexDigit_18 ?_
          refine j_V1v (pc := 19) (q0 := 3) (ci := 2) hC cw_V_32 (rmD_in (by decide)) (Nat.le_of_ble_eq_true rfl) rfl rfl d_v_addHexDigit_19 (c_v_addBit (wt + nI i) (eH e (1052 - wt.toInt) d i) (eH_lt he i) h1 (by rw [hpl]; exact hz)) (fun w2 h7 => ?_)
          obtain ⟨wo3, hg3, mo3, q1, q2, q3, rfl⟩ := h7
          rw [hpl] at q1 q2 q3
          refine k22 wo3 hg3 mo3 ?_ ?_ ?_
          · rw [eH, h6]
            exact q1
          · rw [q2]
            exact ⟨fun q => q.elim Or.inl (fun q => Or.inr ⟨h5, q⟩), fun q => q.elim Or.inl (fun q => Or.inr q.2)⟩
          · rw [q3]
            exact ⟨fun q => q.elim Or.inl (fun q => Or.inr ⟨h5, q⟩), fun q => q.elim Or.inl (fun q => Or.inr q.2)⟩
  refine j_iconst (pc := 0) (v := 0) hC d_v_addHexDigit_0 (by decide) ?_
  refine j_istoren3 (pc := 1) hC d_v_addHexDigit_1 (by decide) (by first | exact trivial | exact rfl) ?_
  exact loop 4 0 wo hg mo rfl hWe ex_zero ex_zero
end VP

