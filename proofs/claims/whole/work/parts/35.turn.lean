/-! THE CLASS: Value.turnBinary -/
theorem un_and (x : Int32) : x.toInt64 &&& 4294967295 = lN (un x) := by
  apply Int64.toBitVec_inj.mp
  rw [Int64.toBitVec_and, wb_tb]
  apply BitVec.eq_of_toNat_eq
  rw [BitVec.toNat_and, BitVec.toNat_ofNat]
  have e1 : (4294967295 : Int64).toBitVec.toNat = 2 ^ 32 - 1 := by decide
  have e2 : x.toInt64.toBitVec.toNat % 2 ^ 32 = un x := by
    have e3 : x.toInt64.toBitVec = x.toBitVec.signExtend 64 := rfl
    have hx : x.toBitVec.toNat < 4294967296 := x.toBitVec.isLt
    rw [e3, BitVec.toNat_signExtend, BitVec.toNat_setWidth]
    unfold un
    split <;> omega
  rw [e1, Nat.and_two_pow_sub_one_eq_mod, e2]
  have := un_lt x
  exact (Nat.mod_eq_of_lt (by omega)).symm
/-- limbs by their numbers -/
def Lr (lb : Nat → Int32) (f : Nat → Nat) : Prop := ∀ i, i < 155 → lb i = nI (f i) ∧ f i < 1000000000
theorem Lr.set {lb : Nat → Int32} {f : Nat → Nat} {k x : Nat} (h : Lr lb f) (hx : x < 1000000000) : Lr (upd lb k (nI x)) (nup f k x) := fun i hi => by
  unfold upd nup
  by_cases e : i = k
  · rw [if_pos e, if_pos e]
    exact ⟨rfl, hx⟩
  · rw [if_neg e, if_neg e]
    exact h i hi
section VT
variable {l : Launch} {D : va_G} {X : jX} {g : Nat → Nat} {ca : Nat → ClassId} {len ps sp ng fm df dt wg ex hg mo : Int32} {tp lb wo : Nat → Int32}
set_option maxHeartbeats 1000000 in
theorem c_v_usedLimbs : jM l y_v_usedLimbs b_v_usedLimbs 2 (some .int) (rmD 0) D (tyD ca) X [.ref (g 3)] (wd g ca len ps sp ng fm df dt wg ex hg mo tp lb wo) (jPi fun r w => ∃ u, u ≤ 155 ∧ (∀ i, u ≤ i → i < 155 → lb i = 0) ∧ (0 < u → lb (u - 1) ≠ 0) ∧ r = nI u ∧ w = wd g ca len ps sp ng fm df dt wg ex hg mo tp lb wo) := by
  refine jM.of [some (.ref (g 3)), none] (by simp [jle, jent, Value.category]) rfl (Nat.le_of_ble_eq_true rfl) ?_
  intro p e s m args below meth c sz hC
  have loop : ∀ u, u ≤ 155 → (∀ i, u ≤ i → i < 155 → lb i = 0) → J p l e (rmD 0) s m args below meth c D (va_A (wd g ca len ps sp ng fm df dt wg ex hg mo tp lb wo) sz) 2 (MQ below (jQ D (wd g ca len ps sp ng fm df dt wg ex hg mo tp lb wo) sz (jPi fun r w => ∃ u, u ≤ 155 ∧ (∀ i, u ≤ i → i < 155 → lb i = 0) ∧ (0 < u → lb (u - 1) ≠ 0) ∧ r = nI u ∧ w = wd g ca len ps sp ng fm df dt wg ex hg mo tp lb wo)) args s 0 0 (va_A (wd g ca len ps sp ng fm df dt wg ex hg mo tp lb wo) sz)) 4 [some (.ref (g 3)), some (.int (nI u))] [] (wd g ca len ps sp ng fm df dt wg ex hg mo tp lb wo) := by
    intro u
    induction u with
    | zero =>
      intro hu hz
      refine j_iloadn1 (pc := 4) hC d_v_usedLimbs_4 ?_
      refine j_if_le (pc := 5) hC 25 d_v_usedLimbs_5 (by decide) (fun h1 => ?_) (fun h1 => ?_)
      · refine j_iloadn1 (pc := 25) hC d_v_usedLimbs_25 ?_
        exact j_iret hC d_v_usedLimbs_26 ⟨_, rfl, 0, hu, hz, fun q => absurd q (by omega), rfl, rfl⟩
      · exact absurd (by decide) h1
    | succ u ih =>
      intro hu hz
      refine j_iloadn1 (pc := 4) hC d_v_usedLimbs_4 ?_
      refine j_if_le (pc := 5) hC 25 d_v_usedLimbs_5 (by decide) (fun h1 => ?_) (fun h1 => ?_)
      · exact absurd h1 (nI_nle (by omega) (by omega))
      · refine j_aloadn0 (pc := 8) hC d_v_usedLimbs_8 ?_
        refine jg_V_9 (pc := 9) hC d_v_usedLimbs_9 ?_
        refine j_iloadn1 (pc := 12) hC d_v_usedLimbs_12 ?_
        refine j_iconst (pc := 13) (v := 1) hC d_v_usedLimbs_13 (by decide) ?_
        refine j_isub (pc := 14) hC d_v_usedLimbs_14 ?_
        refine J.topi (nI_pred u) ?_
        refine ja_limbs_iaload (pc := 15) hC (vp_in_nI (by omega) (by decide)) d_v_usedLimbs_15 ?_
        rw [nI_clamp (show u < 2 ^ 31 by omega)]
        refine j_if_ne (pc := 16) hC 25 d_v_usedLimbs_16 (by decide) (fun h2 => ?_) (fun h2 => ?_)
        · refine j_iloadn1 (pc := 25) hC d_v_usedLimbs_25 ?_
          exact j_iret hC d_v_usedLimbs_26 ⟨_, rfl, u + 1, hu, hz, fun _ => h2, rfl, rfl⟩
        · refine j_iinc1 (pc := 19) hC d_v_usedLimbs_19 (by decide) (by first | exact trivial | exact rfl) ?_
          refine j_goto (pc := 22) hC 4 d_v_usedLimbs_22 (by decide) ?_
          refine J.to rfl ?_ rfl rfl (ih (by omega) (fun i q1 q2 => ?_))
          · rw [show nI (u + 1) + Int32.ofInt (-1) = nI u from pk_m1 u]
          · rcases Nat.lt_or_eq_of_le q1 with q | q
            · exact hz i q q2
            · rw [← q]; exact h2
  refine j_sipush (pc := 0) (v := 155) hC d_v_usedLimbs_0 (by decide) ?_
  refine j_istoren1 (pc := 3) hC d_v_usedLimbs_3 (by decide) (by first | exact trivial | exact rfl) ?_
  exact loop 155 (Nat.le_refl _) (fun i q1 q2 => by omega)
set_option maxHeartbeats 2000000 in
theorem c_v_appendWholeLimb (x : Nat) (hx : x < 1000000000) : jM l y_v_appendWholeLimb b_v_appendWholeLimb 7 none (rmD 0) D (tyD ca) X [.ref (g 3), .int (nI x)] (wd g ca len ps sp ng fm df dt wg ex hg mo tp lb wo) (jPv fun w => ∃ wo2 : Nat → Int32, (∀ i, i < 33 → un (wo2 i) = maF 4294967296 1000000000 x (fun i => un (wo i)) 33 33 i) ∧ (∀ i, 33 ≤ i → wo2 i = wo i) ∧ w = wd g ca len ps sp ng fm df dt wg ex hg mo tp lb (wo2)) := by
  refine jM.of [some (.ref (g 3)), some (.int (nI x)), none, none, none, none, none] (by simp [jle, jent, Value.category]) rfl (Nat.le_of_ble_eq_true rfl) ?_
  intro p e s m args below meth c sz hC
  have loop : ∀ (n k : Nat) (wo2 : Nat → Int32) (o o2 : Option Value), k + n = 33 → (∀ i, i < 33 → un (wo2 i) = maF 4294967296 1000000000 x (fun i => un (wo i)) 33 k i) → (∀ i, 33 ≤ i → wo2 i = wo i) → J p l e (rmD 0) s m args below meth c D (va_A (wd g ca len ps sp ng fm df dt wg ex hg mo tp lb wo) sz) 7 (MQ below (jQ D (wd g ca len ps sp ng fm df dt wg ex hg mo tp lb wo) sz (jPv fun w => ∃ wo2 : Nat → Int32, (∀ i, i < 33 → un (wo2 i) = maF 4294967296 1000000000 x (fun i => un (wo i)) 33 33 i) ∧ (∀ i, 33 ≤ i → wo2 i = wo i) ∧ w = wd g ca len ps sp ng fm df dt wg ex hg mo tp lb (wo2))) args s 0 0 (va_A (wd g ca len ps sp ng fm df dt wg ex hg mo tp lb wo) sz)) 7 [some (.ref (g 3)), some (.int (nI x)), some (.long (lN (maC 4294967296 1000000000 x (fun i => un (wo i)) 33 k))), none, some (.int (nI n - 1)), o, o2] [] (wd g ca len ps sp ng fm df dt wg ex hg mo tp lb (wo2)) := by
    intro n
    induction n with
    | zero =>
      intro k wo2 o o2 hk h1 h2
      have e : k = 33 := by omega
      subst e
      refine j_iload4 (pc := 7) hC d_v_appendWholeLimb_7 ?_
      refine j_if_lt (pc := 9) hC 54 d_v_appendWholeLimb_9 (by decide) (fun h3 => ?_) (fun h3 => ?_)
      · exact j_vret hC d_v_appendWholeLimb_54 ⟨rfl, wo2, h1, h2, rfl⟩
      · exact absurd (by decide) h3
    | succ n ih =>
      intro k wo2 o o2 hk h1 h2
      have hcl : (nI n).toNatClampNeg = n := nI_clamp (by omega)
      have hcy := maC_ltT (B := 4294967296) (T := 1000000000) (c0 := x) (f := fun i => un (wo i)) (m := 33) (by omega) hx (fun i _ => un_lt (wo i)) k (by omega)
      have hu := h1 n (by omega)
      rw [maF_old (by omega)] at hu
      have hul := un_lt (wo n)
      rw [nI_pred]
      refine j_iload4 (pc := 7) hC d_v_appendWholeLimb_7 ?_
      refine j_if_lt (pc := 9) hC 54 d_v_appendWholeLimb_9 (by decide) (fun h3 => ?_) (fun h3 => ?_)
      · exact absurd h3 (nI_pos (by omega))
      · refine j_aloadn0 (pc := 12) hC d_v_appendWholeLimb_12 ?_
        refine jg_V_13 (pc := 13) hC d_v_appendWholeLimb_13 ?_
        refine j_iload4 (pc := 16) hC d_v_appendWholeLimb_16 ?_
        refine ja_words_iaload (pc := 18) hC (vp_in_nI (by omega) (by decide)) d_v_appendWholeLimb_18 ?_
        refine j_i2l (pc := 19) hC d_v_appendWholeLimb_19 ?_
        refine j_ldc2 (pc := 20) (v := 4294967295) hC mk_V_53 d_v_appendWholeLimb_20 ?_
        rw [hcl]
        refine j_land (pc := 23) hC d_v_appendWholeLimb_23 ?_
        refine J.topl (un_and _) ?_
        rw [hu]
        refine j_ldc2 (pc := 24) (v := 1000000000) hC mk_V_55 d_v_appendWholeLimb_24 ?_
        refine j_lmul (pc := 27) hC d_v_appendWholeLimb_27 ?_
        refine j_lloadn2 (pc := 28) hC d_v_appendWholeLimb_28 ?_
        refine j_ladd (pc := 29) hC d_v_appendWholeLimb_29 ?_
        refine J.topl (y := lN (un (wo n) * 1000000000 + maC 4294967296 1000000000 x (fun i => un (wo i)) 33 k)) (by rw [show (1000000000 : Int64) = lN 1000000000 from by decide, lN_mul, lN_add]) ?_
        refine j_lstore5 (pc := 30) hC d_v_appendWholeLimb_30 (by decide) (by first | exact trivial | exact rfl) ?_
        refine j_aloadn0 (pc := 32) hC d_v_appendWholeLimb_32 ?_
        refine jg_V_13 (pc := 33) hC d_v_appendWholeLimb_33 ?_
        refine j_iload4 (pc := 36) hC d_v_appendWholeLimb_36 ?_
        refine j_lload5 (pc := 38) hC d_v_appendWholeLimb_38 ?_
        refine j_l2i (pc := 40) hC d_v_appendWholeLimb_40 ?_
        refine J.topi (lN_i _) ?_
        refine ja_words_iastore (pc := 41) hC (vp_in_nI (by omega) (by decide)) d_v_appendWholeLimb_41 ?_
        refine j_lload5 (pc := 42) hC d_v_appendWholeLimb_42 ?_
        refine j_bipush (pc := 44) (v := 32) hC d_v_appendWholeLimb_44 (by decide) ?_
        rw [hcl]
        refine j_lushr (pc := 46) hC d_v_appendWholeLimb_46 ?_
        refine J.topl (y := lN ((un (wo n) * 1000000000 + maC 4294967296 1000000000 x (fun i => un (wo i)) 33 k) / 2 ^ 32)) (by rw [show (32 : Int32) = nI 32 from rfl, wb_shr (by omega) (by omega)]) ?_
        refine j_lstoren2 (pc := 47) hC d_v_appendWholeLimb_47 (by decide) (by first | exact trivial | exact rfl) ?_
        refine j_iinc4 (pc := 48) hC d_v_appendWholeLimb_48 (by decide) (by first | exact trivial | exact rfl) ?_
        refine j_goto (pc := 51) hC 7 d_v_appendWholeLimb_51 (by decide) ?_
        refine J.to rfl ?_ rfl rfl (ih (k + 1) (upd wo2 n (nI (un (wo n) * 1000000000 + maC 4294967296 1000000000 x (fun i => un (wo i)) 33 k))) (some (.long (lN (un (wo n) * 1000000000 + maC 4294967296 1000000000 x (fun i => un (wo i)) 33 k)))) none (by omega) (fun i hi => ?_) (fun i hi => ?_))
        · rw [maC, show 33 - 1 - k = n by omega, i_m1]
        · rw [maF_succ (by omega), show 33 - 1 - k = n by omega]
          unfold upd nup
          by_cases e : i = n
          · rw [if_pos e, if_pos e, un_nI]
          · rw [if_neg e, if_neg e]
            exact h1 i hi
        · unfold upd
          rw [if_neg (by omega)]
          exact h2 i hi
  refine j_iloadn1 (pc := 0) hC d_v_appendWholeLimb_0 ?_
  refine j_i2l (pc := 1) hC d_v_appendWholeLimb_1 ?_
  refine J.topl (nI_l (by omega)) ?_
  refine j_lstoren2 (pc := 2) hC d_v_appendWholeLimb_2 (by decide) (by first | exact trivial | exact rfl) ?_
  refine j_bipush (pc := 3) (v := 32) hC d_v_appendWholeLimb_3 (by decide) ?_
  refine j_istore4 (pc := 5) hC d_v_appendWholeLimb_5 (by decide) (by first | exact trivial | exact rfl) ?_
  refine J.to rfl ?_ rfl rfl (loop 33 0 wo none none rfl (fun i _ => by rw [maF_0]) (fun i _ => rfl))
  rfl
set_option maxHeartbeats 2000000 in
theorem c_v_takeFractionWord (f : Nat → Nat) (mm : Nat) (hm : mm ≤ 120) (hL : Lr lb f) : jM l y_v_takeFractionWord b_v_takeFractionWord 7 (some .int) (rmD 0) D (tyD ca) X [.ref (g 3), .int (nI (35 + mm))] (wd g ca len ps sp ng fm df dt wg ex hg mo tp lb wo) (jPi fun r w => ∃ (lb2 : Nat → Int32) (f2 : Nat → Nat), Lr lb2 f2 ∧ (∀ i, i < mm → f2 (35 + i) = maF 1000000000 4294967296 0 (fun i => f (35 + i)) mm mm i) ∧ (∀ i, (i < 35 ∨ 35 + mm ≤ i) → f2 i = f i) ∧ r = nI (maC 1000000000 4294967296 0 (fun i => f (35 + i)) mm mm) ∧ w = wd g ca len ps sp ng fm df dt wg ex hg mo tp (lb2) wo) := by
  refine jM.of [some (.ref (g 3)), some (.int (nI (35 + mm))), none, none, none, none, none] (by simp [jle, jent, Value.category]) rfl (Nat.le_of_ble_eq_true rfl) ?_
  intro p e s m args below meth c sz hC
  have loop : ∀ (n k : Nat) (lb2 : Nat → Int32) (f2 : Nat → Nat) (o o2 : Option Value), k + n = mm → Lr lb2 f2 → (∀ i, i < mm → f2 (35 + i) = maF 1000000000 4294967296 0 (fun i => f (35 + i)) mm k i) → (∀ i, (i < 35 ∨ 35 + mm ≤ i) → f2 i = f i) → J p l e (rmD 0) s m args below meth c D (va_A (wd g ca len ps sp ng fm df dt wg ex hg mo tp lb wo) sz) 7 (MQ below (jQ D (wd g ca len ps sp ng fm df dt wg ex hg mo tp lb wo) sz (jPi fun r w => ∃ (lb2 : Nat → Int32) (f2 : Nat → Nat), Lr lb2 f2 ∧ (∀ i, i < mm → f2 (35 + i) = maF 1000000000 4294967296 0 (fun i => f (35 + i)) mm mm i) ∧ (∀ i, (i < 35 ∨ 35 + mm ≤ i) → f2 i = f i) ∧ r = nI (maC 1000000000 4294967296 0 (fun i => f (35 + i)) mm mm) ∧ w = wd g ca len ps sp ng fm df dt wg ex hg mo tp (lb2) wo)) args s 0 0 (va_A (wd g ca len ps sp ng fm df dt wg ex hg mo tp lb wo) sz)) 7 [some (.ref (g 3)), some (.int (nI (35 + mm))), some (.long (lN (maC 1000000000 4294967296 0 (fun i => f (35 + i)) mm k))), none, some (.int (nI (34 + n))), o, o2] [] (wd g ca len ps sp ng fm df dt wg ex hg mo tp (lb2) wo) := by
    intro n
    induction n with
    | zero =>
      intro k lb2 f2 o o2 hk hL2 h1 h2
      have e : k = mm := by omega
      subst e
      refine j_iload4 (pc := 7) hC d_v_takeFractionWord_7 ?_
      refine j_bipush (pc := 9) (v := 35) hC d_v_takeFractionWord_9 (by decide) ?_
      refine j_icmp_lt (pc := 11) hC 56 d_v_takeFractionWord_11 (by decide) (fun h3 => ?_) (fun h3 => ?_)
      · refine j_lloadn2 (pc := 56) hC d_v_takeFractionWord_56 ?_
        refine j_l2i (pc := 57) hC d_v_takeFractionWord_57 ?_
        exact j_iret hC d_v_takeFractionWord_58 ⟨_, rfl, lb2, f2, hL2, h1, h2, lN_i _, rfl⟩
      · exact absurd (by decide) h3
    | succ n ih =>
      intro k lb2 f2 o o2 hk hL2 h1 h2
      have hcl : (nI (34 + (n + 1))).toNatClampNeg = 35 + n := by rw [nI_clamp (by omega)]; omega
      have hcy := maC_ltT (B := 1000000000) (T := 4294967296) (c0 := 0) (f := (fun i => f (35 + i))) (m := mm) (by omega) (by omega) (fun i _ => (hL (35 + i) (by omega)).2) k (by omega)
      have hu := h1 n (by omega)
      rw [maF_old (by omega)] at hu
      have hln := hL2 (35 + n) (by omega)
      rw [hu] at hln
      refine j_iload4 (pc := 7) hC d_v_takeFractionWord_7 ?_
      refine j_bipush (pc := 9) (v := 35) hC d_v_takeFractionWord_9 (by decide) ?_
      refine j_icmp_lt (pc := 11) hC 56 d_v_takeFractionWord_11 (by decide) (fun h3 => ?_) (fun h3 => ?_)
      · have h3 : nI (34 + (n + 1)) < nI 35 := h3
        rw [nI_ltI (by omega) (by omega)] at h3
        omega
      · refine j_aloadn0 (pc := 14) hC d_v_takeFractionWord_14 ?_
        refine jg_V_9 (pc := 15) hC d_v_takeFractionWord_15 ?_
        refine j_iload4 (pc := 18) hC d_v_takeFractionWord_18 ?_
        refine ja_limbs_iaload (pc := 20) hC (vp_in_nI (by omega) (by decide)) d_v_takeFractionWord_20 ?_
        rw [hcl, hln.1]
        refine j_i2l (pc := 21) hC d_v_takeFractionWord_21 ?_
        refine J.topl (nI_l (by omega)) ?_
        refine j_bipush (pc := 22) (v := 32) hC d_v_takeFractionWord_22 (by decide) ?_
        refine j_lshl (pc := 24) hC d_v_takeFractionWord_24 ?_
        refine J.topl (y := lN (f (35 + n) * 2 ^ 32)) (by rw [show (32 : Int32) = nI 32 from rfl, wb_shl _ (by omega)]) ?_
        refine j_lloadn2 (pc := 25) hC d_v_takeFractionWord_25 ?_
        refine j_ladd (pc := 26) hC d_v_takeFractionWord_26 ?_
        have hp63 : f (35 + n) * 4294967296 + maC 1000000000 4294967296 0 (fun i => f (35 + i)) mm k < 2 ^ 63 := by omega
        refine J.topl (y := lN (f (35 + n) * 4294967296 + maC 1000000000 4294967296 0 (fun i => f (35 + i)) mm k)) (by rw [lN_add]) ?_
        refine j_lstore5 (pc := 27) hC d_v_takeFractionWord_27 (by decide) (by first | exact trivial | exact rfl) ?_
        refine j_aloadn0 (pc := 29) hC d_v_takeFractionWord_29 ?_
        refine jg_V_9 (pc := 30) hC d_v_takeFractionWord_30 ?_
        refine j_iload4 (pc := 33) hC d_v_takeFractionWord_33 ?_
        refine j_lload5 (pc := 35) hC d_v_takeFractionWord_35 ?_
        refine j_ldc2 (pc := 37) (v := 1000000000) hC mk_V_55 d_v_takeFractionWord_37 ?_
        refine j_lrem (pc := 40) hC d_v_takeFractionWord_40 (by decide) ?_
        refine J.topl (y := lN ((f (35 + n) * 4294967296 + maC 1000000000 4294967296 0 (fun i => f (35 + i)) mm k) % 1000000000)) (by rw [show (1000000000 : Int64) = lN 1000000000 from by decide, pk_lRem hp63 (by omega) (by omega)]) ?_
        refine j_l2i (pc := 41) hC d_v_takeFractionWord_41 ?_
        refine J.topi (lN_i _) ?_
        refine ja_limbs_iastore (pc := 42) hC (vp_in_nI (by omega) (by decide)) d_v_takeFractionWord_42 ?_
        refine j_lload5 (pc := 43) hC d_v_takeFractionWord_43 ?_
        refine j_ldc2 (pc := 45) (v := 1000000000) hC mk_V_55 d_v_takeFractionWord_45 ?_
        refine j_ldiv (pc := 48) hC d_v_takeFractionWord_48 (by decide) ?_
        rw [hcl]
        refine J.topl (y := lN ((f (35 + n) * 4294967296 + maC 1000000000 4294967296 0 (fun i => f (35 + i)) mm k) / 1000000000)) (by rw [show (1000000000 : Int64) = lN 1000000000 from by decide, pk_lDiv hp63 (by omega) (by omega)]) ?_
        refine j_lstoren2 (pc := 49) hC d_v_takeFractionWord_49 (by decide) (by first | exact trivial | exact rfl) ?_
        refine j_iinc4 (pc := 50) hC d_v_takeFractionWord_50 (by decide) (by first | exact trivial | exact rfl) ?_
        refine j_goto (pc := 53) hC 7 d_v_takeFractionWord_53 (by decide) ?_
        refine J.to rfl ?_ rfl rfl (ih (k + 1) (upd lb2 (35 + n) (nI ((f (35 + n) * 4294967296 + maC 1000000000 4294967296 0 (fun i => f (35 + i)) mm k) % 1000000000))) (nup f2 (35 + n) ((f (35 + n) * 4294967296 + maC 1000000000 4294967296 0 (fun i => f (35 + i)) mm k) % 1000000000)) (some (.long (lN (f (35 + n) * 4294967296 + maC 1000000000 4294967296 0 (fun i => f (35 + i)) mm k)))) none (by omega) (hL2.set (Nat.mod_lt _ (by omega))) (fun i hi => ?_) (fun i hi => ?_))
        · rw [maC, show mm - 1 - k = n by omega, show 34 + (n + 1) = 34 + n + 1 by omega, show nI (34 + n + 1) + Int32.ofInt (-1) = nI (34 + n) from pk_m1 _]
        · rw [maF_succ (by omega), show mm - 1 - k = n by omega]
          unfold nup
          by_cases e : i = n
          · rw [if_pos (by omega), if_pos e]
          · rw [if_neg (by omega), if_neg e]
            exact h1 i hi
        · unfold nup
          rw [if_neg (by omega)]
          exact h2 i hi
  refine j_lconst (pc := 0) (v := 0) hC d_v_takeFractionWord_0 (by decide) ?_
  refine j_lstoren2 (pc := 1) hC d_v_takeFractionWord_1 (by decide) (by first | exact trivial | exact rfl) ?_
  refine j_iloadn1 (pc := 2) hC d_v_takeFractionWord_2 ?_
  refine j_iconst (pc := 3) (v := 1) hC d_v_takeFractionWord_3 (by decide) ?_
  refine j_isub (pc := 4) hC d_v_takeFractionWord_4 ?_
  refine J.topi (y := nI (34 + mm)) (by rw [show 35 + mm = 34 + mm + 1 by omega, nI_pred]) ?_
  refine j_istore4 (pc := 5) hC d_v_takeFractionWord_5 (by decide) (by first | exact trivial | exact rfl) ?_
  refine J.to rfl ?_ rfl rfl (loop mm 0 lb f none none (by omega) hL (fun i _ => by rw [maF_0]) (fun i _ => rfl))
  rfl
end VT

