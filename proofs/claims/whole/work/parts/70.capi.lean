/-! THE CLASS: appendBytes -/
theorem ushr8 (v k : Int32) (hk : k = 24 ∨ k = 16 ∨ k = 8 ∨ k = 0) : (v.toUInt32 >>> (k.toUInt32 &&& Int32.toUInt32 31)).toInt32.toInt8 = (v >>> (k &&& 31)).toInt8 := by
  have key : ∀ n : Nat, n + 8 ≤ 32 → ((nI n).toUInt32 &&& Int32.toUInt32 31).toBitVec % 32 = BitVec.ofNat 32 n → (nI n &&& 31).toBitVec.smod 32 = BitVec.ofNat 32 n → (v.toUInt32 >>> ((nI n).toUInt32 &&& Int32.toUInt32 31)).toInt32.toInt8 = (v >>> (nI n &&& 31)).toInt8 := by
    intro n hn h1 h2
    apply Int8.toBitVec_inj.mp
    show ((v.toUInt32 >>> ((nI n).toUInt32 &&& Int32.toUInt32 31)).toBitVec).signExtend 8 = (v >>> (nI n &&& 31)).toBitVec.signExtend 8
    rw [UInt32.toBitVec_shiftRight, Int32.toBitVec_shiftRight, h1, h2]
    apply BitVec.eq_of_getLsbD_eq
    intro i hi
    have hm : n % 2 ^ 32 = n := Nat.mod_eq_of_lt (by omega)
    have hb : (v.toUInt32.toBitVec) = v.toBitVec := rfl
    rw [BitVec.getLsbD_signExtend, BitVec.getLsbD_signExtend]
    simp only [hb, BitVec.ushiftRight_eq', BitVec.toNat_ofNat, hm, BitVec.getLsbD_ushiftRight, BitVec.sshiftRight_eq', BitVec.getLsbD_sshiftRight]
    have h3 : n + i < 32 := by omega
    have h4 : i < 32 := by omega
    have h5 : ¬ 32 ≤ i := by omega
    simp [h3, h4, h5, hi]
  rcases hk with rfl | rfl | rfl | rfl
  · exact key 24 (by omega) (by decide) (by decide)
  · exact key 16 (by omega) (by decide) (by decide)
  · exact key 8 (by omega) (by decide) (by decide)
  · exact key 0 (by omega) (by decide) (by decide)
section CA
variable {l : Launch} {D : va_G} {X : jX} {g : Nat → Nat} {ca : Nat → ClassId} {len ps sp ng fm df dt wg ex hg mo : Int32} {tp lb wo : Nat → Int32}
set_option maxHeartbeats 2000000 in
theorem c_appendBytes (n : Nat) (v : Int32) (hN : n + 4 ≤ 8192) : jM l y_appendBytes b_appendBytes 3 none (rmD 0) D (tyD ca) X [.ref (g 0), .int v] (wd g ca (nI n) ps sp ng fm df dt wg ex hg mo tp lb wo) (jPv fun w => w = wd g ca (nI (n + 4)) ps sp ng fm df dt wg ex hg mo (wr4 tp n v) lb wo) := by
  refine jM.of [some (.ref (g 0)), some (.int v), none] (by simp [jle, jent, Value.category]) rfl (Nat.le_of_ble_eq_true rfl) ?_
  intro p e s m args below meth c sz hC
  have hc0 : (nI n).toNatClampNeg = n := nI_clamp (by omega)
  have hc1 : (nI (n + 1)).toNatClampNeg = n + 1 := nI_clamp (by omega)
  have hc2 : (nI (n + 2)).toNatClampNeg = n + 2 := nI_clamp (by omega)
  have hc3 : (nI (n + 3)).toNatClampNeg = n + 3 := nI_clamp (by omega)
  have e16 : (24 : Int32) + Int32.ofInt (-8) = 16 := by decide
  have e8 : (16 : Int32) + Int32.ofInt (-8) = 8 := by decide
  have e0 : (8 : Int32) + Int32.ofInt (-8) = 0 := by decide
  refine j_bipush (pc := 0) (v := 24) hC d_appendBytes_0 (by decide) ?_
  refine j_istoren2 (pc := 2) hC d_appendBytes_2 (by decide) (by first | exact trivial | exact rfl) ?_
  refine j_iloadn2 (pc := 3) hC d_appendBytes_3 ?_
  refine j_if_lt (pc := 4) hC 36 d_appendBytes_4 (by decide) (fun q => ?_) (fun q => ?_)
  · exact absurd q (by decide)
  · refine j_aloadn0 (pc := 7) hC d_appendBytes_7 ?_
    refine jg_R_28 (pc := 8) hC d_appendBytes_8 ?_
    refine j_aloadn0 (pc := 11) hC d_appendBytes_11 ?_
    refine jg_R_32 (pc := 12) hC d_appendBytes_12 ?_
    refine j_iloadn1 (pc := 15) hC d_appendBytes_15 ?_
    refine j_iloadn2 (pc := 16) hC d_appendBytes_16 ?_
    refine j_iushr (pc := 17) hC d_appendBytes_17 ?_
    refine j_i2b (pc := 18) hC d_appendBytes_18 ?_
    refine ja_tape_bastore (pc := 19) hC (vp_in_nI (by omega) (by decide)) d_appendBytes_19 ?_
    refine j_aloadn0 (pc := 20) hC d_appendBytes_20 ?_
    refine j_dup (pc := 21) hC d_appendBytes_21 rfl ?_
    refine jg_R_32 (pc := 22) hC d_appendBytes_22 ?_
    refine j_iconst (pc := 25) (v := 1) hC d_appendBytes_25 (by decide) ?_
    refine j_iadd (pc := 26) hC d_appendBytes_26 ?_
    refine jp_R_32 (pc := 27) hC d_appendBytes_27 ?_
    refine J.to rfl rfl rfl (w' := wd g ca (nI (n + 1)) ps sp ng fm df dt wg ex hg mo (upd tp n (by4 v 24)) lb wo) (by rw [nI_1, hc0, ushr8 v 24 (by decide)]; rfl) ?_
    refine j_iinc2 (pc := 30) hC d_appendBytes_30 (by decide) (by first | exact trivial | exact rfl) ?_
    refine j_goto (pc := 33) hC 3 d_appendBytes_33 (by decide) ?_
    rw [e16]
    refine j_iloadn2 (pc := 3) hC d_appendBytes_3 ?_
    refine j_if_lt (pc := 4) hC 36 d_appendBytes_4 (by decide) (fun q => ?_) (fun q => ?_)
    · exact absurd q (by decide)
    · refine j_aloadn0 (pc := 7) hC d_appendBytes_7 ?_
      refine jg_R_28 (pc := 8) hC d_appendBytes_8 ?_
      refine j_aloadn0 (pc := 11) hC d_appendBytes_11 ?_
      refine jg_R_32 (pc := 12) hC d_appendBytes_12 ?_
      refine j_iloadn1 (pc := 15) hC d_appendBytes_15 ?_
      refine j_iloadn2 (pc := 16) hC d_appendBytes_16 ?_
      refine j_iushr (pc := 17) hC d_appendBytes_17 ?_
      refine j_i2b (pc := 18) hC d_appendBytes_18 ?_
      refine ja_tape_bastore (pc := 19) hC (vp_in_nI (by omega) (by decide)) d_appendBytes_19 ?_
      refine j_aloadn0 (pc := 20) hC d_appendBytes_20 ?_
      refine j_dup (pc := 21) hC d_appendBytes_21 rfl ?_
      refine jg_R_32 (pc := 22) hC d_appendBytes_22 ?_
      refine j_iconst (pc := 25) (v := 1) hC d_appendBytes_25 (by decide) ?_
      refine j_iadd (pc := 26) hC d_appendBytes_26 ?_
      refine jp_R_32 (pc := 27) hC d_appendBytes_27 ?_
      refine J.to rfl rfl rfl (w' := wd g ca (nI (n + 2)) ps sp ng fm df dt wg ex hg mo (upd (upd tp n (by4 v 24)) (n + 1) (by4 v 16)) lb wo) (by rw [nI_1, hc1, ushr8 v 16 (by decide)]; rfl) ?_
      refine j_iinc2 (pc := 30) hC d_appendBytes_30 (by decide) (by first | exact trivial | exact rfl) ?_
      refine j_goto (pc := 33) hC 3 d_appendBytes_33 (by decide) ?_
      rw [e8]
      refine j_iloadn2 (pc := 3) hC d_appendBytes_3 ?_
      refine j_if_lt (pc := 4) hC 36 d_appendBytes_4 (by decide) (fun q => ?_) (fun q => ?_)
      · exact absurd q (by decide)
      · refine j_aloadn0 (pc := 7) hC d_appendBytes_7 ?_
        refine jg_R_28 (pc := 8) hC d_appendBytes_8 ?_
        refine j_aloadn0 (pc := 11) hC d_appendBytes_11 ?_
        refine jg_R_32 (pc := 12) hC d_appendBytes_12 ?_
        refine j_iloadn1 (pc := 15) hC d_appendBytes_15 ?_
        refine j_iloadn2 (pc := 16) hC d_appendBytes_16 ?_
        refine j_iushr (pc := 17) hC d_appendBytes_17 ?_
        refine j_i2b (pc := 18) hC d_appendBytes_18 ?_
        refine ja_tape_bastore (pc := 19) hC (vp_in_nI (by omega) (by decide)) d_appendBytes_19 ?_
        refine j_aloadn0 (pc := 20) hC d_appendBytes_20 ?_
        refine j_dup (pc := 21) hC d_appendBytes_21 rfl ?_
        refine jg_R_32 (pc := 22) hC d_appendBytes_22 ?_
        refine j_iconst (pc := 25) (v := 1) hC d_appendBytes_25 (by decide) ?_
        refine j_iadd (pc := 26) hC d_appendBytes_26 ?_
        refine jp_R_32 (pc := 27) hC d_appendBytes_27 ?_
        refine J.to rfl rfl rfl (w' := wd g ca (nI (n + 3)) ps sp ng fm df dt wg ex hg mo (upd (upd (upd tp n (by4 v 24)) (n + 1) (by4 v 16)) (n + 2) (by4 v 8)) lb wo) (by rw [nI_1, hc2, ushr8 v 8 (by decide)]; rfl) ?_
        refine j_iinc2 (pc := 30) hC d_appendBytes_30 (by decide) (by first | exact trivial | exact rfl) ?_
        refine j_goto (pc := 33) hC 3 d_appendBytes_33 (by decide) ?_
        rw [e0]
        refine j_iloadn2 (pc := 3) hC d_appendBytes_3 ?_
        refine j_if_lt (pc := 4) hC 36 d_appendBytes_4 (by decide) (fun q => ?_) (fun q => ?_)
        · exact absurd q (by decide)
        · refine j_aloadn0 (pc := 7) hC d_appendBytes_7 ?_
          refine jg_R_28 (pc := 8) hC d_appendBytes_8 ?_
          refine j_aloadn0 (pc := 11) hC d_appendBytes_11 ?_
          refine jg_R_32 (pc := 12) hC d_appendBytes_12 ?_
          refine j_iloadn1 (pc := 15) hC d_appendBytes_15 ?_
          refine j_iloadn2 (pc := 16) hC d_appendBytes_16 ?_
          refine j_iushr (pc := 17) hC d_appendBytes_17 ?_
          refine j_i2b (pc := 18) hC d_appendBytes_18 ?_
          refine ja_tape_bastore (pc := 19) hC (vp_in_nI (by omega) (by decide)) d_appendBytes_19 ?_
          refine j_aloadn0 (pc := 20) hC d_appendBytes_20 ?_
          refine j_dup (pc := 21) hC d_appendBytes_21 rfl ?_
          refine jg_R_32 (pc := 22) hC d_appendBytes_22 ?_
          refine j_iconst (pc := 25) (v := 1) hC d_appendBytes_25 (by decide) ?_
          refine j_iadd (pc := 26) hC d_appendBytes_26 ?_
          refine jp_R_32 (pc := 27) hC d_appendBytes_27 ?_
          refine J.to rfl rfl rfl (w' := wd g ca (nI (n + 4)) ps sp ng fm df dt wg ex hg mo (wr4 tp n v) lb wo) (by rw [nI_1, hc3, ushr8 v 0 (by decide)]; rfl) ?_
          refine j_iinc2 (pc := 30) hC d_appendBytes_30 (by decide) (by first | exact trivial | exact rfl) ?_
          refine j_goto (pc := 33) hC 3 d_appendBytes_33 (by decide) ?_
          refine j_iloadn2 (pc := 3) hC d_appendBytes_3 ?_
          refine j_if_lt (pc := 4) hC 36 d_appendBytes_4 (by decide) (fun q => ?_) (fun q => ?_)
          · exact j_vret hC d_appendBytes_36 ⟨rfl, rfl⟩
          · exact absurd (by decide) q
end CA

