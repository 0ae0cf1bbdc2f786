/-! THE REFERENCE: feed, end -/
/-- the byte of v from bit k on -/
def by4 (v : Int32) (k : Int32) : Int32 := vp_nar .byte (v >>> (k &&& 31)).toInt8.toInt32
/-- four bytes of v written from n on -/
def wr4 (t : Nat → Int32) (n : Nat) (v : Int32) : Nat → Int32 := upd (upd (upd (upd t n (by4 v 24)) (n + 1) (by4 v 16)) (n + 2) (by4 v 8)) (n + 3) (by4 v 0)
def wr20 (t : Nat → Int32) (n : Nat) (v1 v2 v3 v4 v5 : Int32) : Nat → Int32 := wr4 (wr4 (wr4 (wr4 (wr4 t n v1) (n + 4) v2) (n + 8) v3) (n + 12) v4) (n + 16) v5
section MP
variable {l : Launch} {D : va_G} {X : jX} {g : Nat → Nat} {ca : Nat → ClassId} {td cd bi ls us dc : Int32} {pt : Int64} {ps sp en ep hn hp : Int32} {tp : Nat → Int32} {lm : Nat → Int64} {dd xd yd : Nat → Int32}
set_option maxHeartbeats 2000000 in
theorem c_m_word4 (n : Nat) (v : Int32) (hN : n + 4 ≤ 8192) : jM l y_m_word4 b_m_word4 3 none (rmD 0) D (tyM ca) X [.ref (g 10), .int v] (wm g ca (nI n) cd bi ls us dc pt ps sp en ep hn hp tp lm dd xd yd) (jPv fun w => w = wm g ca (nI (n + 4)) cd bi ls us dc pt ps sp en ep hn hp (wr4 tp n v) lm dd xd yd) := by
  refine jM.of [some (.ref (g 10)), some (.int v), none] (by simp [jle, jent, Value.category]) rfl (Nat.le_of_ble_eq_true rfl) ?_
  intro p e s m args below meth c sz hC
  have hc0 : (nI n).toNatClampNeg = n := nI_clamp (by omega)
  have hc1 : (nI (n + 1)).toNatClampNeg = n + 1 := nI_clamp (by omega)
  have hc2 : (nI (n + 2)).toNatClampNeg = n + 2 := nI_clamp (by omega)
  have hc3 : (nI (n + 3)).toNatClampNeg = n + 3 := nI_clamp (by omega)
  refine j_bipush (pc := 0) (v := 24) hC d_m_word4_0 (by decide) ?_
  refine j_istoren2 (pc := 2) hC d_m_word4_2 (by decide) (by first | exact trivial | exact rfl) ?_
  refine j_iloadn2 (pc := 3) hC d_m_word4_3 ?_
  refine j_if_lt (pc := 4) hC 36 d_m_word4_4 (by decide) (fun q => ?_) (fun q => ?_)
  · exact absurd q (by decide)
  · refine j_aloadn0 (pc := 7) hC d_m_word4_7 ?_
    refine jg_M_9 (pc := 8) hC d_m_word4_8 ?_
    refine j_aloadn0 (pc := 11) hC d_m_word4_11 ?_
    refine jg_M_34 (pc := 12) hC d_m_word4_12 ?_
    refine j_iloadn1 (pc := 15) hC d_m_word4_15 ?_
    refine j_iloadn2 (pc := 16) hC d_m_word4_16 ?_
    refine j_ishr (pc := 17) hC d_m_word4_17 ?_
    refine j_i2b (pc := 18) hC d_m_word4_18 ?_
    refine ja_mtape_bastore (pc := 19) hC (vp_in_nI (by omega) (by decide)) d_m_word4_19 ?_
    refine j_aloadn0 (pc := 20) hC d_m_word4_20 ?_
    refine j_dup (pc := 21) hC d_m_word4_21 rfl ?_
    refine jg_M_34 (pc := 22) hC d_m_word4_22 ?_
    refine j_iconst (pc := 25) (v := 1) hC d_m_word4_25 (by decide) ?_
    refine j_iadd (pc := 26) hC d_m_word4_26 ?_
    refine jp_M_34 (pc := 27) hC d_m_word4_27 ?_
    refine J.to rfl rfl rfl (w' := wm g ca (nI (n + 1)) cd bi ls us dc pt ps sp en ep hn hp (upd tp n (by4 v 24)) lm dd xd yd) (by rw [nI_1, hc0]; rfl) ?_
    refine j_iinc2 (pc := 30) hC d_m_word4_30 (by decide) (by first | exact trivial | exact rfl) ?_
    refine j_goto (pc := 33) hC 3 d_m_word4_33 (by decide) ?_
    refine j_iloadn2 (pc := 3) hC d_m_word4_3 ?_
    refine j_if_lt (pc := 4) hC 36 d_m_word4_4 (by decide) (fun q => ?_) (fun q => ?_)
    · exact absurd q (by decide)
    · refine j_aloadn0 (pc := 7) hC d_m_word4_7 ?_
      refine jg_M_9 (pc := 8) hC d_m_word4_8 ?_
      refine j_aloadn0 (pc := 11) hC d_m_word4_11 ?_
      refine jg_M_34 (pc := 12) hC d_m_word4_12 ?_
      refine j_iloadn1 (pc := 15) hC d_m_word4_15 ?_
      refine j_iloadn2 (pc := 16) hC d_m_word4_16 ?_
      refine j_ishr (pc := 17) hC d_m_word4_17 ?_
      refine j_i2b (pc := 18) hC d_m_word4_18 ?_
      refine ja_mtape_bastore (pc := 19) hC (vp_in_nI (by omega) (by decide)) d_m_word4_19 ?_
      refine j_aloadn0 (pc := 20) hC d_m_word4_20 ?_
      refine j_dup (pc := 21) hC d_m_word4_21 rfl ?_
      refine jg_M_34 (pc := 22) hC d_m_word4_22 ?_
      refine j_iconst (pc := 25) (v := 1) hC d_m_word4_25 (by decide) ?_
      refine j_iadd (pc := 26) hC d_m_word4_26 ?_
      refine jp_M_34 (pc := 27) hC d_m_word4_27 ?_
      refine J.to rfl rfl rfl (w' := wm g ca (nI (n + 2)) cd bi ls us dc pt ps sp en ep hn hp (upd (upd tp n (by4 v 24)) (n + 1) (by4 v 16)) lm dd xd yd) (by rw [nI_1, hc1]; rfl) ?_
      refine j_iinc2 (pc := 30) hC d_m_word4_30 (by decide) (by first | exact trivial | exact rfl) ?_
      refine j_goto (pc := 33) hC 3 d_m_word4_33 (by decide) ?_
      refine j_iloadn2 (pc := 3) hC d_m_word4_3 ?_
      refine j_if_lt (pc := 4) hC 36 d_m_word4_4 (by decide) (fun q => ?_) (fun q => ?_)
      · exact absurd q (by decide)
      · refine j_aloadn0 (pc := 7) hC d_m_word4_7 ?_
        refine jg_M_9 (pc := 8) hC d_m_word4_8 ?_
        refine j_aloadn0 (pc := 11) hC d_m_word4_11 ?_
        refine jg_M_34 (pc := 12) hC d_m_word4_12 ?_
        refine j_iloadn1 (pc := 15) hC d_m_word4_15 ?_
        refine j_iloadn2 (pc := 16) hC d_m_word4_16 ?_
        refine j_ishr (pc := 17) hC d_m_word4_17 ?_
        refine j_i2b (pc := 18) hC d_m_word4_18 ?_
        refine ja_mtape_bastore (pc := 19) hC (vp_in_nI (by omega) (by decide)) d_m_word4_19 ?_
        refine j_aloadn0 (pc := 20) hC d_m_word4_20 ?_
        refine j_dup (pc := 21) hC d_m_word4_21 rfl ?_
        refine jg_M_34 (pc := 22) hC d_m_word4_22 ?_
        refine j_iconst (pc := 25) (v := 1) hC d_m_word4_25 (by decide) ?_
        refine j_iadd (pc := 26) hC d_m_word4_26 ?_
        refine jp_M_34 (pc := 27) hC d_m_word4_27 ?_
        refine J.to rfl rfl rfl (w' := wm g ca (nI (n + 3)) cd bi ls us dc pt ps sp en ep hn hp (upd (upd (upd tp n (by4 v 24)) (n + 1) (by4 v 16)) (n + 2) (by4 v 8)) lm dd xd yd) (by rw [nI_1, hc2]; rfl) ?_
        refine j_iinc2 (pc := 30) hC d_m_word4_30 (by decide) (by first | exact trivial | exact rfl) ?_
        refine j_goto (pc := 33) hC 3 d_m_word4_33 (by decide) ?_
        refine j_iloadn2 (pc := 3) hC d_m_word4_3 ?_
        refine j_if_lt (pc := 4) hC 36 d_m_word4_4 (by decide) (fun q => ?_) (fun q => ?_)
        · exact absurd q (by decide)
        · refine j_aloadn0 (pc := 7) hC d_m_word4_7 ?_
          refine jg_M_9 (pc := 8) hC d_m_word4_8 ?_
          refine j_aloadn0 (pc := 11) hC d_m_word4_11 ?_
          refine jg_M_34 (pc := 12) hC d_m_word4_12 ?_
          refine j_iloadn1 (pc := 15) hC d_m_word4_15 ?_
          refine j_iloadn2 (pc := 16) hC d_m_word4_16 ?_
          refine j_ishr (pc := 17) hC d_m_word4_17 ?_
          refine j_i2b (pc := 18) hC d_m_word4_18 ?_
          refine ja_mtape_bastore (pc := 19) hC (vp_in_nI (by omega) (by decide)) d_m_word4_19 ?_
          refine j_aloadn0 (pc := 20) hC d_m_word4_20 ?_
          refine j_dup (pc := 21) hC d_m_word4_21 rfl ?_
          refine jg_M_34 (pc := 22) hC d_m_word4_22 ?_
          refine j_iconst (pc := 25) (v := 1) hC d_m_word4_25 (by decide) ?_
          refine j_iadd (pc := 26) hC d_m_word4_26 ?_
          refine jp_M_34 (pc := 27) hC d_m_word4_27 ?_
          refine J.to rfl rfl rfl (w' := wm g ca (nI (n + 4)) cd bi ls us dc pt ps sp en ep hn hp (wr4 tp n v) lm dd xd yd) (by rw [nI_1, hc3]; rfl) ?_
          refine j_iinc2 (pc := 30) hC d_m_word4_30 (by decide) (by first | exact trivial | exact rfl) ?_
          refine j_goto (pc := 33) hC 3 d_m_word4_33 (by decide) ?_
          refine j_iloadn2 (pc := 3) hC d_m_word4_3 ?_
          refine j_if_lt (pc := 4) hC 36 d_m_word4_4 (by decide) (fun q => ?_) (fun q => ?_)
          · exact j_vret hC d_m_word4_36 ⟨rfl, rfl⟩
          · exact absurd (by decide) q
set_option maxHeartbeats 2000000 in
theorem c_m_feed (n : Nat) (v1 v2 v3 v4 v5 : Int32) (hN : n ≤ 8192) : jM l y_m_feed b_m_feed 6 (some .int) (rmD 1) D (tyM ca) X [.ref (g 10), .int v1, .int v2, .int v3, .int v4, .int v5] (wm g ca (nI n) cd bi ls us dc pt ps sp en ep hn hp tp lm dd xd yd) (jPi fun r w => (n + 20 ≤ 8192 ∧ r = nI (n + 20) ∧ w = wm g ca (nI (n + 20)) (0) bi ls us dc pt ps sp en ep hn hp (wr20 tp n v1 v2 v3 v4 v5) lm dd xd yd) ∨ (¬ n + 20 ≤ 8192 ∧ w = wm g ca (nI n) (1) bi ls us dc pt ps sp en ep hn hp tp lm dd xd yd)) := by
  refine jM.of [some (.ref (g 10)), some (.int v1), some (.int v2), some (.int v3), some (.int v4), some (.int v5)] (by simp [jle, jent, Value.category]) rfl (Nat.le_of_ble_eq_true rfl) ?_
  intro p e s m args below meth c sz hC
  have e20 : nI n + 20 = nI (n + 20) := nI_add n 20
  have k19 : ∀ y : Bool, (y = true ↔ n + 20 ≤ 8192) → J p l e (rmD 1) s m args below meth c D (va_A (wm g ca (nI n) cd bi ls us dc pt ps sp en ep hn hp tp lm dd xd yd) sz) 6 (MQ below (jQ D (wm g ca (nI n) cd bi ls us dc pt ps sp en ep hn hp tp lm dd xd yd) sz (jPi fun r w => (n + 20 ≤ 8192 ∧ r = nI (n + 20) ∧ w = wm g ca (nI (n + 20)) (0) bi ls us dc pt ps sp en ep hn hp (wr20 tp n v1 v2 v3 v4 v5) lm dd xd yd) ∨ (¬ n + 20 ≤ 8192 ∧ w = wm g ca (nI n) (1) bi ls us dc pt ps sp en ep hn hp tp lm dd xd yd))) args s 0 0 (va_A (wm g ca (nI n) cd bi ls us dc pt ps sp en ep hn hp tp lm dd xd yd) sz)) 19 [some (.ref (g 10)), some (.int v1), some (.int v2), some (.int v3), some (.int v4), some (.int v5)] [.int (if y then 1 else 0), .ref (g 10)] (wm g ca (nI n) cd bi ls us dc pt ps sp en ep hn hp tp lm dd xd yd) := by
    intro y hy
    refine j_iconst (pc := 19) (v := 1) hC d_m_feed_19 (by decide) ?_
    refine j_V2i (pc := 20) (q0 := 0) (ci := 3) hC cw_M_37 (rmD_in (by decide)) (Nat.le_of_ble_eq_true rfl) rfl rfl d_m_feed_20 (c_m_good y 1) (fun r w2 h1 => ?_)
    obtain ⟨rfl, rfl⟩ := h1
    cases y with
    | true =>
      have hle := hy.mp rfl
      refine j_if_ne (pc := 23) hC 28 d_m_feed_23 (by decide) (fun q => ?_) (fun q => ?_)
      · refine j_aloadn0 (pc := 28) hC d_m_feed_28 ?_
        refine j_iloadn1 (pc := 29) hC d_m_feed_29 ?_
        refine j_V1v (pc := 30) (q0 := 0) (ci := 3) hC cw_M_41 (rmD_in (by decide)) (Nat.le_of_ble_eq_true rfl) rfl rfl d_m_feed_30 (c_m_word4 n v1 (by omega)) (fun w2 h2 => ?_)
        subst h2
        refine j_aloadn0 (pc := 33) hC d_m_feed_33 ?_
        refine j_iloadn2 (pc := 34) hC d_m_feed_34 ?_
        refine j_V1v (pc := 35) (q0 := 0) (ci := 3) hC cw_M_41 (rmD_in (by decide)) (Nat.le_of_ble_eq_true rfl) rfl rfl d_m_feed_35 (c_m_word4 (n + 4) v2 (by omega)) (fun w2 h2 => ?_)
        subst h2
        refine j_aloadn0 (pc := 38) hC d_m_feed_38 ?_
        refine j_iloadn3 (pc := 39) hC d_m_feed_39 ?_
        refine j_V1v (pc := 40) (q0 := 0) (ci := 3) hC cw_M_41 (rmD_in (by decide)) (Nat.le_of_ble_eq_true rfl) rfl rfl d_m_feed_40 (c_m_word4 (n + 8) v3 (by omega)) (fun w2 h2 => ?_)
        subst h2
        refine j_aloadn0 (pc := 43) hC d_m_feed_43 ?_
        refine j_iload4 (pc := 44) hC d_m_feed_44 ?_
        refine j_V1v (pc := 46) (q0 := 0) (ci := 3) hC cw_M_41 (rmD_in (by decide)) (Nat.le_of_ble_eq_true rfl) rfl rfl d_m_feed_46 (c_m_word4 (n + 12) v4 (by omega)) (fun w2 h2 => ?_)
        subst h2
        refine j_aloadn0 (pc := 49) hC d_m_feed_49 ?_
        refine j_iload5 (pc := 50) hC d_m_feed_50 ?_
        refine j_V1v (pc := 52) (q0 := 0) (ci := 3) hC cw_M_41 (rmD_in (by decide)) (Nat.le_of_ble_eq_true rfl) rfl rfl d_m_feed_52 (c_m_word4 (n + 16) v5 (by omega)) (fun w2 h2 => ?_)
        subst h2
        refine j_aloadn0 (pc := 55) hC d_m_feed_55 ?_
        refine jg_M_34 (pc := 56) hC d_m_feed_56 ?_
        exact j_iret hC d_m_feed_59 ⟨_, rfl, Or.inl ⟨hle, rfl, rfl⟩⟩
      · exact absurd q (by decide)
    | false =>
      have hle : ¬ n + 20 ≤ 8192 := fun q => by have := hy.mpr q; cases this
      refine j_if_ne (pc := 23) hC 28 d_m_feed_23 (by decide) (fun q => ?_) (fun q => ?_)
      · exact absurd rfl q
      · refine j_iconst (pc := 26) (v := 0) hC d_m_feed_26 (by decide) ?_
        exact j_iret hC d_m_feed_27 ⟨_, rfl, Or.inr ⟨hle, rfl⟩⟩
  refine j_aloadn0 (pc := 0) hC d_m_feed_0 ?_
  refine j_aloadn0 (pc := 1) hC d_m_feed_1 ?_
  refine jg_M_34 (pc := 2) hC d_m_feed_2 ?_
  refine j_bipush (pc := 5) (v := 20) hC d_m_feed_5 (by decide) ?_
  refine j_iadd (pc := 7) hC d_m_feed_7 ?_
  refine j_sipush (pc := 8) (v := 8192) hC d_m_feed_8 (by decide) ?_
  refine j_icmp_gt (pc := 11) hC 18 d_m_feed_11 (by decide) (fun h1 => ?_) (fun h1 => ?_)
  · rw [e20] at h1
    have h1 : ¬ n + 20 ≤ 8192 := fun y => by
      have h2 := (nI_ltI (a := 8192) (by omega) (by omega)).mp h1
      omega
    refine j_iconst (pc := 18) (v := 0) hC d_m_feed_18 (by decide) ?_
    exact k19 false ⟨fun y => (by cases y), fun y => absurd y h1⟩
  · rw [e20] at h1
    have h1 : n + 20 ≤ 8192 := by
      rcases Nat.lt_or_ge 8192 (n + 20) with y | y
      · exact absurd ((nI_ltI (a := 8192) (by omega) (by omega)).mpr y) h1
      · exact y
    refine j_iconst (pc := 14) (v := 1) hC d_m_feed_14 (by decide) ?_
    refine j_goto (pc := 15) hC 19 d_m_feed_15 (by decide) ?_
    exact k19 true ⟨fun _ => h1, fun _ => rfl⟩
set_option maxHeartbeats 2000000 in
theorem c_m_end (n : Nat) (v : Int32) (hN : n ≤ 8192) : jM l y_m_end b_m_end 2 (some .int) (rmD 1) D (tyM ca) X [.ref (g 10), .int v] (wm g ca (nI n) cd bi ls us dc pt ps sp en ep hn hp tp lm dd xd yd) (jPi fun r w => ((0 ≤ v.toInt ∧ v.toInt ≤ n) ∧ r = v ∧ w = wm g ca (v) (0) bi ls us dc pt ps sp en ep hn hp tp lm dd xd yd) ∨ (¬ (0 ≤ v.toInt ∧ v.toInt ≤ n) ∧ w = wm g ca (nI n) (1) bi ls us dc pt ps sp en ep hn hp tp lm dd xd yd)) := by
  refine jM.of [some (.ref (g 10)), some (.int v)] (by simp [jle, jent, Value.category]) rfl (Nat.le_of_ble_eq_true rfl) ?_
  intro p e s m args below meth c sz hC
  have ez : (0 : Int32).toInt = 0 := rfl
  have en' : (nI n).toInt = (n : Int) := nI_toInt (by omega)
  have k18 : ∀ y : Bool, (y = true ↔ (0 ≤ v.toInt ∧ v.toInt ≤ n)) → J p l e (rmD 1) s m args below meth c D (va_A (wm g ca (nI n) cd bi ls us dc pt ps sp en ep hn hp tp lm dd xd yd) sz) 2 (MQ below (jQ D (wm g ca (nI n) cd bi ls us dc pt ps sp en ep hn hp tp lm dd xd yd) sz (jPi fun r w => ((0 ≤ v.toInt ∧ v.toInt ≤ n) ∧ r = v ∧ w = wm g ca (v) (0) bi ls us dc pt ps sp en ep hn hp tp lm dd xd yd) ∨ (¬ (0 ≤ v.toInt ∧ v.toInt ≤ n) ∧ w = wm g ca (nI n) (1) bi ls us dc pt ps sp en ep hn hp tp lm dd xd yd))) args s 0 0 (va_A (wm g ca (nI n) cd bi ls us dc pt ps sp en ep hn hp tp lm dd xd yd) sz)) 18 [some (.ref (g 10)), some (.int v)] [.int (if y then 1 else 0), .ref (g 10)] (wm g ca (nI n) cd bi ls us dc pt ps sp en ep hn hp tp lm dd xd yd) := by
    intro y hy
    refine j_iconst (pc := 18) (v := 1) hC d_m_end_18 (by decide) ?_
    refine j_V2i (pc := 19) (q0 := 0) (ci := 3) hC cw_M_37 (rmD_in (by decide)) (Nat.le_of_ble_eq_true rfl) rfl rfl d_m_end_19 (c_m_good y 1) (fun r w2 h1 => ?_)
    obtain ⟨rfl, rfl⟩ := h1
    cases y with
    | true =>
      refine j_if_ne (pc := 22) hC 27 d_m_end_22 (by decide) (fun q => ?_) (fun q => ?_)
      · refine j_aloadn0 (pc := 27) hC d_m_end_27 ?_
        refine j_iloadn1 (pc := 28) hC d_m_end_28 ?_
        refine jp_M_34 (pc := 29) hC d_m_end_29 ?_
        refine j_iloadn1 (pc := 32) hC d_m_end_32 ?_
        exact j_iret hC d_m_end_33 ⟨_, rfl, Or.inl ⟨hy.mp rfl, rfl, rfl⟩⟩
      · exact absurd q (by decide)
    | false =>
      refine j_if_ne (pc := 22) hC 27 d_m_end_22 (by decide) (fun q => ?_) (fun q => ?_)
      · exact absurd rfl q
      · refine j_iconst (pc := 25) (v := 0) hC d_m_end_25 (by decide) ?_
        exact j_iret hC d_m_end_26 ⟨_, rfl, Or.inr ⟨fun q => (by have := hy.mpr q; cases this), rfl⟩⟩
  refine j_aloadn0 (pc := 0) hC d_m_end_0 ?_
  refine j_iloadn1 (pc := 1) hC d_m_end_1 ?_
  refine j_if_lt (pc := 2) hC 17 d_m_end_2 (by decide) (fun h1 => ?_) (fun h1 => ?_)
  · rw [i32lt, ez] at h1
    refine j_iconst (pc := 17) (v := 0) hC d_m_end_17 (by decide) ?_
    exact k18 false ⟨fun y => (by cases y), fun y => by omega⟩
  · rw [i32lt, ez] at h1
    refine j_iloadn1 (pc := 5) hC d_m_end_5 ?_
    refine j_aloadn0 (pc := 6) hC d_m_end_6 ?_
    refine jg_M_34 (pc := 7) hC d_m_end_7 ?_
    refine j_icmp_gt (pc := 10) hC 17 d_m_end_10 (by decide) (fun h2 => ?_) (fun h2 => ?_)
    · rw [i32lt, en'] at h2
      refine j_iconst (pc := 17) (v := 0) hC d_m_end_17 (by decide) ?_
      exact k18 false ⟨fun y => (by cases y), fun y => by omega⟩
    · rw [i32lt, en'] at h2
      refine j_iconst (pc := 13) (v := 1) hC d_m_end_13 (by decide) ?_
      refine j_goto (pc := 14) hC 18 d_m_end_14 (by decide) ?_
      exact k18 true ⟨fun _ => by omega, fun _ => rfl⟩
set_option maxHeartbeats 2000000 in
theorem c_m_parse (n : Nat) (hN : n ≤ 8192) : jM l y_m_parse b_m_parse 1 (some .long) (rmD 6) D (tyM ca) X [.ref (g 10)] (wm g ca (nI n) cd bi ls us dc pt ps sp en ep hn hp tp lm dd xd yd) (jPl fun r w => ∃ (a z b : Nat) (mi : Bool) (cd2 ps2 us2 dc2 en2 ep2 hn2 hp2 : Int32) (pt2 : Int64) (lm2 : Nat → Int64) (dd2 xd2 yd2 : Nat → Int32), scB tp n a z b mi ∧ ((isN tp b z ∧ cd2 = 0 ∧ ansR 52 14 9218868437227405312 9221120237041090560 (-9223372036854775808) tp b z mi r) ∨ (¬ isN tp b z ∧ cd2 = 1)) ∧ w = wm g ca (0) (cd2) (53) (-1074) (us2) (dc2) (pt2) (ps2) (nI z) (en2) (ep2) (hn2) (hp2) tp (lm2) (dd2) (xd2) (yd2)) := by
  refine jM.of [some (.ref (g 10))] (by simp [jle, jent, Value.category]) rfl (Nat.le_of_ble_eq_true rfl) ?_
  intro p e s m args below meth c sz hC
  refine j_aloadn0 (pc := 0) hC d_m_parse_0 ?_
  refine j_iconst (pc := 1) (v := 1) hC d_m_parse_1 (by decide) ?_
  refine j_V1v (pc := 2) (q0 := 0) (ci := 3) hC cw_M_197 (rmD_in (by decide)) (Nat.le_of_ble_eq_true rfl) rfl rfl d_m_parse_2 (c_m_kind_d) (fun w2 h1 => ?_)
  subst h1
  refine j_aloadn0 (pc := 5) hC d_m_parse_5 ?_
  refine j_V0l (pc := 6) (q0 := 0) (ci := 3) hC cw_M_201 (rmD_in (by decide)) (Nat.le_of_ble_eq_true rfl) rfl rfl d_m_parse_6 (c_m_value_d n hN) (fun r w2 h2 => ?_)
  exact j_lret hC d_m_parse_9 ⟨_, rfl, h2⟩
set_option maxHeartbeats 2000000 in
theorem c_m_parseFloat (n : Nat) (hN : n ≤ 8192) : jM l y_m_parseFloat b_m_parseFloat 1 (some .int) (rmD 6) D (tyM ca) X [.ref (g 10)] (wm g ca (nI n) cd bi ls us dc pt ps sp en ep hn hp tp lm dd xd yd) (jPi fun r w => ∃ r' : Int64, r = r'.toInt32 ∧ ∃ (a z b : Nat) (mi : Bool) (cd2 ps2 us2 dc2 en2 ep2 hn2 hp2 : Int32) (pt2 : Int64) (lm2 : Nat → Int64) (dd2 xd2 yd2 : Nat → Int32), scB tp n a z b mi ∧ ((isN tp b z ∧ cd2 = 0 ∧ ansR 23 939 2139095040 2143289344 2147483648 tp b z mi r') ∨ (¬ isN tp b z ∧ cd2 = 1)) ∧ w = wm g ca (0) (cd2) (24) (-149) (us2) (dc2) (pt2) (ps2) (nI z) (en2) (ep2) (hn2) (hp2) tp (lm2) (dd2) (xd2) (yd2)) := by
  refine jM.of [some (.ref (g 10))] (by simp [jle, jent, Value.category]) rfl (Nat.le_of_ble_eq_true rfl) ?_
  intro p e s m args below meth c sz hC
  refine j_aloadn0 (pc := 0) hC d_m_parseFloat_0 ?_
  refine j_iconst (pc := 1) (v := 0) hC d_m_parseFloat_1 (by decide) ?_
  refine j_V1v (pc := 2) (q0 := 0) (ci := 3) hC cw_M_197 (rmD_in (by decide)) (Nat.le_of_ble_eq_true rfl) rfl rfl d_m_parseFloat_2 (c_m_kind_f) (fun w2 h1 => ?_)
  subst h1
  refine j_aloadn0 (pc := 5) hC d_m_parseFloat_5 ?_
  refine j_V0l (pc := 6) (q0 := 0) (ci := 3) hC cw_M_201 (rmD_in (by decide)) (Nat.le_of_ble_eq_true rfl) rfl rfl d_m_parseFloat_6 (c_m_value_f n hN) (fun r w2 h2 => ?_)
  refine j_l2i (pc := 9) hC d_m_parseFloat_9 ?_
  exact j_iret hC d_m_parseFloat_10 ⟨_, rfl, r, rfl, h2⟩
end MP

