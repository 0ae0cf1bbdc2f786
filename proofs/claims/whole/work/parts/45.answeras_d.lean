section AA
variable {l : Launch} {D : va_G} {X : jX} {g : Nat → Nat} {ca : Nat → ClassId} {len ps sp ng fm df dt wg ex hg mo : Int32} {tp lb wo : Nat → Int32}
set_option maxHeartbeats 2000000 in
theorem c_answerAs_d (tq : Nat → Int32) (b z : Nat) (mi : Bool) (hok : okF tq b z fm hg mo (wnum wo)) : jM l y_answerAs b_answerAs 4 (some .long) (rmD 4) D (tyD ca) X [.ref (g 0), .ref (g 1)] (wd g ca len ps sp (if mi then 1 else 0) fm df dt wg ex hg mo tp lb wo) (jPl fun r w => ansR 52 14 9218868437227405312 9221120237041090560 (-9223372036854775808) tq b z mi r ∧ w = wd g ca len ps sp (if mi then 1 else 0) fm df dt wg ex hg mo tp lb wo) := by
  refine jM.of [some (.ref (g 0)), some (.ref (g 1)), none, none] (by simp [jle, jent, Value.category]) rfl (Nat.le_of_ble_eq_true rfl) ?_
  intro p e s m args below meth c sz hC
  have k35 : ∀ sv : Nat, ((¬ isW tq b z 0 ∧ isW tq b z 1 ∧ sv = 9218868437227405312) ∨ (¬ isW tq b z 0 ∧ ¬ isW tq b z 1 ∧ sv ≤ 9218868437227405312 ∧ numR 52 14 9218868437227405312 tq b z sv)) → J p l e (rmD 4) s m args below meth c D (va_A (wd g ca len ps sp (if mi then 1 else 0) fm df dt wg ex hg mo tp lb wo) sz) 4 (MQ below (jQ D (wd g ca len ps sp (if mi then 1 else 0) fm df dt wg ex hg mo tp lb wo) sz (jPl fun r w => ansR 52 14 9218868437227405312 9221120237041090560 (-9223372036854775808) tq b z mi r ∧ w = wd g ca len ps sp (if mi then 1 else 0) fm df dt wg ex hg mo tp lb wo)) args s 0 0 (va_A (wd g ca len ps sp (if mi then 1 else 0) fm df dt wg ex hg mo tp lb wo) sz)) 35 [some (.ref (g 0)), some (.ref (g 1)), none, none] [.long (lN sv)] (wd g ca len ps sp (if mi then 1 else 0) fm df dt wg ex hg mo tp lb wo) := by
    intro s1 hs
    have fin : ∀ r : Int64, r = (if mi then lN s1 ||| (-9223372036854775808) else lN s1) → ansR 52 14 9218868437227405312 9221120237041090560 (-9223372036854775808) tq b z mi r := by
      intro r hr
      rcases hs with ⟨a1, a2, a3⟩ | ⟨a1, a2, a3, a4⟩
      · rw [a3] at hr
        exact Or.inr (Or.inl ⟨a1, a2, hr⟩)
      · exact Or.inr (Or.inr ⟨a1, a2, s1, a3, a4, hr⟩)
    cases mi with
    | true =>
      refine j_lstoren2 (pc := 35) hC d_answerAs_35 (by decide) (by first | exact trivial | exact rfl) ?_
      refine j_aloadn0 (pc := 36) hC d_answerAs_36 ?_
      refine jg_R_84 (pc := 37) hC d_answerAs_37 ?_
      refine j_if_eq (pc := 40) hC 52 d_answerAs_40 (by decide) (fun q => ?_) (fun q => ?_)
      · exact absurd q (by decide)
      · refine j_lloadn2 (pc := 43) hC d_answerAs_43 ?_
        refine j_aloadn1 (pc := 44) hC d_answerAs_44 ?_
        refine jg_R_88d (pc := 45) hC d_answerAs_45 ?_
        refine j_lor (pc := 48) hC d_answerAs_48 ?_
        refine j_goto (pc := 49) hC 53 d_answerAs_49 (by decide) ?_
        exact j_lret hC d_answerAs_53 ⟨_, rfl, fin _ rfl, rfl⟩
    | false =>
      refine j_lstoren2 (pc := 35) hC d_answerAs_35 (by decide) (by first | exact trivial | exact rfl) ?_
      refine j_aloadn0 (pc := 36) hC d_answerAs_36 ?_
      refine jg_R_84 (pc := 37) hC d_answerAs_37 ?_
      refine j_if_eq (pc := 40) hC 52 d_answerAs_40 (by decide) (fun q => ?_) (fun q => ?_)
      · refine j_lloadn2 (pc := 52) hC d_answerAs_52 ?_
        exact j_lret hC d_answerAs_53 ⟨_, rfl, fin _ rfl, rfl⟩
      · exact absurd rfl q
  rcases hok with ⟨a1, rfl⟩ | ⟨a1, a2, rfl⟩ | ⟨a1, a2, a3, a4⟩
  · refine j_aloadn0 (pc := 0) hC d_answerAs_0 ?_
    refine jg_R_68 (pc := 1) hC d_answerAs_1 ?_
    refine j_if_ne (pc := 4) hC 12 d_answerAs_4 (by decide) (fun q => ?_) (fun q => ?_)
    · exact absurd rfl q
    · refine j_aloadn1 (pc := 7) hC d_answerAs_7 ?_
      refine jg_R_74d (pc := 8) hC d_answerAs_8 ?_
      exact j_lret hC d_answerAs_11 ⟨_, rfl, Or.inl ⟨a1, rfl⟩, rfl⟩
  · refine j_aloadn0 (pc := 0) hC d_answerAs_0 ?_
    refine jg_R_68 (pc := 1) hC d_answerAs_1 ?_
    refine j_if_ne (pc := 4) hC 12 d_answerAs_4 (by decide) (fun q => ?_) (fun q => ?_)
    · refine j_aloadn0 (pc := 12) hC d_answerAs_12 ?_
      refine jg_R_68 (pc := 13) hC d_answerAs_13 ?_
      refine j_iconst (pc := 16) (v := 1) hC d_answerAs_16 (by decide) ?_
      refine j_icmp_ne (pc := 17) hC 27 d_answerAs_17 (by decide) (fun q2 => ?_) (fun q2 => ?_)
      · exact absurd rfl q2
      · refine j_aloadn1 (pc := 20) hC d_answerAs_20 ?_
        refine jg_R_78d (pc := 21) hC d_answerAs_21 ?_
        refine j_goto (pc := 24) hC 35 d_answerAs_24 (by decide) ?_
        exact k35 9218868437227405312 (Or.inl ⟨a1, a2, rfl⟩)
    · exact absurd q (by decide)
  · refine j_aloadn0 (pc := 0) hC d_answerAs_0 ?_
    refine jg_R_68 (pc := 1) hC d_answerAs_1 ?_
    refine j_if_ne (pc := 4) hC 12 d_answerAs_4 (by decide) (fun q => ?_) (fun q => ?_)
    · refine j_aloadn0 (pc := 12) hC d_answerAs_12 ?_
      refine jg_R_68 (pc := 13) hC d_answerAs_13 ?_
      refine j_iconst (pc := 16) (v := 1) hC d_answerAs_16 (by decide) ?_
      refine j_icmp_ne (pc := 17) hC 27 d_answerAs_17 (by decide) (fun q2 => ?_) (fun q2 => ?_)
      · refine j_aloadn0 (pc := 27) hC d_answerAs_27 ?_
        refine jg_R_24 (pc := 28) hC d_answerAs_28 ?_
        refine j_aloadn1 (pc := 31) hC d_answerAs_31 ?_
        refine j_V1l (pc := 32) (q0 := 3) (ci := 2) hC cw_R_81 (rmD_in (by decide)) (Nat.le_of_ble_eq_true rfl) rfl rfl d_answerAs_32 (c_v_rounded_d) (fun r w2 h1 => ?_)
        obtain ⟨s1, hs1, rfl, rfl⟩ := h1
        exact k35 s1 (Or.inr ⟨a1, a2, hs1.1, a4.1 s1 hs1⟩)
      · rcases a3 with rfl | rfl <;> exact absurd q2 (by decide)
    · rcases a3 with rfl | rfl <;> exact absurd q (by decide)
end AA

