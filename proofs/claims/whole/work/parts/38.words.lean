/-! THE CLASS: words, the scan as a whole -/
/-- the word i stands from a to z -/
def isW (t : Nat → Int32) (a z i : Nat) : Prop := z - a = st_len.getD i 0 ∧ ∀ j, j < st_len.getD i 0 → t (a + j) = (st_byt.getD i []).getD j 0
section SW
variable {l : Launch} {D : va_G} {X : jX} {g : Nat → Nat} {ca : Nat → ClassId} {len ps sp ng fm df dt wg ex hg mo : Int32} {tp lb wo : Nat → Int32}
set_option maxHeartbeats 1000000 in
theorem c_restIs (i a z : Nat) (hi : i < 6) (hz : z ≤ 8192) (ha : a ≤ z) : jM l y_restIs b_restIs 3 (some .boolean) (rmD 4) D (tyD ca) X [.ref (g 0), .ref (X.2.1 i)] (wd g ca len (nI a) (nI z) ng fm df dt wg ex hg mo tp lb wo) (jPi fun r w => (isW tp a z i ∧ r = 1 ∨ ¬ isW tp a z i ∧ r = 0) ∧ w = wd g ca len (nI a) (nI z) ng fm df dt wg ex hg mo tp lb wo) := by
  refine jM.of [some (.ref (g 0)), some (.ref (X.2.1 i)), none] (by simp [jle, jent, Value.category]) rfl (Nat.le_of_ble_eq_true rfl) ?_
  intro p e s m args below meth c sz hC
  have hs := st_small i hi
  have loop : ∀ (n j : Nat), j + n = st_len.getD i 0 → z - a = st_len.getD i 0 → (∀ q, q < j → tp (a + q) = (st_byt.getD i []).getD q 0) → J p l e (rmD 4) s m args below meth c D (va_A (wd g ca len (nI a) (nI z) ng fm df dt wg ex hg mo tp lb wo) sz) 3 (MQ below (jQ D (wd g ca len (nI a) (nI z) ng fm df dt wg ex hg mo tp lb wo) sz (jPi fun r w => (isW tp a z i ∧ r = 1 ∨ ¬ isW tp a z i ∧ r = 0) ∧ w = wd g ca len (nI a) (nI z) ng fm df dt wg ex hg mo tp lb wo)) args s 0 0 (va_A (wd g ca len (nI a) (nI z) ng fm df dt wg ex hg mo tp lb wo) sz)) 20 [some (.ref (g 0)), some (.ref (X.2.1 i)), some (.int (nI j))] [] (wd g ca len (nI a) (nI z) ng fm df dt wg ex hg mo tp lb wo) := by
    intro n
    induction n with
    | zero =>
      intro j hj hl hd
      refine j_iloadn2 (pc := 20) hC d_restIs_20 ?_
      refine j_aloadn1 (pc := 21) hC d_restIs_21 ?_
      refine j_Str0 (pc := 22) hC hi rfl cw_R_160 (rmD_in (by decide)) (Nat.le_of_ble_eq_true rfl) d_restIs_22 (c_s_length i hi) (fun r w2 h => ?_)
      obtain ⟨rfl, rfl⟩ := h
      refine j_icmp_ge (pc := 25) hC 55 d_restIs_25 (by decide) (fun h1 => ?_) (fun h1 => ?_)
      · refine j_iconst (pc := 55) (v := 1) hC d_restIs_55 (by decide) ?_
        exact j_zret hC rfl d_restIs_56 ⟨1, rfl, Or.inl ⟨⟨hl, fun q hq => hd q (by omega)⟩, rfl⟩, rfl⟩
      · rw [nI_leI (by omega) (by omega)] at h1
        omega
    | succ n ih =>
      intro j hj hl hd
      refine j_iloadn2 (pc := 20) hC d_restIs_20 ?_
      refine j_aloadn1 (pc := 21) hC d_restIs_21 ?_
      refine j_Str0 (pc := 22) hC hi rfl cw_R_160 (rmD_in (by decide)) (Nat.le_of_ble_eq_true rfl) d_restIs_22 (c_s_length i hi) (fun r w2 h => ?_)
      obtain ⟨rfl, rfl⟩ := h
      refine j_icmp_ge (pc := 25) hC 55 d_restIs_25 (by decide) (fun h1 => ?_) (fun h1 => ?_)
      · rw [nI_leI (by omega) (by omega)] at h1
        omega
      · refine j_aloadn0 (pc := 28) hC d_restIs_28 ?_
        refine jg_R_28 (pc := 29) hC d_restIs_29 ?_
        refine j_aloadn0 (pc := 32) hC d_restIs_32 ?_
        refine jg_R_114 (pc := 33) hC d_restIs_33 ?_
        refine j_iloadn2 (pc := 36) hC d_restIs_36 ?_
        refine j_iadd (pc := 37) hC d_restIs_37 ?_
        refine J.topi (nI_add a j) ?_
        refine ja_tape_baload (pc := 38) hC (vp_in_nI (by omega) (by decide)) d_restIs_38 ?_
        refine j_aloadn1 (pc := 39) hC d_restIs_39 ?_
        refine j_iloadn2 (pc := 40) hC d_restIs_40 ?_
        rw [nI_clamp (show a + j < 2 ^ 31 by omega)]
        refine j_Str1 (pc := 41) hC hi rfl cw_R_165 (rmD_in (by decide)) (Nat.le_of_ble_eq_true rfl) d_restIs_41 (c_s_charAt i j hi (by omega)) (fun r w2 h => ?_)
        obtain ⟨rfl, rfl⟩ := h
        refine j_icmp_eq (pc := 44) hC 49 d_restIs_44 (by decide) (fun h2 => ?_) (fun h2 => ?_)
        · refine j_iinc2 (pc := 49) hC d_restIs_49 (by decide) (by first | exact trivial | exact rfl) ?_
          refine j_goto (pc := 52) hC 20 d_restIs_52 (by decide) ?_
          refine J.to rfl ?_ rfl rfl (ih (j + 1) (by omega) hl (fun q hq => ?_))
          · rw [← nI_1]
            rfl
          · rcases Nat.lt_or_eq_of_le (Nat.le_of_lt_succ hq) with h | h
            · exact hd q h
            · rw [h]; exact h2
        · refine j_iconst (pc := 47) (v := 0) hC d_restIs_47 (by decide) ?_
          exact j_zret hC rfl d_restIs_48 ⟨0, rfl, Or.inr ⟨fun q => h2 (q.2 j (by omega)), rfl⟩, rfl⟩
  refine j_aloadn0 (pc := 0) hC d_restIs_0 ?_
  refine jg_R_117 (pc := 1) hC d_restIs_1 ?_
  refine j_aloadn0 (pc := 4) hC d_restIs_4 ?_
  refine jg_R_114 (pc := 5) hC d_restIs_5 ?_
  refine j_isub (pc := 8) hC d_restIs_8 ?_
  refine J.topi (y := nI (z - a)) (pk_sub ha) ?_
  refine j_aloadn1 (pc := 9) hC d_restIs_9 ?_
  refine j_Str0 (pc := 10) hC hi rfl cw_R_160 (rmD_in (by decide)) (Nat.le_of_ble_eq_true rfl) d_restIs_10 (c_s_length i hi) (fun r w2 h => ?_)
  obtain ⟨rfl, rfl⟩ := h
  refine j_icmp_eq (pc := 13) hC 18 d_restIs_13 (by decide) (fun h1 => ?_) (fun h1 => ?_)
  · rw [nI_eq (by omega) (by omega)] at h1
    refine j_iconst (pc := 18) (v := 0) hC d_restIs_18 (by decide) ?_
    refine j_istoren2 (pc := 19) hC d_restIs_19 (by decide) (by first | exact trivial | exact rfl) ?_
    exact loop (st_len.getD i 0) 0 (by omega) h1 (fun q hq => absurd hq (by omega))
  · rw [nI_eq (by omega) (by omega)] at h1
    refine j_iconst (pc := 16) (v := 0) hC d_restIs_16 (by decide) ?_
    exact j_zret hC rfl d_restIs_17 ⟨0, rfl, Or.inr ⟨fun q => h1 q.1, rfl⟩, rfl⟩
section LDC
variable {p : Program} {e : Env} {R : Room} {s : State} {m : MethodId} {args : Array Value} {below : List Frame} {meth : Method} {c : Code} {A : Nat → Prop} {nL : Nat} {Q : State → Prop} {pc : Nat} {L : List (Option Value)} {S : List Value} {w : va_W} {cc : ByteArray} {ret : Option FieldType} {tys : List (ClassId × FieldType)} {own : String}
theorem j_ldcS {tx : String} {idx q : Nat} (hC : jC p s m args meth c cc nL ret own D tys A X) (hZ : vk_R own idx tx q s) (hd : decode cc pc = .ok (.ldc idx, 2)) (k : J p l e R s m args below meth c D A nL Q (pc + 2) L (.ref q :: S) w) : J p l e R s m args below meth c D A nL Q pc L S w := fun H locs ls hl hP hD hS => va_ldcS hC.1 hC.2.1 hC.2.2.2.1 hZ hd (k H locs ls hl hP hD hS)
theorem jC_str (hC : jC p s m args meth c cc nL ret own D tys A X) : jR X s := hC.2.2.2.2.2.2.2.2.2.2.2.2.2.2
end LDC
/-- a suffix, or nothing -/
def isSf (t : Nat → Int32) (a z : Nat) : Prop := a = z ∨ isW t a z 2 ∨ isW t a z 3 ∨ isW t a z 4 ∨ isW t a z 5
set_option maxHeartbeats 1000000 in
theorem c_restIsSuffix (a z : Nat) (hz : z ≤ 8192) (ha : a ≤ z) : jM l y_restIsSuffix b_restIsSuffix 1 (some .boolean) (rmD 5) D (tyD ca) X [.ref (g 0)] (wd g ca len (nI a) (nI z) ng fm df dt wg ex hg mo tp lb wo) (jPi fun r w => (isSf tp a z ∧ r = 1 ∨ ¬ isSf tp a z ∧ r = 0) ∧ w = wd g ca len (nI a) (nI z) ng fm df dt wg ex hg mo tp lb wo) := by
  refine jM.of [some (.ref (g 0))] (by simp [jle, jent, Value.category]) rfl (Nat.le_of_ble_eq_true rfl) ?_
  intro p e s m args below meth c sz hC
  have k47 : isSf tp a z → J p l e (rmD 5) s m args below meth c D (va_A (wd g ca len (nI a) (nI z) ng fm df dt wg ex hg mo tp lb wo) sz) 1 (MQ below (jQ D (wd g ca len (nI a) (nI z) ng fm df dt wg ex hg mo tp lb wo) sz (jPi fun r w => (isSf tp a z ∧ r = 1 ∨ ¬ isSf tp a z ∧ r = 0) ∧ w = wd g ca len (nI a) (nI z) ng fm df dt wg ex hg mo tp lb wo)) args s 0 0 (va_A (wd g ca len (nI a) (nI z) ng fm df dt wg ex hg mo tp lb wo) sz)) 47 [some (.ref (g 0))] [] (wd g ca len (nI a) (nI z) ng fm df dt wg ex hg mo tp lb wo) := by
    intro hy
    refine j_iconst (pc := 47) (v := 1) hC d_restIsSuffix_47 (by decide) ?_
    refine j_goto (pc := 48) hC 52 d_restIsSuffix_48 (by decide) ?_
    exact j_zret hC rfl d_restIsSuffix_52 ⟨1, rfl, Or.inl ⟨hy, rfl⟩, rfl⟩
  refine j_aloadn0 (pc := 0) hC d_restIsSuffix_0 ?_
  refine jg_R_114 (pc := 1) hC d_restIsSuffix_1 ?_
  refine j_aloadn0 (pc := 4) hC d_restIsSuffix_4 ?_
  refine jg_R_117 (pc := 5) hC d_restIsSuffix_5 ?_
  refine j_icmp_eq (pc := 8) hC 47 d_restIsSuffix_8 (by decide) (fun h1 => ?_) (fun h1 => ?_)
  · rw [nI_eq (by omega) (by omega)] at h1
    exact k47 (Or.inl h1)
  · rw [nI_eq (by omega) (by omega)] at h1
    refine j_aloadn0 (pc := 11) hC d_restIsSuffix_11 ?_
    refine j_ldcS (pc := 12) hC (jC_str hC).1.2.2.1 d_restIsSuffix_12 ?_
    refine j_V1i (pc := 14) (q0 := 0) (ci := 0) hC cw_R_99 (rmD_in (by decide)) (Nat.le_of_ble_eq_true rfl) rfl rfl d_restIsSuffix_14 (c_restIs 2 a z (by omega) hz ha) (fun r w2 h2 => ?_)
    obtain ⟨h2, rfl⟩ := h2
    rcases h2 with ⟨h2, rfl⟩ | ⟨h2, rfl⟩
    · refine j_if_ne (pc := 17) hC 47 d_restIsSuffix_17 (by decide) (fun q => ?_) (fun q => ?_)
      · exact k47 (Or.inr (Or.inl h2))
      · exact absurd q (by decide)
    · refine j_if_ne (pc := 17) hC 47 d_restIsSuffix_17 (by decide) (fun q => ?_) (fun q => ?_)
      · exact absurd rfl q
      · refine j_aloadn0 (pc := 20) hC d_restIsSuffix_20 ?_
        refine j_ldcS (pc := 21) hC (jC_str hC).1.2.2.2.1 d_restIsSuffix_21 ?_
        refine j_V1i (pc := 23) (q0 := 0) (ci := 0) hC cw_R_99 (rmD_in (by decide)) (Nat.le_of_ble_eq_true rfl) rfl rfl d_restIsSuffix_23 (c_restIs 3 a z (by omega) hz ha) (fun r w2 h3 => ?_)
        obtain ⟨h3, rfl⟩ := h3
        rcases h3 with ⟨h3, rfl⟩ | ⟨h3, rfl⟩
        · refine j_if_ne (pc := 26) hC 47 d_restIsSuffix_26 (by decide) (fun q => ?_) (fun q => ?_)
          · exact k47 (Or.inr (Or.inr (Or.inl h3)))
          · exact absurd q (by decide)
        · refine j_if_ne (pc := 26) hC 47 d_restIsSuffix_26 (by decide) (fun q => ?_) (fun q => ?_)
          · exact absurd rfl q
          · refine j_aloadn0 (pc := 29) hC d_restIsSuffix_29 ?_
            refine j_ldcS (pc := 30) hC (jC_str hC).1.2.2.2.2.1 d_restIsSuffix_30 ?_
            refine j_V1i (pc := 32) (q0 := 0) (ci := 0) hC cw_R_99 (rmD_in (by decide)) (Nat.le_of_ble_eq_true rfl) rfl rfl d_restIsSuffix_32 (c_restIs 4 a z (by omega) hz ha) (fun r w2 h4 => ?_)
            obtain ⟨h4, rfl⟩ := h4
            rcases h4 with ⟨h4, rfl⟩ | ⟨h4, rfl⟩
            · refine j_if_ne (pc := 35) hC 47 d_restIsSuffix_35 (by decide) (fun q => ?_) (fun q => ?_)
              · exact k47 (Or.inr (Or.inr (Or.inr (Or.inl h4))))
              · exact absurd q (by decide)
            · refine j_if_ne (pc := 35) hC 47 d_restIsSuffix_35 (by decide) (fun q => ?_) (fun q => ?_)
              · exact absurd rfl q
              · refine j_aloadn0 (pc := 38) hC d_restIsSuffix_38 ?_
                refine j_ldcS (pc := 39) hC (jC_str hC).1.2.2.2.2.2.1 d_restIsSuffix_39 ?_
                refine j_V1i (pc := 41) (q0 := 0) (ci := 0) hC cw_R_99 (rmD_in (by decide)) (Nat.le_of_ble_eq_true rfl) rfl rfl d_restIsSuffix_41 (c_restIs 5 a z (by omega) hz ha) (fun r w2 h5 => ?_)
                obtain ⟨h5, rfl⟩ := h5
                rcases h5 with ⟨h5, rfl⟩ | ⟨h5, rfl⟩
                · refine j_if_eq (pc := 44) hC 51 d_restIsSuffix_44 (by decide) (fun q => ?_) (fun q => ?_)
                  · exact absurd q (by decide)
                  · exact k47 (Or.inr (Or.inr (Or.inr (Or.inr h5))))
                · refine j_if_eq (pc := 44) hC 51 d_restIsSuffix_44 (by decide) (fun q => ?_) (fun q => ?_)
                  · refine j_iconst (pc := 51) (v := 0) hC d_restIsSuffix_51 (by decide) ?_
                    exact j_zret hC rfl d_restIsSuffix_52 ⟨0, rfl, Or.inr ⟨fun y => y.elim h1 (fun y => y.elim h2 (fun y => y.elim h3 (fun y => y.elim h4 h5))), rfl⟩, rfl⟩
                  · exact absurd rfl q
/-- the text of n bytes: between blanks from a to z; behind a sign from b on -/
def scB (t : Nat → Int32) (n a z b : Nat) (mi : Bool) : Prop := a = ld t 0 n ∧ z = tr t a (n - a) ∧ (mi = true ↔ sgM t a z) ∧ (sgP t a z ∧ b = a + 1 ∨ ¬ sgP t a z ∧ b = a)
/-- a number text of digits from b to z -/
def scN (t : Nat → Int32) (b z : Nat) (hx : Bool) (c0 n1 n2 c2 c3 : Nat) (me : Bool) (c5 n3 c6 : Nat) : Prop := scD t b z hx c0 n1 n2 c2 c3 ∧ 0 < n1 + n2 ∧ scE t c3 z hx true (me = true) c5 n3 c6 ∧ isSf t c6 z
def scNum (t : Nat → Int32) (b z : Nat) : Prop := ∃ (hx : Bool) (c0 n1 n2 c2 c3 : Nat) (me : Bool) (c5 n3 c6 : Nat), scN t b z hx c0 n1 n2 c2 c3 me c5 n3 c6
theorem scE_le {t : Nat → Int32} {c3 z : Nat} {hx ok : Bool} {mi : Prop} {c5 n3 c6 : Nat} (hz : c3 ≤ z) (h : scE t c3 z hx ok mi c5 n3 c6) : c6 ≤ z ∧ c6 = c5 + n3 := by
  rcases h with ⟨-, -, -, h1, h2, h3⟩ | ⟨h0, -, h2, h3, h4, -⟩
  · omega
  · have hr := rn_le t 10 (z - c5) c5
    have hlt : c3 < z := by rcases h0 with q | q <;> exact q.1
    rcases h2 with ⟨q, e⟩ | ⟨q, e⟩
    · have : c3 + 1 < z := by rcases q with q | q <;> exact q.1
      omega
    · omega
end SW

