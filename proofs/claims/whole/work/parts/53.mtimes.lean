/-! THE REFERENCE: its limbs -/
/-- the first n limbs, of nine digits each, make the number V -/
def mlb (lm : Nat → Int64) (n V : Nat) : Prop := ∃ f : Nat → Nat, (∀ i, i < n → lm i = lN (f i)) ∧ (∀ i, i < n → f i < 1000000000) ∧ le 1000000000 f n = V
theorem updL_at (f : Nat → Int64) (i : Nat) (x : Int64) : vp_updL f i x i = x := by unfold vp_updL; simp
theorem updL_ne {f : Nat → Int64} {i j : Nat} {x : Int64} (h : j ≠ i) : vp_updL f i x j = f j := by unfold vp_updL; simp [h]
section MT
variable {l : Launch} {D : va_G} {X : jX} {g : Nat → Nat} {ca : Nat → ClassId} {td cd bi ls us dc : Int32} {pt : Int64} {ps sp en ep hn hp : Int32} {tp : Nat → Int32} {lm : Nat → Int64} {dd xd yd : Nat → Int32}
set_option maxHeartbeats 1000000 in
theorem c_m_times (n T V : Nat) (hN : n < 160) (hT0 : 0 < T) (hT : T ≤ 536870912) (hV : mlb lm n V) : jM l y_m_times b_m_times 6 none (rmD 0) D (tyM ca) X [.ref (g 10), .long (lN T)] (wm g ca td cd bi ls (nI n) dc pt ps sp en ep hn hp tp lm dd xd yd) (jPv fun w => ∃ (n' : Nat) (lm' : Nat → Int64), n' ≤ n + 1 ∧ mlb lm' n' (T * V) ∧ w = wm g ca td cd bi ls (nI n') dc pt ps sp en ep hn hp tp (lm') dd xd yd) := by
  refine jM.of [some (.ref (g 10)), some (.long (lN T)), none, none, none, none] (by simp [jle, jent, Value.category]) rfl (Nat.le_of_ble_eq_true rfl) ?_
  intro p e s m args below meth c sz hC
  obtain ⟨f, hf, hb, hV⟩ := hV
  have loop : ∀ (d k : Nat) (lm2 : Nat → Int64), k + d = n → (∀ i, i < n → lm2 i = lN (tmF 1000000000 T f k i)) → J p l e (rmD 0) s m args below meth c D (va_A (wm g ca td cd bi ls (nI n) dc pt ps sp en ep hn hp tp lm dd xd yd) sz) 6 (MQ below (jQ D (wm g ca td cd bi ls (nI n) dc pt ps sp en ep hn hp tp lm dd xd yd) sz (jPv fun w => ∃ (n' : Nat) (lm' : Nat → Int64), n' ≤ n + 1 ∧ mlb lm' n' (T * V) ∧ w = wm g ca td cd bi ls (nI n') dc pt ps sp en ep hn hp tp (lm') dd xd yd)) args s 0 0 (va_A (wm g ca td cd bi ls (nI n) dc pt ps sp en ep hn hp tp lm dd xd yd) sz)) 5 [some (.ref (g 10)), some (.long (lN T)), none, some (.long (lN (tmC 1000000000 T f k))), none, some (.int (nI k))] [] (wm g ca td cd bi ls (nI n) dc pt ps sp en ep hn hp tp (lm2) dd xd yd) := by
    intro d
    induction d with
    | zero =>
      intro k lm2 hk h2
      have hkn : k = n := by omega
      subst hkn
      have hc := tmC_lt (B := 1000000000) (T := T) (f := f) (by omega) hT0 (k := k) hb
      have hs := tm_sum (B := 1000000000) (T := T) (f := f) k
      rw [hV] at hs
      have hlt : ∀ i, i < k → tmF 1000000000 T f k i < 1000000000 := by
        intro i hi
        unfold tmF
        rw [if_pos hi]
        exact Nat.mod_lt _ (by omega)
      refine j_iload5 (pc := 5) hC d_m_times_5 ?_
      refine j_aloadn0 (pc := 7) hC d_m_times_7 ?_
      refine jg_M_66 (pc := 8) hC d_m_times_8 ?_
      refine j_icmp_ge (pc := 11) hC 50 d_m_times_11 (by decide) (fun h1 => ?_) (fun h1 => ?_)
      · refine j_lloadn3 (pc := 50) hC d_m_times_50 ?_
        refine j_lconst (pc := 51) (v := 0) hC d_m_times_51 (by decide) ?_
        refine j_lcmp (pc := 52) hC d_m_times_52 ?_
        refine j_if_le (pc := 53) hC 76 d_m_times_53 (by decide) (fun h3 => ?_) (fun h3 => ?_)
        · have h3 := (lg_cmp_le _ _).mp h3
          have h3 := (pk_lLE (b := 0) (by omega) (by omega)).mp h3
          refine j_vret hC d_m_times_76 ⟨rfl, k, lm2, by omega, ⟨tmF 1000000000 T f k, h2, hlt, ?_⟩, rfl⟩
          rw [show tmC 1000000000 T f k = 0 by omega] at hs
          omega
        · have h3 : ¬ tmC 1000000000 T f k ≤ 0 := fun y => h3 ((lg_cmp_le _ _).mpr ((pk_lLE (b := 0) (by omega) (by omega)).mpr y))
          refine j_aloadn0 (pc := 56) hC d_m_times_56 ?_
          refine jg_M_13 (pc := 57) hC d_m_times_57 ?_
          refine j_aloadn0 (pc := 60) hC d_m_times_60 ?_
          refine jg_M_66 (pc := 61) hC d_m_times_61 ?_
          refine j_lloadn3 (pc := 64) hC d_m_times_64 ?_
          refine ja_mlimbs_lastore (pc := 65) hC (vp_in_nI (by omega) (by decide)) d_m_times_65 ?_
          refine j_aloadn0 (pc := 66) hC d_m_times_66 ?_
          refine j_dup (pc := 67) hC d_m_times_67 rfl ?_
          refine jg_M_66 (pc := 68) hC d_m_times_68 ?_
          refine j_iconst (pc := 71) (v := 1) hC d_m_times_71 (by decide) ?_
          refine j_iadd (pc := 72) hC d_m_times_72 ?_
          refine jp_M_66 (pc := 73) hC d_m_times_73 ?_
          refine j_vret hC d_m_times_76 ⟨rfl, k + 1, _, by omega, ⟨nup (tmF 1000000000 T f k) k (tmC 1000000000 T f k), ?_, ?_, ?_⟩, by rw [nI_1, nI_clamp (by omega)]⟩
          · intro i hi
            by_cases hik : i = k
            · rw [hik, updL_at]
              unfold nup
              rw [if_pos rfl]
            · rw [updL_ne hik]
              unfold nup
              rw [if_neg hik]
              exact h2 i (by omega)
          · intro i hi
            unfold nup
            split
            · omega
            · exact hlt i (by omega)
          · rw [← hs]
            have e : le 1000000000 (nup (tmF 1000000000 T f k) k (tmC 1000000000 T f k)) k = le 1000000000 (tmF 1000000000 T f k) k := le_congr (fun i hi => by
              unfold nup
              rw [if_neg (by omega)])
            show le 1000000000 _ k + _ = _
            rw [e]
            unfold nup
            rw [if_pos rfl]
      · rw [nI_leI (by omega) (by omega)] at h1
        omega
    | succ d ih =>
      intro k lm2 hk h2
      have hc := tmC_lt (B := 1000000000) (T := T) (f := f) (by omega) hT0 (k := k) (fun i hi => hb i (by omega))
      have hfk := hb k (by omega)
      have hmul : f k * T ≤ 1000000000 * 536870912 := Nat.mul_le_mul (by omega) hT
      have hcl : (nI k).toNatClampNeg = k := nI_clamp (by omega)
      have e0 : lm2 k = lN (f k) := by
        rw [h2 k (by omega)]
        unfold tmF
        rw [if_neg (by omega)]
      refine j_iload5 (pc := 5) hC d_m_times_5 ?_
      refine j_aloadn0 (pc := 7) hC d_m_times_7 ?_
      refine jg_M_66 (pc := 8) hC d_m_times_8 ?_
      refine j_icmp_ge (pc := 11) hC 50 d_m_times_11 (by decide) (fun h1 => ?_) (fun h1 => ?_)
      · rw [nI_leI (by omega) (by omega)] at h1
        omega
      · refine j_lloadn3 (pc := 14) hC d_m_times_14 ?_
        refine j_aloadn0 (pc := 15) hC d_m_times_15 ?_
        refine jg_M_13 (pc := 16) hC d_m_times_16 ?_
        refine j_iload5 (pc := 19) hC d_m_times_19 ?_
        refine ja_mlimbs_laload (pc := 21) hC (vp_in_nI (by omega) (by decide)) d_m_times_21 ?_
        refine j_lloadn1 (pc := 22) hC d_m_times_22 ?_
        refine j_lmul (pc := 23) hC d_m_times_23 ?_
        refine j_ladd (pc := 24) hC d_m_times_24 ?_
        refine J.topl (y := lN (tmC 1000000000 T f k + f k * T)) (by rw [hcl, e0, lN_mul, lN_add]) ?_
        refine j_lstoren3 (pc := 25) hC d_m_times_25 (by decide) (by first | exact trivial | exact rfl) ?_
        refine j_aloadn0 (pc := 26) hC d_m_times_26 ?_
        refine jg_M_13 (pc := 27) hC d_m_times_27 ?_
        refine j_iload5 (pc := 30) hC d_m_times_30 ?_
        refine j_lloadn3 (pc := 32) hC d_m_times_32 ?_
        refine j_ldc2 (pc := 33) (v := 1000000000) hC mk_M_69 d_m_times_33 ?_
        refine j_lrem (pc := 36) hC d_m_times_36 (by decide) ?_
        refine J.topl (y := lN ((tmC 1000000000 T f k + f k * T) % 1000000000)) (pk_lRem (b := 1000000000) (by omega) (by omega) (by omega)) ?_
        refine ja_mlimbs_lastore (pc := 37) hC (vp_in_nI (by omega) (by decide)) d_m_times_37 ?_
        refine j_lloadn3 (pc := 38) hC d_m_times_38 ?_
        refine j_ldc2 (pc := 39) (v := 1000000000) hC mk_M_69 d_m_times_39 ?_
        refine j_ldiv (pc := 42) hC d_m_times_42 (by decide) ?_
        refine J.topl (y := lN ((tmC 1000000000 T f k + f k * T) / 1000000000)) (pk_lDiv (b := 1000000000) (by omega) (by omega) (by omega)) ?_
        refine j_lstoren3 (pc := 43) hC d_m_times_43 (by decide) (by first | exact trivial | exact rfl) ?_
        refine j_iinc5 (pc := 44) hC d_m_times_44 (by decide) (by first | exact trivial | exact rfl) ?_
        refine j_goto (pc := 47) hC 5 d_m_times_47 (by decide) ?_
        refine J.to rfl ?_ rfl rfl (ih (k + 1) _ (by omega) (fun i hi => ?_))
        · rw [← nI_1]
          rfl
        · rw [tmF_succ, hcl]
          unfold nup
          by_cases hik : i = k
          · rw [hik, updL_at, if_pos rfl]
          · rw [updL_ne hik, if_neg hik]
            exact h2 i hi
  refine j_lconst (pc := 0) (v := 0) hC d_m_times_0 (by decide) ?_
  refine j_lstoren3 (pc := 1) hC d_m_times_1 (by decide) (by first | exact trivial | exact rfl) ?_
  refine j_iconst (pc := 2) (v := 0) hC d_m_times_2 (by decide) ?_
  refine j_istore5 (pc := 3) hC d_m_times_3 (by decide) (by first | exact trivial | exact rfl) ?_
  refine J.to rfl rfl rfl rfl (loop n 0 lm (by omega) (fun i hi => ?_))
  rw [tmF_0]
  exact hf i hi
end MT

