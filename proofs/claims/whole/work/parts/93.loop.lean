/-! THE LAW: its loop -/
theorem and3 (x : Int32) : ∃ j : Nat, j < 4 ∧ x &&& 3 = nI j := by
  refine ⟨(x &&& 3).toBitVec.toNat, ?_, ?_⟩
  · have h : (x &&& 3).toBitVec.toNat = x.toBitVec.toNat &&& 3 := by
      rw [Int32.toBitVec_and, BitVec.toNat_and]
      rfl
    rw [h]
    exact Nat.and_lt_two_pow _ (n := 2) (by decide)
  · exact (nI_un (x &&& 3)).symm
section LO
variable {l : Launch} {D : va_G} {X : jX} {g : Nat → Nat} {ca : Nat → ClassId} {p : Program} {e : Env} {s : State} {m : MethodId} {args : Array Value} {below : List Frame} {meth : Method} {c : Code} {Q : State → Prop} {R : Room}
set_option maxHeartbeats 4000000 in
theorem law_loop (hl : l.stackTraces = false) (hC : jC p s m args meth c b_l_law 8 (some .boolean) "DecimalReaderLaw" D (tyL ca) (fun q => s.heap.size ≤ q) X) (hW : jW s) {b N : Nat} {xs : Nat → Int32} (hX : va_X b N xs s s.heap) (hbl : b < s.heap.size) (hN : N ≤ 3072) (K0 S0 : Nat) (hR : 11 ≤ R.frames ∧ 440 ≤ R.locals) (hcs : K0 + 513 ≤ R.cells ∧ S0 + 3078 ≤ R.slots)
    (hend : ∀ (kc ks : Nat) (L : List (Option Value)) (w : va_W), kc ≤ K0 + 513 → ks ≤ S0 + 3078 → JC p l e R s m args below meth c D (fun q => s.heap.size ≤ q) 8 Q kc ks 321 L [] w) :
    ∀ (d k n : Nat) (tp : Nat → Int32) (w : va_W) (o5 o6 o7 : Option Value), 6 * k ≤ N → N < 6 * k + 6 * d + 6 → n ≤ 8192 → lwW g ca n tp w → JC p l e R s m args below meth c D (fun q => s.heap.size ≤ q) 8 Q (K0 + k) (S0 + 6 * k) 23 [some (.ref b), some (.ref (g 0)), some (.ref (g 10)), some (.ref (g 20)), some (.int (nI (6 * k))), o5, o6, o7] [] w := by
  have hbA : ¬ (fun q => s.heap.size ≤ q) b := fun h => absurd h (Nat.not_le.mpr hbl)
  have eN : (nI N - 6).toInt = (N : Int) - 6 := pk_sub_toInt (b := 6) (by omega) (by omega)
  intro d
  induction d with
  | zero =>
    intro k n tp w o5 o6 o7 hk hd hn hw
    refine k_iload4 (pc := 23) hC d_l_law_23 ?_
    refine k_aloadn0 (pc := 25) hC d_l_law_25 ?_
    refine k_slen (pc := 26) hC hX hbl hbA d_l_law_26 ?_
    refine k_bipush (pc := 27) (v := 6) hC d_l_law_27 (by decide) ?_
    refine k_isub (pc := 29) hC d_l_law_29 ?_
    refine k_icmp_gt (pc := 30) hC 321 d_l_law_30 (by decide) (fun q => hend _ _ _ _ (by omega) (by omega)) (fun q => absurd ?_ q)
    rw [i32lt, show (Int32.ofNat N - 6).toInt = (N : Int) - 6 from eN, nI_toInt (by omega)]
    omega
  | succ d ih =>
    intro k n tp w o5 o6 o7 hk hd hn hw
    refine k_iload4 (pc := 23) hC d_l_law_23 ?_
    refine k_aloadn0 (pc := 25) hC d_l_law_25 ?_
    refine k_slen (pc := 26) hC hX hbl hbA d_l_law_26 ?_
    refine k_bipush (pc := 27) (v := 6) hC d_l_law_27 (by decide) ?_
    refine k_isub (pc := 29) hC d_l_law_29 ?_
    refine k_icmp_gt (pc := 30) hC 321 d_l_law_30 (by decide) (fun q => hend _ _ _ _ (by omega) (by omega)) (fun q => ?_)
    rw [i32lt, show (Int32.ofNat N - 6).toInt = (N : Int) - 6 from eN, nI_toInt (by omega)] at q
    have k315 : ∀ (n' : Nat) (tp' : Nat → Int32) (w' : va_W) (o5 o6 o7 : Option Value), n' ≤ 8192 → lwW g ca n' tp' w' → JC p l e R s m args below meth c D (fun q => s.heap.size ≤ q) 8 Q (K0 + k + 1) (S0 + 6 * k + 6) 315 [some (.ref b), some (.ref (g 0)), some (.ref (g 10)), some (.ref (g 20)), some (.int (nI (6 * k))), o5, o6, o7] [] w' := by
      intro n' tp' w' o5 o6 o7 hn' hw'
      refine k_iinc4 (pc := 315) hC d_l_law_315 (by decide) (by first | exact trivial | exact rfl) ?_
      refine k_goto (pc := 318) hC 23 d_l_law_318 (by decide) ?_
      have h := ih (k + 1) n' tp' w' o5 o6 o7 (by omega) (by omega) hn' hw'
      rw [show 6 * (k + 1) = 6 * k + 6 by omega, ← nI_add] at h
      exact h
    refine k_aloadn0 (pc := 33) hC d_l_law_33 ?_
    refine k_iload4 (pc := 34) hC d_l_law_34 ?_
    refine k_sld (pc := 36) hC hX hbl hbA (vp_in_nI (by omega) (by omega)) d_l_law_36 ?_
    refine k_iconst (pc := 37) (v := 3) hC d_l_law_37 (by decide) ?_
    refine k_iand (pc := 38) hC d_l_law_38 ?_
    obtain ⟨j, hj, hjx⟩ := and3 (xs (nI (6 * k)).toNatClampNeg)
    rw [hjx]
    rcases (show j = 0 ∨ j = 1 ∨ j = 2 ∨ j = 3 by omega) with rfl | rfl | rfl | rfl
    · exact k_table (pc := 39) 68 hC d_l_law_39 (by decide) (by decide) rfl (by decide) (law_feed hl hC hW hX hbl (by omega) hN hR (by omega) n hn tp w hw o5 o6 o7 (fun n' tp' w' a5 a6 => k315 n' tp' w' a5 a6 o7))
    · exact k_table (pc := 39) 172 hC d_l_law_39 (by decide) (by decide) rfl (by decide) (law_end hl hC hW hX hbl (by omega) hN hR (by omega) n hn tp w hw o5 o6 o7 (fun n' tp' w' a5 a6 => k315 n' tp' w' a5 a6 o7))
    · exact k_table (pc := 39) 228 hC d_l_law_39 (by decide) (by decide) rfl (by decide) (law_parse hl hC hW hR (by omega) n hn tp w hw o5 o6 o7 k315)
    · exact k_table (pc := 39) 271 hC d_l_law_39 (by decide) (by decide) rfl (by decide) (law_parseFloat hl hC hW hR (by omega) n hn tp w hw o5 o6 o7 k315)
end LO
