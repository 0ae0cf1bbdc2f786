/-! THE LAW: from its entry -/
section LE
variable {l : Launch} {D : va_G} {X : jX} {p : Program} {e : Env} {s : State} {m : MethodId} {args : Array Value} {below : List Frame} {meth : Method} {c : Code} {Q : State → Prop} {R : Room}
set_option maxHeartbeats 4000000 in
theorem law_entry (hl : l.stackTraces = false) (hC : jC p s m args meth c b_l_law 8 (some .boolean) "DecimalReaderLaw" D [] (fun q => s.heap.size ≤ q) X) (hW : jW s) (hns : nsW s) {b N : Nat} {xs : Nat → Int32} (hX : va_X b N xs s s.heap) (hbl : b < s.heap.size) (hN : N ≤ 3072) (hR : 11 ≤ R.frames ∧ 440 ≤ R.locals) (hcs : 529 ≤ R.cells ∧ 30688 ≤ R.slots)
    (hend : ∀ (kc ks : Nat) (L : List (Option Value)) (w : va_W), kc ≤ 529 → ks ≤ 30688 → ∀ (tys : List (ClassId × FieldType)), jC p s m args meth c b_l_law 8 (some .boolean) "DecimalReaderLaw" D tys (fun q => s.heap.size ≤ q) X → JC p l e R s m args below meth c D (fun q => s.heap.size ≤ q) 8 Q kc ks 321 L [] w) :
    JC p l e R s m args below meth c D (fun q => s.heap.size ≤ q) 8 Q 0 0 0 [some (.ref b), none, none, none, none, none, none, none] [] [] := by
  refine k_new (pc := 0) (ci := 0) hC i_DecimalReader t_DecimalReader t_DecimalReader_ok nc_d.1 nc_d.2.1 nc_d.2.2 rfl df_d (by omega) (by omega) d_l_law_0 (fun x => ?_)
  refine k_dup (pc := 3) hC d_l_law_3 rfl ?_
  refine k_callI (mc := 6) (ms := 8432) (pc := 4) (As := []) _ hC cw_L_31 im_d rfl ⟨rfl, rfl, by show 4 + 1 ≤ R.frames; omega, by show 8 + (1 + 11) + 160 ≤ R.locals; omega⟩ rfl (Nat.le_of_ble_eq_true rfl) d_l_law_4 (c_init x) ⟨by omega, by omega⟩ (fun u hu hC => ?_)
  obtain ⟨k1, k2, v, d1, d2, t, c1, c2, ct, rfl⟩ := hu
  refine k_astoren1 (pc := 7) hC d_l_law_7 (by decide) (by first | exact trivial | exact rfl) ?_
  refine k_new (pc := 8) (ci := 3) hC i_Model t_Model t_Model_ok nc_m.1 nc_m.2.1 nc_m.2.2 rfl df_m (by omega) (by omega) d_l_law_8 (fun mq => ?_)
  refine k_dup (pc := 11) hC d_l_law_11 rfl ?_
  refine k_callIM (mc := 7) (ms := 19150) (pc := 12) (As := []) _ hC hns cw_L_34 im_m rfl ⟨rfl, rfl, by show 4 + 1 ≤ R.frames; omega, by show 8 + (1 + 11) + 160 ≤ R.locals; omega⟩ rfl (Nat.le_of_ble_eq_true rfl) d_l_law_12 (c_m_init mq) ⟨by omega, by omega⟩ (fun u hu hC => ?_)
  obtain ⟨t2, lq, r1, e1, r2, e2, dq, ct2, cl, ce1, ce2, cd, rfl⟩ := hu
  refine k_astoren2 (pc := 15) hC d_l_law_15 (by decide) (by first | exact trivial | exact rfl) ?_
  refine k_iconst (pc := 16) (v := 1) hC d_l_law_16 (by decide) ?_
  refine k_newa (pc := 17) (atype := .long) (ty := .long) (N' := 1) (a0 := (1, .inr (.inl (fun _ => 0)))) hC ar_l rfl (fun _ => rfl) (by decide) rfl (by decide) (by omega) (by omega) d_l_law_17 (fun oq co hC => ?_)
  refine k_astoren3 (pc := 19) hC d_l_law_19 (by decide) (by first | exact trivial | exact rfl) ?_
  refine k_iconst (pc := 20) (v := 0) hC d_l_law_20 (by decide) ?_
  refine k_istore4 (pc := 21) hC d_l_law_21 (by decide) (by first | exact trivial | exact rfl) ?_
  have hC9 : jC p s m args meth c b_l_law 8 (some .boolean) "DecimalReaderLaw" D (tyL (fun i => match i with | 0 => ct | 1 => c1 | 2 => c2 | 3 => ct2 | 4 => cl | 5 => cd | 6 => ce1 | 7 => ce2 | 8 => co | _ => c1)) (fun q => s.heap.size ≤ q) X := hC.types (fr_K (by
    intro y hy
    simp [tyL, tyD, tyM] at hy ⊢
    rcases hy with h | h | h | h | h | h | h | h | h | h <;> simp [h]) hC.2.2.2.2.2.1)
  refine JC.perm [7, 8, 9, 10, 11, 12, 13, 14, 0, 1, 2, 3, 4, 5, 6, 15] rfl (by decide) rfl ?_
  exact law_loop (g := fun i => match i with | 0 => x | 1 => k1 | 2 => k2 | 3 => v | 4 => t | 5 => d1 | 6 => d2 | 10 => mq | 11 => t2 | 12 => lq | 13 => r1 | 14 => r2 | 15 => dq | 16 => e1 | 17 => e2 | 20 => oq | _ => 0) hl hC9 hW hX hbl hN 16 27610 hR (by omega) (fun kc ks L w h1 h2 => hend kc ks L w h1 h2 _ hC9) 512 0 0 (fun _ => 0) _ none none none (by omega) (by omega) (by omega) ⟨_, _, _, _, _, _, _, _, _, _, _, _, _, _, _, _, _, _, _, _, _, _, _, _, _, _, _, _, _, rfl⟩
end LE
