/-! THE LAW: its calls -/
theorem jMH.frame {l : Launch} {y : MethodName} {cc : ByteArray} {nL : Nat} {hh : List (Nat × Nat × Nat × Nat)} {rm : Room} {D : va_G} {tys tys1 : List (ClassId × FieldType)} {X : jX} {av : List Value} {w1 : va_W} {post : Int32 → va_W → Prop} (a b : va_W) (hs : ∀ x, x ∈ tys1 → x ∈ tys) (hM : jMH l y cc nL hh rm D tys1 X av w1 post) : jMH l y cc nL hh rm D tys X av (a ++ (w1 ++ b)) (fun v w' => ∃ u, post v u ∧ w' = a ++ (u ++ b)) := by
  intro sz
  refine MetFree.mono (hM sz) (fun _ _ h => ⟨h.1, fr_pre hs h.2.1, h.2.2⟩) (fun _ _ _ _ _ h => h) (fun _ st o t h hq => ?_)
  obtain ⟨⟨⟨v, u, h1, h2, h3, h4⟩, hF⟩, L, h5, h6⟩ := hq
  have hb := fr_post h.2.1 hF h3 h4
  exact ⟨⟨⟨v, _, h1, ⟨u, h2, rfl⟩, hb.1, hb.2⟩, fr_F hF⟩, L, h5, fun q hq => fr_A (h6 q hq)⟩
section LK
variable {p : Program} {l : Launch} {e : Env} {R : Room} {s : State} {m : MethodId} {args : Array Value} {below : List Frame} {meth : Method} {c : Code} {D : va_G} {A : Nat → Prop} {nL : Nat} {Q : State → Prop} {pc : Nat} {L : List (Option Value)} {S : List Value} {w : va_W} {kc ks : Nat}
variable {cc : ByteArray} {own : String} {tys : List (ClassId × FieldType)} {X : jX} {ret : Option FieldType}
variable {y : MethodName} {bytes : ByteArray} {maxL idx n : Nat} {rm : Room} {As : List Value}
theorem k_callH {hh : List (Nat × Nat × Nat × Nat)} {post : Int32 → va_W → Prop} (hC : jC p s m args meth c cc nL ret own D tys A X) (hW : jW s) (h1 : Cond.codeWith y bytes maxL (some .int) hh ∈ al_ws) (h2 : Cond.initialized y.cls ∈ al_ws) (h3 : Cond.methodLink own idx y ∈ al_ws) (h4 : Cond.static y ∈ al_ws) (h5 : y.cls ≠ "java/lang/invoke/MethodHandle" ∧ y.cls ≠ "java/lang/invoke/VarHandle") (h6 : (parseMethodDescriptor y.desc).map (fun d => d.parameters.length) = some n) (hR : jroomX rm R maxL) (hn : As.length = n) (hroom : (S.map fun v => v.category).sum ≤ 8) (hd : decode cc pc = .ok (.invokestatic idx, 3))
    (hM : jMH l y bytes maxL hh rm D tys X As w post) (hcs : kc + 1 ≤ R.cells ∧ ks + 6 ≤ R.slots)
    (kk : ∀ (r : Int32) (w' : va_W), post r w' → JC p l e R s m args below meth c D A nL Q (kc + 1) (ks + 6) (pc + 3) L (.int r :: S) w') : JC p l e R s m args below meth c D A nL Q kc ks pc L (As.reverse ++ S) w := by
  intro H locs ls hl hP hD hS
  have hts := hC.2.2.2.2.1
  have hF := j_free hC hD hS
  have hG : GoodIn al_ws (Cond.codeWith y bytes maxL (some .int) hh :: al_ws) := fun x hx => by
    rcases List.mem_cons.mp hx with h | h
    · rw [h]
      exact al_good _ h1
    · exact al_good _ h
  have run := vx_runSW (p := p) (l := l) (e := e) (R := R) (s := s) (m := m) (args := args) (below := below) (meth := meth) (c := c) (H := H) (locs := locs) (cells := kc) (slots := ks) (As := As) (rest := S) (bytes := bytes) (maxL := maxL) (n := n) (g := F0 m pc ls (As.reverse ++ S)) ⟨hC.1, hC.2.1, hC.2.2.1, hC.2.2.2.1, hts⟩ (hM H.size) ⟨⟨hR.1, hR.2.1, hR.2.2.1, hR.2.2.2, pay_in hts hG, List.mem_cons_self⟩, hts _ h1, hts _ h2, h5, fun sig h => by
      rw [h] at h6
      exact (Option.some.inj h6).symm, hts _ h3, hts _ h4⟩ ⟨k_blind, k_pre (av := As) hC hW hP hD hS⟩ rfl hn hl.1 rfl (lv_room hroom) hd hcs
  refine va_calli run hS (fun q _ h => hF q h) hF (fun r u t H1 locs1 h1 _ hp hB _ _ hS1 => ?_)
  exact kk r u hp H1 locs1 ls hl (by rw [← h1]; exact hB.1) (hB.2.weaken fun _ q _ h => hF q.1 h) hS1
theorem k_callV {ret' : Option FieldType} {post : Option Value → va_W → Prop} {b : Nat} {q0 ci : Nat} {fs : List Value} {T : u_T} {N : Nat} (hC : jC p s m args meth c cc nL ret own D tys A X) (hw : jwV own idx y bytes maxL ret' n) (hR : jroom rm R maxL) (hn : As.length = n) (hroom : (S.map fun v => v.category).sum ≤ 8) (hc : classes[ci]? = some (y.cls, T, N)) (he : w[q0]? = some (b, .inr (ci, fs))) (hd : decode cc pc = .ok (.invokevirtual idx, 3)) (hcs : kc ≤ R.cells ∧ ks ≤ R.slots)
    (hM : jM l y bytes maxL ret' rm D tys X (.ref b :: As) w post)
    (kk : ∀ (v : Option Value) (w' : va_W), post v w' → JC p l e R s m args below meth c D A nL Q kc ks (pc + 3) L (v.toList ++ S) w') : JC p l e R s m args below meth c D A nL Q kc ks pc L (As.reverse ++ .ref b :: S) w := by
  intro H locs ls hl hP hD hS
  have hts := hC.2.2.2.2.1
  have hF := j_free hC hD hS
  have run := va_runV (p := p) (l := l) (e := e) (R := R) (s := s) (m := m) (args := args) (below := below) (meth := meth) (c := c) (H := H) (locs := locs) (cells := kc) (slots := ks) (As := As) (rest := S) (C := y.cls) (b := b) (g := F0 m pc ls (As.reverse ++ .ref b :: S)) ⟨hC.1, hC.2.1, hC.2.2.1, hC.2.2.2.1, hts⟩ (hM H.size) ⟨j_callB hC hw.1 hR, hts _ hw.2.1, hts _ hw.2.2⟩ ⟨j_blind, va_recv hC.2.2.2.2.2.1 hP (ci := ci) (q0 := q0) hc he, j_pre (av := .ref b :: As) hC hP hD hS⟩ rfl hn hl.1 rfl (lv_room hroom) hd hcs
  intro T' hT X'
  obtain ⟨v, st₀, t, T2, Lc, h0, X1, hLc, e1, e2, ⟨⟨v', w', hv, hp, hP', hD'⟩, hz, hk⟩, st⟩ := run T' hT X'
  cases hv
  rw [h0] at hz hk
  obtain ⟨t2, a1, b1⟩ := kk v w' hp T2.heap (locs ++ Lc) ls hl (by rw [e1]; exact hP') (hD'.weaken fun _ q _ h => hF q.1 h)
    ⟨Nat.le_trans hS.1 (by rw [e1]; exact hz), fun q h1 h2 => by rw [e1, hk q (Nat.lt_of_lt_of_le h1 hS.1) (fun z => h2 (hF q z))]; exact hS.2.1 q h1 h2, fun q hq => by
      rcases List.mem_append.mp hq with h | h
      · exact hS.2.2 q h
      · exact hF _ (hLc q h)⟩ T2 rfl X1
  exact ⟨t2, st t2 a1, b1⟩
end LK
