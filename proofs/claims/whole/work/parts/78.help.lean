/-! THE LAW'S HELPERS: methods with one handler -/
theorem jW.same {u U : State} (h : u.vm = U.vm) (hw : jW u) : jW U := ⟨hw.1.same rfl h, hw.2.1.same rfl h, hw.2.2.1.same rfl h, hw.2.2.2.1.same rfl h, hw.2.2.2.2.1.same rfl h, hw.2.2.2.2.2.same rfl h⟩
def jMH (l : Launch) (y : MethodName) (cc : ByteArray) (nL : Nat) (hh : List (Nat × Nat × Nat × Nat)) (rm : Room) (D : va_G) (tys : List (ClassId × FieldType)) (X : jX) (av : List Value) (w : va_W) (post : Int32 → va_W → Prop) : Prop :=
  ∀ sz : Nat, Met l y (Cond.codeWith y cc nL (some .int) hh :: al_ws) rm (va_Pc av (jPX D tys X w sz)) (va_Qi post (jBu D w sz) (va_A w sz)) 1 6 (va_A w sz)
theorem jMH.of {l : Launch} {y : MethodName} {cc : ByteArray} {nL : Nat} {hh : List (Nat × Nat × Nat × Nat)} {rm : Room} {D : va_G} {tys : List (ClassId × FieldType)} {X : jX} {av : List Value} {w : va_W} {post : Int32 → va_W → Prop} (L : List (Option Value)) (hL : jle L (jent av)) (hy : plainName y.cls = true) (hn : (lg_sl av).length ≤ nL)
    (body : ∀ (p : Program) (e : Env) (s : State) (m : MethodId) (args : Array Value) (below : List Frame) (meth : Method) (c : Code) (sz : Nat), jC p s m args meth c cc nL (some .int) y.cls D tys (va_A w sz) X → jW s → c.exceptionTable.toList = tableOf hh →
      JC p l e rm s m args below meth c D (va_A w sz) nL (MQ below (va_Qi post (jBu D w sz) (va_A w sz)) args s 1 6 (va_A w sz)) 0 0 0 L [] w) : jMH l y cc nL hh rm D tys X av w post := by
  intro sz
  refine va_MetW (cc := cc) (maxL := nL) (ret := some .int) (hh := hh) hy rfl ?_
  intro p e s m args below meth c s₁ B hml hv
  obtain ⟨rfl, ⟨hsz, hP, hK, hD0, hE⟩, hw⟩ := hv
  have hts := atoms_spec (ws := Cond.codeWith y cc nL (some .int) hh :: al_ws) B.pre
  have hD := hD0.self (sz := sz)
  have hA : ∀ q : Nat, s.heap.size ≤ q → va_A w sz q := fun q h => Or.inr (by rw [← hsz]; exact h)
  have hl := jl_entry av hn
  rw [lg_entry_eq]
  exact body p e s m av.toArray below meth c sz ⟨B.exec, B.bytes, hml, findClass_of_methodNamed B.named, fun w h => hts w (List.mem_cons_of_mem _ h), hK, hA, B.returns, B.notSynchronized, hE⟩ hw (vx_table (x := y) B (hts _ List.mem_cons_self)) s.heap [] _ (jl_weak hl (jle_at L _ hL)) hP hD va_S.rf
section HX
variable {p : Program} {l : Launch} {e : Env} {R : Room} {s : State} {m : MethodId} {args : Array Value} {below : List Frame} {meth : Method} {c : Code} {D : va_G} {A : Nat → Prop} {nL : Nat} {Q : State → Prop} {pc : Nat} {L : List (Option Value)} {S : List Value} {w w0 : va_W} {sz kc ks : Nat}
variable {cc : ByteArray} {own : String} {tys : List (ClassId × FieldType)} {X : jX} {E : String} {pX : va_W → Prop} {ret : Option FieldType}
theorem k_iretH {post : Int32 → va_W → Prop} {v : Int32} (hC : jC p s m args meth c cc nL (some .int) own D tys (va_A w0 sz) X) (h1 : kc ≤ 1) (h2 : ks ≤ 6) (hd : decode cc pc = .ok (.ireturn, 1)) (hp : post v w) : JC p l e R s m args below meth c D (va_A w0 sz) nL (MQ below (va_Qi post (jBu D w0 sz) (va_A w0 sz)) args s 1 6 (va_A w0 sz)) kc ks pc L [.int v] w := fun H locs ls hl hP hD hS T hT X' => (W.iret (cells := 1) (slots := 6) hC.1 hC.2.1 hC.2.2.2.2.2.2.2.1 (fun t ht _ => ⟨⟨v, w, rfl, hp, by rw [ht]; exact hP, hD⟩, hS.F ht⟩) hS.2.2 hd (hlocks := hC.2.2.2.2.2.2.2.2.1)) T hT (stand_widen X' h1 h2)
variable {y : MethodName} {bytes : ByteArray} {maxL idx n : Nat} {rm : Room} {As : List Value}
def jroomX (rm R : Room) (maxL : Nat) : Prop := rm.cells = 1 ∧ rm.slots = 6 ∧ rm.frames + 1 ≤ R.frames ∧ 8 + (maxL + 11) + rm.locals ≤ R.locals
theorem k_callB {ret' : Option FieldType} (hC : jC p s m args meth c cc nL ret own D tys A X) (hw : jwB own idx y bytes maxL ret' n) (hR : jroomX rm R maxL) : CallB R s args own idx y bytes maxL ret' (Cond.code y bytes maxL ret' :: al_ws) rm 1 6 n := by
  have hts := hC.2.2.2.2.1
  refine callB_of (ws' := al_ws) (Ts := al_ws) n hts (fun x hx => ?_) rfl hR.1 hR.2.1 (hts _ hw.2.1) (hts _ hw.2.2.1) ⟨hw.2.2.2.1.1, hw.2.2.2.1.2, hw.2.2.2.2⟩ hR.2.2
  rcases List.mem_cons.mp hx with h | h
  · rw [h]
    exact al_good _ hw.1
  · exact al_good _ h
theorem k_blind {av : List Value} : FrameBlind (va_Pc av (jPX D tys X w sz)) := fun a U g mk q => ⟨(j_blind a U g mk ⟨q.1, q.2.1⟩).1, (j_blind a U g mk ⟨q.1, q.2.1⟩).2, q.2.2.same (u := U) (U := U.calling g mk a) rfl⟩
theorem k_pre {H : Heap} {locs : List Loc} {av : List Value} (hC : jC p s m args meth c cc nL ret own D tys A X) (hW : jW s) (hP : va_P D classes w H) (hD : va_D A w) (hS : va_S A s.heap H locs) : ∀ U : State, U.heap = H → s.WarmedH U.vm → va_Pc av (jPX D tys X w H.size) av.toArray U := fun U hU hWm => ⟨rfl, (j_pre (av := av) hC hP hD hS U hU hWm).2, hW.warm hWm⟩
theorem k_callXi {b q0 ci : Nat} {fs : List Value} {T : u_T} {N : Nat} {post : Int32 → va_W → Prop} {x : ExceptionTableEntry} (hC : jC p s m args meth c cc nL ret own D tys A X) (hW : jW s) (hw : jwV own idx y bytes maxL (some .int) n) (hR : jroomX rm R maxL) (hn : As.length = n) (hroom : (S.map fun v => v.category).sum ≤ 8) (hc : classes[ci]? = some (y.cls, T, N)) (he : w[q0]? = some (b, .inr (ci, fs))) (hd : decode cc pc = .ok (.invokevirtual idx, 3))
    (hM : jMXi l y bytes maxL rm D tys X (.ref b :: As) w post E pX) (hcs : kc + 1 ≤ R.cells ∧ ks + 6 ≤ R.slots)
    (hT : c.exceptionTable.toList = [x]) (hx : covers x pc = true) (h0 : x.catchType ≠ 0) (hlink : Cond.classLink own x.catchType E ∈ al_ws) (hcast : (Cond.castable E E).before args s = true)
    (kx : ∀ (w' : va_W) (q9 : Nat), pX w' → JC p l e R s m args below meth c D A nL Q (kc + 1) (ks + 6) x.handlerPc L [.ref q9] w')
    (kk : ∀ (r : Int32) (w' : va_W), post r w' → JC p l e R s m args below meth c D A nL Q (kc + 1) (ks + 6) (pc + 3) L (.int r :: S) w') : JC p l e R s m args below meth c D A nL Q kc ks pc L (As.reverse ++ .ref b :: S) w := by
  intro H locs ls hl hP hD hS
  have hts := hC.2.2.2.2.1
  have hF := j_free hC hD hS
  have run := vx_runV (p := p) (l := l) (e := e) (R := R) (s := s) (m := m) (args := args) (below := below) (meth := meth) (c := c) (H := H) (locs := locs) (cells := kc) (slots := ks) (As := As) (rest := S) (C := y.cls) (b := b) (g := F0 m pc ls (As.reverse ++ .ref b :: S)) ⟨hC.1, hC.2.1, hC.2.2.1, hC.2.2.2.1, hts⟩ (hM H.size) ⟨k_callB hC hw.1 hR, hts _ hw.2.1, hts _ hw.2.2⟩ ⟨k_blind, va_recv hC.2.2.2.2.2.1 hP (ci := ci) (q0 := q0) hc he, k_pre (av := .ref b :: As) hC hW hP hD hS⟩ rfl hn hl.1 rfl (lv_room hroom) hd hcs
  refine vx_calli run hS (fun q _ h => hF q h) hF (fun q _ h => hF q h) ?_ ?_
  · intro E' ce q9 u t H1 locs1 h1 _ hp hB _ _ hS1 hce hcv hcl
    obtain ⟨rfl, hB1, hB2⟩ := hB
    exact vx_catch hC.2.2.2.1 [] x [] hT (fun z hz => by cases hz) hx h0 (hts _ hlink) hcast hce hcv hcl (kx u q9 hp H1 locs1 ls hl (by rw [← h1]; exact hB1) (hB2.weaken fun _ q _ h => hF q.1 h) hS1)
  · intro r u t H1 locs1 h1 _ hp hB _ _ hS1
    exact kk r u hp H1 locs1 ls hl (by rw [← h1]; exact hB.1) (hB.2.weaken fun _ q _ h => hF q.1 h) hS1
theorem k_callXl {b q0 ci : Nat} {fs : List Value} {T : u_T} {N : Nat} {post : Int64 → va_W → Prop} {x : ExceptionTableEntry} (hC : jC p s m args meth c cc nL ret own D tys A X) (hW : jW s) (hw : jwV own idx y bytes maxL (some .long) n) (hR : jroomX rm R maxL) (hn : As.length = n) (hroom : (S.map fun v => v.category).sum ≤ 8) (hc : classes[ci]? = some (y.cls, T, N)) (he : w[q0]? = some (b, .inr (ci, fs))) (hd : decode cc pc = .ok (.invokevirtual idx, 3))
    (hM : jMXl l y bytes maxL rm D tys X (.ref b :: As) w post E pX) (hcs : kc + 1 ≤ R.cells ∧ ks + 6 ≤ R.slots)
    (hT : c.exceptionTable.toList = [x]) (hx : covers x pc = true) (h0 : x.catchType ≠ 0) (hlink : Cond.classLink own x.catchType E ∈ al_ws) (hcast : (Cond.castable E E).before args s = true)
    (kx : ∀ (w' : va_W) (q9 : Nat), pX w' → JC p l e R s m args below meth c D A nL Q (kc + 1) (ks + 6) x.handlerPc L [.ref q9] w')
    (kk : ∀ (r : Int64) (w' : va_W), post r w' → JC p l e R s m args below meth c D A nL Q (kc + 1) (ks + 6) (pc + 3) L (.long r :: S) w') : JC p l e R s m args below meth c D A nL Q kc ks pc L (As.reverse ++ .ref b :: S) w := by
  intro H locs ls hl hP hD hS
  have hts := hC.2.2.2.2.1
  have hF := j_free hC hD hS
  have run := vx_runV (p := p) (l := l) (e := e) (R := R) (s := s) (m := m) (args := args) (below := below) (meth := meth) (c := c) (H := H) (locs := locs) (cells := kc) (slots := ks) (As := As) (rest := S) (C := y.cls) (b := b) (g := F0 m pc ls (As.reverse ++ .ref b :: S)) ⟨hC.1, hC.2.1, hC.2.2.1, hC.2.2.2.1, hts⟩ (hM H.size) ⟨k_callB hC hw.1 hR, hts _ hw.2.1, hts _ hw.2.2⟩ ⟨k_blind, va_recv hC.2.2.2.2.2.1 hP (ci := ci) (q0 := q0) hc he, k_pre (av := .ref b :: As) hC hW hP hD hS⟩ rfl hn hl.1 rfl (lv_room hroom) hd hcs
  refine vx_calll run hS (fun q _ h => hF q h) hF (fun q _ h => hF q h) ?_ ?_
  · intro E' ce q9 u t H1 locs1 h1 _ hp hB _ _ hS1 hce hcv hcl
    obtain ⟨rfl, hB1, hB2⟩ := hB
    exact vx_catch hC.2.2.2.1 [] x [] hT (fun z hz => by cases hz) hx h0 (hts _ hlink) hcast hce hcv hcl (kx u q9 hp H1 locs1 ls hl (by rw [← h1]; exact hB1) (hB2.weaken fun _ q _ h => hF q.1 h) hS1)
  · intro r u t H1 locs1 h1 _ hp hB _ _ hS1
    exact kk r u hp H1 locs1 ls hl (by rw [← h1]; exact hB.1) (hB.2.weaken fun _ q _ h => hF q.1 h) hS1
end HX
