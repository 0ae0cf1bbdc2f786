/-! THROWING: contracts of methods that return or throw -/
def rmX (d : Nat) : Room := { frames := d, cells := 1, slots := 6, locals := 40 * d }
theorem rmX_in {a b n : Nat} (h : a < b ∧ n ≤ 21) : jroom (rmD a) (rmX b) n := ⟨rfl, rfl, h.1, by show 8 + (n + 11) + 40 * a ≤ 40 * b; omega⟩
def jBu (D : va_G) (w : va_W) (sz : Nat) : va_W → State → Prop := fun u t => va_P D classes u t.heap ∧ va_D (va_A w sz) u
def jBX (D : va_G) (w : va_W) (sz : Nat) (E : String) : String → va_W → State → Prop := fun E' u t => E' = E ∧ va_P D classes u t.heap ∧ va_D (va_A w sz) u
def jPX (D : va_G) (tys : List (ClassId × FieldType)) (X : jX) (w : va_W) (sz : Nat) : State → Prop := fun U => jB D tys X w sz U ∧ jW U
def jMXi (l : Launch) (y : MethodName) (cc : ByteArray) (nL : Nat) (rm : Room) (D : va_G) (tys : List (ClassId × FieldType)) (X : jX) (av : List Value) (w : va_W) (post : Int32 → va_W → Prop) (E : String) (pX : va_W → Prop) : Prop :=
  ∀ sz : Nat, vx_Met l y (Cond.code y cc nL (some .int) :: al_ws) rm (va_Pc av (jPX D tys X w sz)) (va_Qi post (jBu D w sz) (va_A w sz)) (vx_X pX (jBX D w sz E) (va_A w sz)) 1 6 (va_A w sz)
def jMXl (l : Launch) (y : MethodName) (cc : ByteArray) (nL : Nat) (rm : Room) (D : va_G) (tys : List (ClassId × FieldType)) (X : jX) (av : List Value) (w : va_W) (post : Int64 → va_W → Prop) (E : String) (pX : va_W → Prop) : Prop :=
  ∀ sz : Nat, vx_Met l y (Cond.code y cc nL (some .long) :: al_ws) rm (va_Pc av (jPX D tys X w sz)) (va_Ql post (jBu D w sz) (va_A w sz)) (vx_X pX (jBX D w sz E) (va_A w sz)) 1 6 (va_A w sz)
theorem jMXi.of {l : Launch} {y : MethodName} {cc : ByteArray} {nL : Nat} {rm : Room} {D : va_G} {tys : List (ClassId × FieldType)} {X : jX} {av : List Value} {w : va_W} {post : Int32 → va_W → Prop} {E : String} {pX : va_W → Prop} (L : List (Option Value)) (hL : jle L (jent av)) (hy : plainName y.cls = true) (hn : (lg_sl av).length ≤ nL)
    (body : ∀ (p : Program) (e : Env) (s : State) (m : MethodId) (args : Array Value) (below : List Frame) (meth : Method) (c : Code) (sz : Nat), jC p s m args meth c cc nL (some .int) y.cls D tys (va_A w sz) X → jW s → (∀ x ∈ c.exceptionTable.toList, False) →
      J p l e rm s m args below meth c D (va_A w sz) nL (vx_MQ below (va_Qi post (jBu D w sz) (va_A w sz)) (vx_X pX (jBX D w sz E) (va_A w sz)) args s 1 6 (va_A w sz)) 0 L [] w) : jMXi l y cc nL rm D tys X av w post E pX := by
  intro sz
  refine vx_ofW (cc := cc) (maxL := nL) (ret := some .int) hy rfl ?_
  intro p e s m args below meth c s₁ B hml ht hv
  obtain ⟨rfl, ⟨hsz, hP, hK, hD0, hE⟩, hw⟩ := hv
  have hts := atoms_spec (ws := Cond.code y cc nL (some .int) :: al_ws) B.pre
  have hD := hD0.self (sz := sz)
  have hA : ∀ q : Nat, s.heap.size ≤ q → va_A w sz q := fun q h => Or.inr (by rw [← hsz]; exact h)
  have hl := jl_entry av hn
  rw [lg_entry_eq]
  exact body p e s m av.toArray below meth c sz ⟨B.exec, B.bytes, hml, findClass_of_methodNamed B.named, fun w h => hts w (List.mem_cons_of_mem _ h), hK, hA, B.returns, B.notSynchronized, hE⟩ hw ht s.heap [] _ (jl_weak hl (jle_at L _ hL)) hP hD va_S.rf
theorem jMXl.of {l : Launch} {y : MethodName} {cc : ByteArray} {nL : Nat} {rm : Room} {D : va_G} {tys : List (ClassId × FieldType)} {X : jX} {av : List Value} {w : va_W} {post : Int64 → va_W → Prop} {E : String} {pX : va_W → Prop} (L : List (Option Value)) (hL : jle L (jent av)) (hy : plainName y.cls = true) (hn : (lg_sl av).length ≤ nL)
    (body : ∀ (p : Program) (e : Env) (s : State) (m : MethodId) (args : Array Value) (below : List Frame) (meth : Method) (c : Code) (sz : Nat), jC p s m args meth c cc nL (some .long) y.cls D tys (va_A w sz) X → jW s → (∀ x ∈ c.exceptionTable.toList, False) →
      J p l e rm s m args below meth c D (va_A w sz) nL (vx_MQ below (va_Ql post (jBu D w sz) (va_A w sz)) (vx_X pX (jBX D w sz E) (va_A w sz)) args s 1 6 (va_A w sz)) 0 L [] w) : jMXl l y cc nL rm D tys X av w post E pX := by
  intro sz
  refine vx_ofW (cc := cc) (maxL := nL) (ret := some .long) hy rfl ?_
  intro p e s m args below meth c s₁ B hml ht hv
  obtain ⟨rfl, ⟨hsz, hP, hK, hD0, hE⟩, hw⟩ := hv
  have hts := atoms_spec (ws := Cond.code y cc nL (some .long) :: al_ws) B.pre
  have hD := hD0.self (sz := sz)
  have hA : ∀ q : Nat, s.heap.size ≤ q → va_A w sz q := fun q h => Or.inr (by rw [← hsz]; exact h)
  have hl := jl_entry av hn
  rw [lg_entry_eq]
  exact body p e s m av.toArray below meth c sz ⟨B.exec, B.bytes, hml, findClass_of_methodNamed B.named, fun w h => hts w (List.mem_cons_of_mem _ h), hK, hA, B.returns, B.notSynchronized, hE⟩ hw ht s.heap [] _ (jl_weak hl (jle_at L _ hL)) hP hD va_S.rf
section TX
variable {p : Program} {l : Launch} {e : Env} {R : Room} {s : State} {m : MethodId} {args : Array Value} {below : List Frame} {meth : Method} {c : Code} {D : va_G} {nL : Nat} {pc : Nat} {L : List (Option Value)} {S : List Value} {w w0 : va_W} {sz : Nat}
variable {cc : ByteArray} {own : String} {tys : List (ClassId × FieldType)} {X : jX} {E : String} {pX : va_W → Prop}
theorem j_iretX {post : Int32 → va_W → Prop} {v : Int32} (hC : jC p s m args meth c cc nL (some .int) own D tys (va_A w0 sz) X) (hd : decode cc pc = .ok (.ireturn, 1)) (hp : post v w) : J p l e R s m args below meth c D (va_A w0 sz) nL (vx_MQ below (va_Qi post (jBu D w0 sz) (va_A w0 sz)) (vx_X pX (jBX D w0 sz E) (va_A w0 sz)) args s 1 6 (va_A w0 sz)) pc L [.int v] w := fun H locs ls hl hP hD hS => vx_ret (fun T hT X' => (W.iret (cells := 1) (slots := 6) hC.1 hC.2.1 hC.2.2.2.2.2.2.2.1 (fun t ht _ => ⟨⟨v, w, rfl, hp, by rw [ht]; exact hP, hD⟩, hS.F ht⟩) hS.2.2 hd (hlocks := hC.2.2.2.2.2.2.2.2.1)) T hT (stand_widen X' (by omega) (by omega)))
theorem j_lretX {post : Int64 → va_W → Prop} {v : Int64} (hC : jC p s m args meth c cc nL (some .long) own D tys (va_A w0 sz) X) (hd : decode cc pc = .ok (.lreturn, 1)) (hp : post v w) : J p l e R s m args below meth c D (va_A w0 sz) nL (vx_MQ below (va_Ql post (jBu D w0 sz) (va_A w0 sz)) (vx_X pX (jBX D w0 sz E) (va_A w0 sz)) args s 1 6 (va_A w0 sz)) pc L [.long v] w := fun H locs ls hl hP hD hS => vx_ret (fun T hT X' => (W.lret (cells := 1) (slots := 6) hC.1 hC.2.1 hC.2.2.2.2.2.2.2.1 (fun t ht _ => ⟨⟨v, w, rfl, hp, by rw [ht]; exact hP, hD⟩, hS.F ht⟩) hS.2.2 hd (hlocks := hC.2.2.2.2.2.2.2.2.1)) T hT (stand_widen X' (by omega) (by omega)))
theorem j_throwS {Qc : Array Value → State → Outcome → State → Prop} {ret : Option FieldType} {text : String} {ik is ic sa : Nat} (hl : l.stackTraces = false) (hC : jC p s m args meth c cc nL ret own D tys (va_A w0 sz) X) (hW : jW s) (hT : ∀ x ∈ c.exceptionTable.toList, False) (hcls : Bundle.fit E = true)
    (h1 : ∀ w ∈ (Cond.classLink own ik E :: Cond.initialized E :: vx_atS own ic E nmX).filter goodWord, w ∈ al_ws) (h2 : ∀ w ∈ (Cond.classLink own ik E :: Cond.initialized E :: vx_atS own ic E nmX).filter (fun w => !goodWord w), w ∈ jWL) (h3 : ∀ w ∈ Cond.classLink own ik E :: Cond.initialized E :: vx_atS own ic E nmX, vx_ot w = true)
    (hstr : vk_R own is text sa s) (d0 : decode cc pc = .ok (.new ik, 3)) (d3 : decode cc (pc + 3) = .ok (.dup, 1)) (d4 : decode cc (pc + 4) = .ok (.ldc is, 2)) (d6 : decode cc (pc + 6) = .ok (.invokespecial ic, 3)) (d9 : decode cc (pc + 9) = .ok (.athrow, 1))
    (hf : 5 < R.frames) (hlo : (S.map fun v => v.category).sum + 82 ≤ R.locals) (hc : 1 ≤ R.cells) (hs : 6 ≤ R.slots) (hp : pX w) : J p l e R s m args below meth c D (va_A w0 sz) nL (vx_MQ below Qc (vx_X pX (jBX D w0 sz E) (va_A w0 sz)) args s 1 6 (va_A w0 sz)) pc L S w := by
  intro H locs ls hls hP hD hS
  have hat := vx_hat (args := args) (s := s) (L := Cond.classLink own ik E :: Cond.initialized E :: vx_atS own ic E nmX) (fun w h => hC.2.2.2.2.1 w (h1 w h)) h2 hW.use
  have hJ := hC.2.2.2.2.2.2.2.2.2.2.2.2.2.1
  exact vx_throwS hC.1 hC.2.1 hl hC.2.2.2.1 hcls (by decide) (hat _ List.mem_cons_self) (hat _ (List.mem_cons_of_mem _ List.mem_cons_self)) hstr (fun w h => hat w (List.mem_cons_of_mem _ (List.mem_cons_of_mem _ h))) h3 hJ.2.1 hJ.2.2 hS (hls.1.trans hC.2.2.1.symm) d0 d3 d4 d6 d9 (fun x h => (hT x h).elim) hf hlo (by omega) (by omega) hC.2.2.2.2.2.2.2.2.1
    (fun t _ g1 g2 => ⟨w, hp, ⟨rfl, hP.kept (fun k q hk => g2 q.1 (vx_lt hP hk)), hD⟩, Nat.le_trans hS.1 g1, fun q y1 y2 => (g2 q (Nat.lt_of_lt_of_le y1 hS.1)).trans (hS.2.1 q y1 y2)⟩) hS.2.2 (by omega) (by omega)
end TX
