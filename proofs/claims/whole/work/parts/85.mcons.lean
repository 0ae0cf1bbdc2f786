/-! CONSTRUCTORS: Model, whose Row's constructor is a nest mate -/
def nsW (U : State) : Prop := va_Nw (.methodLinkNest "DecimalReaderModel" 19 y_r_init "DecimalReaderModel") U
def jMIN (l : Launch) (y : MethodName) (cc : ByteArray) (nL : Nat) (rm : Room) (D : va_G) (X : jX) (av : List Value) (w : va_W) (post : va_W × List (ClassId × FieldType) → Prop) (mc ms : Nat) : Prop :=
  ∀ sz : Nat, Met l y (Cond.code y cc nL none :: al_ws) rm (va_Pc av (fun U => jB D [] X w sz U ∧ nsW U)) (va_Qv post (jBI D w sz) (va_A w sz)) mc ms (va_A w sz)
theorem jMIN.of {l : Launch} {y : MethodName} {cc : ByteArray} {nL : Nat} {rm : Room} {D : va_G} {X : jX} {av : List Value} {w : va_W} {post : va_W × List (ClassId × FieldType) → Prop} {mc ms : Nat} (L : List (Option Value)) (hL : jle L (jent av)) (hy : plainName y.cls = true) (hi : y.name = "<init>") (hn : (lg_sl av).length ≤ nL)
    (body : ∀ (p : Program) (e : Env) (s : State) (m : MethodId) (args : Array Value) (below : List Frame) (meth : Method) (c : Code) (sz : Nat), jC p s m args meth c cc nL none y.cls D [] (va_A w sz) X → meth.name = "<init>" → nsW s →
      JC p l e rm s m args below meth c D (va_A w sz) nL (MQ below (va_Qv post (jBI D w sz) (va_A w sz)) args s mc ms (va_A w sz)) 0 0 0 L [] w) : jMIN l y cc nL rm D X av w post mc ms := by
  intro sz
  refine Met.ofW (cc := cc) (maxL := nL) (ret := none) hy rfl ?_
  intro p e s m args below meth c s₁ B hml hv
  obtain ⟨rfl, ⟨hsz, hP, hK, hD0, hE⟩, hns⟩ := hv
  have hts := atoms_spec (ws := Cond.code y cc nL none :: al_ws) B.pre
  have hD := hD0.self (sz := sz)
  have hA : ∀ q : Nat, s.heap.size ≤ q → va_A w sz q := fun q h => Or.inr (by rw [← hsz]; exact h)
  have hl := jl_entry av hn
  rw [lg_entry_eq]
  exact body p e s m av.toArray below meth c sz ⟨B.exec, B.bytes, hml, findClass_of_methodNamed B.named, fun w h => hts w (List.mem_cons_of_mem _ h), hK, hA, B.returns, B.notSynchronized, hE⟩ ((name_of_methodNamed B.named B.method).1.trans hi) hns s.heap [] _ (jl_weak hl (jle_at L _ hL)) hP hD va_S.rf
section CLN
variable {p : Program} {l : Launch} {e : Env} {R : Room} {s : State} {m : MethodId} {args : Array Value} {below : List Frame} {meth : Method} {c : Code} {D : va_G} {A : Nat → Prop} {nL : Nat} {Q : State → Prop} {pc : Nat} {L : List (Option Value)} {S : List Value} {kc ks : Nat}
variable {cc : ByteArray} {own : String} {tys : List (ClassId × FieldType)} {X : jX} {ret : Option FieldType}
theorem k_callIN {q idx n maxL mc ms : Nat} {e0 : va_E} {y : MethodName} {bytes : ByteArray} {rm : Room} {As : List Value} {host : String} {post : va_W × List (ClassId × FieldType) → Prop} (a : va_W) (hC : jC p s m args meth c cc nL ret own D tys A X) (h1 : Cond.code y bytes maxL none ∈ al_ws) (h2 : Cond.initialized y.cls ∈ al_ws) (h3 : va_Nw (.methodLinkNest own idx y host) s) (h4 : y.cls ≠ "java/lang/invoke/MethodHandle" ∧ y.cls ≠ "java/lang/invoke/VarHandle") (h5 : (parseMethodDescriptor y.desc).map (fun d => d.parameters.length) = some n) (hin : Cond.instanceMethod y ∈ al_ws) (hy : y.name = "<init>") (hR : rm.cells = mc ∧ rm.slots = ms ∧ rm.frames + 1 ≤ R.frames ∧ 8 + (maxL + 11) + rm.locals ≤ R.locals) (hn : As.length = n) (hroom : (S.map fun v => v.category).sum ≤ 8) (hd : decode cc pc = .ok (.invokespecial idx, 3))
    (hM : jMI l y bytes maxL rm D X (.ref q :: As) [(q, e0)] post mc ms) (hcs : kc + mc ≤ R.cells ∧ ks + ms ≤ R.slots)
    (kk : ∀ u : va_W × List (ClassId × FieldType), post u → jC p s m args meth c cc nL ret own D (tys ++ u.2) A X → JC p l e R s m args below meth c D A nL Q (kc + mc) (ks + ms) (pc + 3) L S (a ++ u.1)) : JC p l e R s m args below meth c D A nL Q kc ks pc L (As.reverse ++ .ref q :: S) (a ++ [(q, e0)]) := by
  intro H locs ls hl hP hD hS
  have hts := hC.2.2.2.2.1
  have hFb := j_free hC hD hS
  have hP' : va_P D classes (a ++ ([(q, e0)] ++ [])) H := hP
  have hD' : va_D A (a ++ ([(q, e0)] ++ [])) := hD
  have hFc : ∀ z, va_A [(q, e0)] H.size z → A z := fun z h => hFb z (fr_A (a := a) (b := []) h)
  have hG : GoodIn al_ws (Cond.code y bytes maxL none :: al_ws) := fun x hx => by
    rcases List.mem_cons.mp hx with h | h
    · rw [h]
      exact al_good _ h1
    · exact al_good _ h
  have run := va_runIN (host := host) (p := p) (l := l) (e := e) (R := R) (s := s) (m := m) (args := args) (below := below) (meth := meth) (c := c) (H := H) (locs := locs) (cells := kc) (slots := ks) (As := As) (rest := S) (b := q) (bytes := bytes) (maxL := maxL) (n := n) (g := F0 m pc ls (As.reverse ++ .ref q :: S)) ⟨hC.1, hC.2.1, hC.2.2.1, hC.2.2.2.1, hts⟩ (hM H.size) ⟨⟨⟨hR.1, hR.2.1, hR.2.2.1, hR.2.2.2, pay_in hts hG, List.mem_cons_self⟩, hts _ h1, hts _ h2, h4, fun sig h => by
      rw [h] at h5
      exact (Option.some.inj h5).symm, va_Nw.use rfl h3⟩, hy, hts _ hin⟩ ⟨j_blind, fun U hU hW => ⟨rfl, fr_pre (a := a) (b := []) (tys := tys) (fun _ h => by cases h) (j_pre (av := .ref q :: As) hC hP hD hS U hU hW).2⟩⟩ rfl hn hl.1 rfl (lv_room hroom) hd hcs
  refine va_callv run hS (fun z _ h => hFc z h) hFc (fun u t H1 locs1 ht hvm hp hB1 hz hk hS1 => ?_)
  obtain ⟨hP1, hK1, hD1⟩ := hB1
  rw [ht] at hP1
  have hb := fr_back hP' hD' hk hP1 hD1
  rw [List.append_nil] at hb
  exact kk u hp (hC.types (hC.2.2.2.2.2.1.app (va_K.moved hvm.symm hK1))) H1 locs1 ls hl hb.1 (hb.2.weaken fun _ z _ h => hFb z.1 h) hS1
end CLN
theorem wr_1 : Cond.code y_r_init b_r_init 1 none ∈ al_ws := by decide +kernel
section CIM
variable {l : Launch} {D : va_G} {X : jX}
set_option maxHeartbeats 4000000 in
theorem c_m_init (q : Nat) : jMIN l y_m_init b_m_init 1 (rmI 4 7 19150) D X [.ref q] [(q, .inr (3, [.null, .int 0, .int 0, .int 0, .int 0, .null, .int 0, .null, .null, .null, .int 0, .long 0, .int 0, .int 0]))] (fun u => ∃ (t lq r1 d1 r2 d2 dq : Nat) (ct cl c1 c2 cd : ClassId), u = ([(q, .inr (3, [.ref t, .int 0, .int 0, .int 0, .int 0, .ref lq, .int 0, .ref r1, .ref r2, .ref dq, .int 0, .long 0, .int 0, .int 0])), (t, .inl (ct, 8192, .inl (fun _ => 0))), (lq, .inl (cl, 160, .inr (.inl (fun _ => 0)))), (r1, .inr (4, [.ref d1, .int 0, .int 0])), (r2, .inr (4, [.ref d2, .int 0, .int 0])), (dq, .inl (cd, 8192, .inl (fun _ => 0))), (d1, .inl (c1, 1300, .inl (fun _ => 0))), (d2, .inl (c2, 1300, .inl (fun _ => 0)))], [(ct, .byte), (cl, .long), (c1, .byte), (c2, .byte), (cd, .byte)])) 7 19150 := by
  refine jMIN.of [some (.ref q)] (by simp [jle, jent, Value.category]) rfl rfl (Nat.le_of_ble_eq_true rfl) ?_
  intro p e s m args below meth c sz hC hi hns
  refine k_aloadn0 (pc := 0) hC d_m_init_0 ?_
  refine k_objI (pc := 1) hC ob_M ob_I ob_C d_m_init_1 (by decide) (Nat.le_of_ble_eq_true rfl) ?_
  refine k_aloadn0 (pc := 4) hC d_m_init_4 ?_
  refine k_sipush (pc := 5) (v := 8192) hC d_m_init_5 (by decide) ?_
  refine k_newa (pc := 8) (atype := .byte) (ty := .byte) (N' := 8192) (a0 := (8192, .inl (fun _ => 0))) hC ar_b rfl (fun _ => rfl) (by decide) rfl (by decide) (Nat.le_of_ble_eq_true rfl) (Nat.le_of_ble_eq_true rfl) d_m_init_8 (fun t ct hC => ?_)
  refine k_putF (pc := 10) (q0 := 0) (ci := 3) hC 0 i_Model t_Model t_Model_ok n_Model rfl rfl (by decide) (by decide +kernel) rfl rfl hi (t_Model_ok 0 (by decide)) rfl rfl (Nat.le_of_ble_eq_true rfl) rfl d_m_init_10 ?_
  refine k_aloadn0 (pc := 13) hC d_m_init_13 ?_
  refine k_sipush (pc := 14) (v := 160) hC d_m_init_14 (by decide) ?_
  refine k_newa (pc := 17) (atype := .long) (ty := .long) (N' := 160) (a0 := (160, .inr (.inl (fun _ => 0)))) hC ar_l rfl (fun _ => rfl) (by decide) rfl (by decide) (Nat.le_of_ble_eq_true rfl) (Nat.le_of_ble_eq_true rfl) d_m_init_17 (fun lq cl hC => ?_)
  refine k_putF (pc := 19) (q0 := 0) (ci := 3) hC 5 i_Model t_Model t_Model_ok n_Model rfl rfl (by decide) (by decide +kernel) rfl rfl hi (t_Model_ok 5 (by decide)) rfl rfl (Nat.le_of_ble_eq_true rfl) rfl d_m_init_19 ?_
  refine k_aloadn0 (pc := 22) hC d_m_init_22 ?_
  refine k_new (pc := 23) (ci := 4) hC i_Row t_Row t_Row_ok nc_r.1 nc_r.2.1 nc_r.2.2 rfl df_r (Nat.le_of_ble_eq_true rfl) (Nat.le_of_ble_eq_true rfl) d_m_init_23 (fun r1 => ?_)
  refine k_dup (pc := 26) hC d_m_init_26 rfl ?_
  refine k_callIN (pc := 27) (As := []) _ hC wr_1 nc_r.2.2 hns ⟨by decide, by decide⟩ (by decide +kernel) im_r rfl ⟨rfl, rfl, Nat.le_of_ble_eq_true rfl, Nat.le_of_ble_eq_true rfl⟩ rfl (Nat.le_of_ble_eq_true rfl) d_m_init_27 (c_r_init r1) ⟨Nat.le_of_ble_eq_true rfl, Nat.le_of_ble_eq_true rfl⟩ (fun u hu hC => ?_)
  obtain ⟨d1, c1, rfl⟩ := hu
  refine k_putF (pc := 30) (q0 := 0) (ci := 3) hC 7 i_Model t_Model t_Model_ok n_Model rfl rfl (by decide) (by decide +kernel) rfl rfl hi (t_Model_ok 7 (by decide)) rfl rfl (Nat.le_of_ble_eq_true rfl) rfl d_m_init_30 ?_
  refine k_aloadn0 (pc := 33) hC d_m_init_33 ?_
  refine k_new (pc := 34) (ci := 4) hC i_Row t_Row t_Row_ok nc_r.1 nc_r.2.1 nc_r.2.2 rfl df_r (Nat.le_of_ble_eq_true rfl) (Nat.le_of_ble_eq_true rfl) d_m_init_34 (fun r2 => ?_)
  refine k_dup (pc := 37) hC d_m_init_37 rfl ?_
  refine k_callIN (pc := 38) (As := []) _ hC wr_1 nc_r.2.2 hns ⟨by decide, by decide⟩ (by decide +kernel) im_r rfl ⟨rfl, rfl, Nat.le_of_ble_eq_true rfl, Nat.le_of_ble_eq_true rfl⟩ rfl (Nat.le_of_ble_eq_true rfl) d_m_init_38 (c_r_init r2) ⟨Nat.le_of_ble_eq_true rfl, Nat.le_of_ble_eq_true rfl⟩ (fun u hu hC => ?_)
  obtain ⟨d2, c2, rfl⟩ := hu
  refine k_putF (pc := 41) (q0 := 0) (ci := 3) hC 8 i_Model t_Model t_Model_ok n_Model rfl rfl (by decide) (by decide +kernel) rfl rfl hi (t_Model_ok 8 (by decide)) rfl rfl (Nat.le_of_ble_eq_true rfl) rfl d_m_init_41 ?_
  refine k_aloadn0 (pc := 44) hC d_m_init_44 ?_
  refine k_sipush (pc := 45) (v := 8192) hC d_m_init_45 (by decide) ?_
  refine k_newa (pc := 48) (atype := .byte) (ty := .byte) (N' := 8192) (a0 := (8192, .inl (fun _ => 0))) hC ar_b rfl (fun _ => rfl) (by decide) rfl (by decide) (Nat.le_of_ble_eq_true rfl) (Nat.le_of_ble_eq_true rfl) d_m_init_48 (fun dq cd hC => ?_)
  refine k_putF (pc := 50) (q0 := 0) (ci := 3) hC 9 i_Model t_Model t_Model_ok n_Model rfl rfl (by decide) (by decide +kernel) rfl rfl hi (t_Model_ok 9 (by decide)) rfl rfl (Nat.le_of_ble_eq_true rfl) rfl d_m_init_50 ?_
  exact k_vretI [0, 1, 2, 3, 5, 7, 4, 6] hC (Nat.le_of_ble_eq_true rfl) (Nat.le_of_ble_eq_true rfl) d_m_init_53 ⟨t, lq, r1, d1, r2, d2, dq, ct, cl, c1, c2, cd, rfl⟩ rfl (by decide) rfl
end CIM

