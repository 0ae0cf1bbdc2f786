/-! THE LAW: the script, the switch, Model's constructor -/
section LR
variable {p : Program} {l : Launch} {e : Env} {R : Room} {s : State} {m : MethodId} {args : Array Value} {below : List Frame} {meth : Method} {c : Code} {D : va_G} {A : Nat → Prop} {nL : Nat} {Q : State → Prop} {pc : Nat} {L : List (Option Value)} {S : List Value} {w : va_W} {kc ks : Nat}
variable {cc : ByteArray} {own : String} {tys : List (ClassId × FieldType)} {X : jX} {ret : Option FieldType}
theorem k_sld {b N : Nat} {xs : Nat → Int32} (hC : jC p s m args meth c cc nL ret own D tys A X) (hX : va_X b N xs s s.heap) (hbl : b < s.heap.size) (hbA : ¬ A b) {i : Int32} (hin : vp_in i N) (hd : decode cc pc = .ok (.iaload, 1)) (k : JC p l e R s m args below meth c D A nL Q kc ks (pc + 1) L (.int (xs i.toNatClampNeg) :: S) w) : JC p l e R s m args below meth c D A nL Q kc ks pc L (.int i :: .ref b :: S) w := fun H locs ls hl hP hD hS => va_sld hC.1 hC.2.1 hX hbl hbA hS hin hd (k H locs ls hl hP hD hS)
theorem k_slen {b N : Nat} {xs : Nat → Int32} (hC : jC p s m args meth c cc nL ret own D tys A X) (hX : va_X b N xs s s.heap) (hbl : b < s.heap.size) (hbA : ¬ A b) (hd : decode cc pc = .ok (.arraylength, 1)) (k : JC p l e R s m args below meth c D A nL Q kc ks (pc + 1) L (.int (Int32.ofNat N) :: S) w) : JC p l e R s m args below meth c D A nL Q kc ks pc L (.ref b :: S) w := fun H locs ls hl hP hD hS => va_slen hC.1 hC.2.1 hX hbl hbA hS hd (k H locs ls hl hP hD hS)
theorem k_table {dflt lo hi : Int} {offs : Array Int} {len : Nat} {x : Int32} {off : Int} (tgt : Nat) (hC : jC p s m args meth c cc nL ret own D tys A X) (hd : decode cc pc = .ok (.tableswitch dflt lo hi offs, len)) (h1 : ¬ x.toInt < lo) (h2 : ¬ hi < x.toInt) (ho : offs[(x.toInt - lo).toNat]? = some off) (ht : (pc : Int) + off = (tgt : Int)) (k : JC p l e R s m args below meth c D A nL Q kc ks tgt L S w) : JC p l e R s m args below meth c D A nL Q kc ks pc L (.int x :: S) w := fun H locs ls hl hP hD hS => lv_tableIn hC.1 hC.2.1 hd h1 h2 ho ht (k H locs ls hl hP hD hS)
theorem nsW.warm {s U : State} (hW : s.WarmedH U.vm) (h : nsW s) : nsW U := va_Nw.warmM hW h
theorem ns_blind {av : List Value} {sz : Nat} : FrameBlind (va_Pc av (fun U => jB D tys X w sz U ∧ nsW U)) := fun a U g mk q => ⟨(j_blind a U g mk ⟨q.1, q.2.1⟩).1, (j_blind a U g mk ⟨q.1, q.2.1⟩).2, va_Nw.same rfl (u := U) (U := U.calling g mk a) rfl q.2.2⟩
theorem k_callIM {q idx n maxL mc ms : Nat} {e0 : va_E} {y : MethodName} {bytes : ByteArray} {rm : Room} {As : List Value} {post : va_W × List (ClassId × FieldType) → Prop} (a : va_W) (hC : jC p s m args meth c cc nL ret own D tys A X) (hns : nsW s) (hw : jwB own idx y bytes maxL none n) (hin : Cond.instanceMethod y ∈ al_ws) (hy : y.name = "<init>") (hR : rm.cells = mc ∧ rm.slots = ms ∧ rm.frames + 1 ≤ R.frames ∧ 8 + (maxL + 11) + rm.locals ≤ R.locals) (hn : As.length = n) (hroom : (S.map fun v => v.category).sum ≤ 8) (hd : decode cc pc = .ok (.invokespecial idx, 3))
    (hM : jMIN l y bytes maxL rm D X (.ref q :: As) [(q, e0)] post mc ms) (hcs : kc + mc ≤ R.cells ∧ ks + ms ≤ R.slots)
    (kk : ∀ u : va_W × List (ClassId × FieldType), post u → jC p s m args meth c cc nL ret own D (tys ++ u.2) A X → JC p l e R s m args below meth c D A nL Q (kc + mc) (ks + ms) (pc + 3) L S (a ++ u.1)) : JC p l e R s m args below meth c D A nL Q kc ks pc L (As.reverse ++ .ref q :: S) (a ++ [(q, e0)]) := by
  intro H locs ls hl hP hD hS
  have hts := hC.2.2.2.2.1
  have hFb := j_free hC hD hS
  have hP' : va_P D classes (a ++ ([(q, e0)] ++ [])) H := hP
  have hD' : va_D A (a ++ ([(q, e0)] ++ [])) := hD
  have hFc : ∀ z, va_A [(q, e0)] H.size z → A z := fun z h => hFb z (fr_A (a := a) (b := []) h)
  have hB : CallB R s args own idx y bytes maxL none (Cond.code y bytes maxL none :: al_ws) rm mc ms n := by
    refine callB_of (ws' := al_ws) (Ts := al_ws) n hts (fun x hx => ?_) rfl hR.1 hR.2.1 (hts _ hw.2.1) (hts _ hw.2.2.1) ⟨hw.2.2.2.1.1, hw.2.2.2.1.2, hw.2.2.2.2⟩ hR.2.2
    rcases List.mem_cons.mp hx with h | h
    · rw [h]
      exact al_good _ hw.1
    · exact al_good _ h
  have run := va_runI (p := p) (l := l) (e := e) (R := R) (s := s) (m := m) (args := args) (below := below) (meth := meth) (c := c) (H := H) (locs := locs) (cells := kc) (slots := ks) (As := As) (rest := S) (b := q) (g := F0 m pc ls (As.reverse ++ .ref q :: S)) ⟨hC.1, hC.2.1, hC.2.2.1, hC.2.2.2.1, hts⟩ (hM H.size) ⟨hB, hy, hts _ hin⟩ ⟨ns_blind, fun U hU hW => ⟨rfl, fr_pre (a := a) (b := []) (tys := tys) (fun _ h => by cases h) (j_pre (av := .ref q :: As) hC hP hD hS U hU hW).2, hns.warm hW⟩⟩ rfl hn hl.1 rfl (lv_room hroom) hd hcs
  refine va_callv run hS (fun z _ h => hFc z h) hFc (fun u t H1 locs1 ht hvm hp hB1 hz hk hS1 => ?_)
  obtain ⟨hP1, hK1, hD1⟩ := hB1
  rw [ht] at hP1
  have hb := fr_back hP' hD' hk hP1 hD1
  rw [List.append_nil] at hb
  exact kk u hp (hC.types (hC.2.2.2.2.2.1.app (va_K.moved hvm.symm hK1))) H1 locs1 ls hl hb.1 (hb.2.weaken fun _ z _ h => hFb z.1 h) hS1
end LR
