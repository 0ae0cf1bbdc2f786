/-! FRAMES: contracts -/
theorem fr_K {D : va_G} {tys tys1 : List (ClassId × FieldType)} {U : State} (hs : ∀ x, x ∈ tys1 → x ∈ tys) (h : va_K D classes tys U) : va_K D classes tys1 U := ⟨h.1, fun k q hk => by
  obtain ⟨j, hj⟩ := List.getElem?_of_mem (hs q (List.mem_of_getElem? hk))
  exact h.2 j q hj⟩
theorem fr_pre {D : va_G} {tys tys1 : List (ClassId × FieldType)} {X : jX} {a w1 b : va_W} {sz : Nat} {U : State} (hs : ∀ x, x ∈ tys1 → x ∈ tys) (h : jB D tys X (a ++ (w1 ++ b)) sz U) : jB D tys1 X w1 sz U := ⟨h.1, fr_P h.2.1, fr_K hs h.2.2.1, fr_D h.2.2.2.1, h.2.2.2.2.narrow (fun _ => fr_A)⟩
theorem fr_F {a w1 b : va_W} {sz : Nat} {st t : State} (h : va_F (va_A w1 sz) st t) : va_F (va_A (a ++ (w1 ++ b)) sz) st t := ⟨h.1, fun q h1 h2 => h.2 q h1 (fun h3 => h2 (fr_A h3))⟩
theorem fr_post {D : va_G} {tys : List (ClassId × FieldType)} {X : jX} {a w1 b u : va_W} {sz : Nat} {st t : State} (h : jB D tys X (a ++ (w1 ++ b)) sz st) (hF : va_F (va_A w1 sz) st t) (hP : va_P D classes u t.heap) (hD : va_D (va_A w1 sz) u) : va_P D classes (a ++ (u ++ b)) t.heap ∧ va_D (va_A (a ++ (w1 ++ b)) sz) (a ++ (u ++ b)) := by
  obtain ⟨hsz, h1, -, h2, -⟩ := h
  subst hsz
  exact fr_back h1 h2 hF.2 hP hD
theorem jM.frame {l : Launch} {y : MethodName} {cc : ByteArray} {nL : Nat} {ret : Option FieldType} {rm : Room} {D : va_G} {tys tys1 : List (ClassId × FieldType)} {X : jX} {av : List Value} {w1 : va_W} {post : Option Value → va_W → Prop} (a b : va_W) (hs : ∀ x, x ∈ tys1 → x ∈ tys) (hM : jM l y cc nL ret rm D tys1 X av w1 post) : jM l y cc nL ret rm D tys X av (a ++ (w1 ++ b)) (fun v w' => ∃ u, post v u ∧ w' = a ++ (u ++ b)) := by
  intro sz
  refine MetFree.mono (hM sz) (fun _ _ h => ⟨h.1, fr_pre hs h.2⟩) (fun _ _ _ _ _ h => h) (fun _ st o t h hq => ?_)
  obtain ⟨⟨⟨v, u, h1, h2, h3, h4⟩, hF⟩, L, h5, h6⟩ := hq
  have hb := fr_post h.2 hF h3 h4
  exact ⟨⟨⟨v, _, h1, ⟨u, h2, rfl⟩, hb.1, hb.2⟩, fr_F hF⟩, L, h5, fun q hq => fr_A (h6 q hq)⟩
theorem jMXi.frame {l : Launch} {y : MethodName} {cc : ByteArray} {nL : Nat} {rm : Room} {D : va_G} {tys tys1 : List (ClassId × FieldType)} {X : jX} {av : List Value} {w1 : va_W} {post : Int32 → va_W → Prop} {E : String} {pX : va_W → Prop} (a b : va_W) (hs : ∀ x, x ∈ tys1 → x ∈ tys) (hM : jMXi l y cc nL rm D tys1 X av w1 post E pX) : jMXi l y cc nL rm D tys X av (a ++ (w1 ++ b)) (fun v w' => ∃ u, post v u ∧ w' = a ++ (u ++ b)) E (fun w' => ∃ u, pX u ∧ w' = a ++ (u ++ b)) := by
  intro sz
  refine MetFree.mono (hM sz) (fun _ _ h => ⟨h.1, fr_pre hs h.2.1, h.2.2⟩) (fun _ _ _ _ _ h => h) (fun _ st o t h hq => ?_)
  rcases hq with ⟨⟨⟨v, u, h1, h2, h3, h4⟩, hF⟩, L, h5, h6⟩ | ⟨q, h1, E', ce, L, ⟨u, h2, ⟨h7, h3, h4⟩, hF⟩, g1, g2, g3, g4, g5, h6⟩
  · have hb := fr_post h.2.1 hF h3 h4
    exact Or.inl ⟨⟨⟨v, _, h1, ⟨u, h2, rfl⟩, hb.1, hb.2⟩, fr_F hF⟩, L, h5, fun q hq => fr_A (h6 q hq)⟩
  · have hb := fr_post h.2.1 hF h3 h4
    exact Or.inr ⟨q, h1, E', ce, L, ⟨_, ⟨u, h2, rfl⟩, ⟨h7, hb.1, hb.2⟩, fr_F hF⟩, g1, g2, g3, g4, g5, fun q hq => fr_A (h6 q hq)⟩
theorem jMXl.frame {l : Launch} {y : MethodName} {cc : ByteArray} {nL : Nat} {rm : Room} {D : va_G} {tys tys1 : List (ClassId × FieldType)} {X : jX} {av : List Value} {w1 : va_W} {post : Int64 → va_W → Prop} {E : String} {pX : va_W → Prop} (a b : va_W) (hs : ∀ x, x ∈ tys1 → x ∈ tys) (hM : jMXl l y cc nL rm D tys1 X av w1 post E pX) : jMXl l y cc nL rm D tys X av (a ++ (w1 ++ b)) (fun v w' => ∃ u, post v u ∧ w' = a ++ (u ++ b)) E (fun w' => ∃ u, pX u ∧ w' = a ++ (u ++ b)) := by
  intro sz
  refine MetFree.mono (hM sz) (fun _ _ h => ⟨h.1, fr_pre hs h.2.1, h.2.2⟩) (fun _ _ _ _ _ h => h) (fun _ st o t h hq => ?_)
  rcases hq with ⟨⟨⟨v, u, h1, h2, h3, h4⟩, hF⟩, L, h5, h6⟩ | ⟨q, h1, E', ce, L, ⟨u, h2, ⟨h7, h3, h4⟩, hF⟩, g1, g2, g3, g4, g5, h6⟩
  · have hb := fr_post h.2.1 hF h3 h4
    exact Or.inl ⟨⟨⟨v, _, h1, ⟨u, h2, rfl⟩, hb.1, hb.2⟩, fr_F hF⟩, L, h5, fun q hq => fr_A (h6 q hq)⟩
  · have hb := fr_post h.2.1 hF h3 h4
    exact Or.inr ⟨q, h1, E', ce, L, ⟨_, ⟨u, h2, rfl⟩, ⟨h7, hb.1, hb.2⟩, fr_F hF⟩, g1, g2, g3, g4, g5, fun q hq => fr_A (h6 q hq)⟩
