/-! PURE: the search's comparisons -/
theorem kG_kc1 (p u a : Nat) : kG p u (a + 1) = (kc p a + 1) * 2 ^ (u + (a / 2 ^ p - 1)) := by
  have hd := Nat.div_add_mod a (2 ^ p)
  have hm := Nat.mod_lt a (Nat.two_pow_pos p)
  have hc := kc_lt p a
  have e : a = (u + (a / 2 ^ p - 1) - u) * 2 ^ p + kc p a := by
    rw [show u + (a / 2 ^ p - 1) - u = a / 2 ^ p - 1 by omega]
    unfold kc
    split
    · next h => rw [h]; simp
    · next h =>
      obtain ⟨k, hk⟩ := Nat.exists_eq_succ_of_ne_zero h
      rw [hk, Nat.mul_succ] at hd
      rw [hk, Nat.succ_sub_one, Nat.mul_comm k]
      omega
  have h2 := kG_next (p := p) (u := u) (U := u + (a / 2 ^ p - 1)) (c := kc p a) (by omega) hc (by
    unfold kc
    split
    · next h => left; rw [h]; rfl
    · right; omega)
  rw [← h2, ← e]
theorem near_eq {p u a K : Nat} {q : Int} (hq : q + 1088 = ((u + (a / 2 ^ p - 1) : Nat) : Int)) (hK : 1088 ≤ K) : kc p a * 2 ^ (q + K).toNat * 5 ^ K * T34 = kG p u a * 10 ^ K := by
  rw [kG_kc, p10]
  generalize kc p a = y
  have e : 2 ^ (q + K).toNat * T34 = 2 ^ (u + (a / 2 ^ p - 1)) * 2 ^ K := by
    rw [T34_pow, ← Nat.pow_add, ← Nat.pow_add, show (q + K).toNat + 1088 = u + (a / 2 ^ p - 1) + K by omega]
  generalize T34 = T at *
  calc y * 2 ^ (q + K).toNat * 5 ^ K * T = y * (2 ^ (q + K).toNat * T) * 5 ^ K := by ac_rfl
    _ = y * 2 ^ (u + (a / 2 ^ p - 1)) * (2 ^ K * 5 ^ K) := by rw [e]; ac_rfl
theorem near_mid {p u a K : Nat} {q : Int} (hq : q + 1089 = ((u + (a / 2 ^ p - 1) : Nat) : Int)) (hK : 1089 ≤ K) : 2 * ((2 * kc p a + 1) * 2 ^ (q + K).toNat * 5 ^ K * T34) = (kG p u a + kG p u (a + 1)) * 10 ^ K := by
  rw [kG_kc1, kG_kc, p10]
  generalize kc p a = y
  have e : 2 * (2 ^ (q + K).toNat * T34) = 2 ^ (u + (a / 2 ^ p - 1)) * 2 ^ K := by
    rw [T34_pow, ← Nat.pow_add, ← Nat.pow_add, ← Nat.pow_succ', show ((q + K).toNat + 1088).succ = u + (a / 2 ^ p - 1) + K by omega]
  generalize T34 = T at *
  rw [← Nat.add_mul, show y + (y + 1) = 2 * y + 1 by omega]
  generalize 2 * y + 1 = y2
  calc 2 * (y2 * 2 ^ (q + K).toNat * 5 ^ K * T) = y2 * (2 * (2 ^ (q + K).toNat * T)) * 5 ^ K := by ac_rfl
    _ = y2 * 2 ^ (u + (a / 2 ^ p - 1)) * (2 ^ K * 5 ^ K) := by rw [e]; ac_rfl
theorem cmp_lt {S R G T : Nat} (h : R * T = G) (hT : 0 < T) : S < R ↔ S * T < G := by
  rw [← h]
  exact (Nat.mul_lt_mul_right hT).symm
theorem cmp_le {S R G T : Nat} (h : R * T = G) (hT : 0 < T) : R ≤ S ↔ G ≤ S * T := by
  rw [← h]
  exact ⟨fun q => Nat.mul_le_mul_right T q, fun q => Nat.le_of_mul_le_mul_right q hT⟩
theorem cmp_lt2 {S R G T : Nat} (h : 2 * (R * T) = G) (hT : 0 < T) : S < R ↔ 2 * (S * T) < G := by
  rw [← h]
  constructor
  · intro q
    have := (Nat.mul_lt_mul_right hT).mpr q
    omega
  · intro q
    exact (Nat.mul_lt_mul_right hT).mp (by omega)
theorem cmp_eq2 {S R G T : Nat} (h : 2 * (R * T) = G) (hT : 0 < T) : S = R ↔ 2 * (S * T) = G := by
  rw [← h]
  constructor
  · intro q
    rw [q]
  · intro q
    exact Nat.eq_of_mul_eq_mul_right hT (by omega)
theorem p400_d : 2 ^ 2112 ≤ 10 ^ 400 * T34 := by decide +kernel
theorem p400_f : 2 ^ 1216 ≤ 10 ^ 400 * T34 := by decide +kernel
theorem p401_d : 2 * T34 < 2 ^ 14 * 10 ^ 401 := by decide +kernel
theorem p401_f : 2 * T34 < 2 ^ 939 * 10 ^ 401 := by decide +kernel
/-- far above: infinity -/
theorem near_inf {p u inf S K : Nat} {P : Int} (h0 : 0 < inf) (hG : kG p u inf ≤ 10 ^ 400 * T34) (hP : 400 < P) (hS : 10 ^ (P - 1 + K).toNat ≤ S) : kR p u inf (S * T34) (10 ^ K) inf := by
  refine kR_inf h0 (Nat.pow_pos (by omega)) ?_
  refine Nat.le_trans (Nat.mul_le_mul_right _ hG) ?_
  rw [Nat.mul_right_comm, ← Nat.pow_add]
  refine Nat.mul_le_mul_right _ (Nat.le_trans ?_ hS)
  exact Nat.pow_le_pow_right (by omega) (by omega)
/-- far below: nothing -/
theorem near_zero {p u inf S K : Nat} {P : Int} (e4 : Nat) (h0 : 0 < inf) (hG : 2 * T34 < 2 ^ u * 10 ^ e4) (hP : P + e4 ≤ 0) (hK : e4 ≤ K) (hS : S < 10 ^ (P + K).toNat) : kR p u inf (S * T34) (10 ^ K) 0 := by
  have e0 : kG p u 0 = 0 := by unfold kG; simp
  have e1 : kG p u (0 + 1) = 2 ^ u := by
    rw [kG_kc1]
    unfold kc
    rw [Nat.zero_div]
    simp
  have h2 : 2 * (S * T34) < 2 ^ u * 10 ^ K := by
    have h3 : S ≤ 10 ^ (K - e4) := Nat.le_trans (Nat.le_of_lt hS) (Nat.pow_le_pow_right (by omega) (by omega))
    have h4 : 10 ^ K = 10 ^ e4 * 10 ^ (K - e4) := by
      have h := Nat.pow_add 10 e4 (K - e4)
      rw [show e4 + (K - e4) = K by omega] at h
      exact h
    have h5 : 2 * (S * T34) ≤ 2 * T34 * 10 ^ (K - e4) := by
      rw [← Nat.mul_assoc, Nat.mul_right_comm]
      exact Nat.mul_le_mul_left _ h3
    have h6 : 2 * T34 * 10 ^ (K - e4) < 2 ^ u * 10 ^ e4 * 10 ^ (K - e4) := Nat.mul_lt_mul_of_pos_right hG (Nat.pow_pos (by omega))
    rw [h4, ← Nat.mul_assoc (2 ^ u)]
    exact Nat.lt_of_le_of_lt h5 h6
  refine ⟨0, h0, by rw [e0, Nat.zero_mul]; omega, Or.inl ?_, Or.inl ⟨Or.inl ?_, rfl⟩⟩
  · rw [e1]; omega
  · rw [e0, e1, Nat.zero_add]; exact h2
section S4
variable {p : Program} {l : Launch} {e : Env} {R : Room} {s : State} {m : MethodId} {args : Array Value} {below : List Frame} {meth : Method} {c : Code} {D : va_G} {X : jX} {A : Nat → Prop} {nL : Nat} {Q : State → Prop} {pc : Nat} {L : List (Option Value)} {S : List Value} {w : va_W} {cc : ByteArray} {ret : Option FieldType} {tys : List (ClassId × FieldType)} {own : String}
theorem j_S4i {y : MethodName} {bytes : ByteArray} {maxL idx : Nat} {ret' : Option FieldType} {rm : Room} {q : Int32 → va_W → Prop} {v0 v1 v2 v3 : Value} (hC : jC p s m args meth c cc nL ret own D tys A X) (hw : jwS own idx y bytes maxL ret' 4) (hR : jroom rm R maxL) (hroom : (S.map fun v => v.category).sum ≤ 8) (hd : decode cc pc = .ok (.invokestatic idx, 3)) (hM : jM l y bytes maxL ret' rm D tys X [v0, v1, v2, v3] w (jPi q)) (kk : ∀ (r : Int32) (w2 : va_W), q r w2 → J p l e R s m args below meth c D A nL Q (pc + 3) L (.int r :: S) w2) : J p l e R s m args below meth c D A nL Q pc L (v3 :: v2 :: v1 :: v0 :: S) w := j_callS (As := [v0, v1, v2, v3]) hC hw hR rfl hroom hd hM (fun v w2 h => by obtain ⟨r, rfl, h⟩ := h; exact kk r w2 h)
end S4
