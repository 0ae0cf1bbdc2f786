/-! PURE: the reference's hexadecimal number -/
theorem hx_inf {p u inf D G h : Nat} {x : Int} (h0 : 0 < inf) (hG : kG p u inf ≤ 2 ^ G) (hD : 2 ^ h ≤ D) (hx : (G : Int) ≤ h + x + 1088) : kR p u inf (xN D x) (xM x) inf := by
  refine kR_inf h0 (xM_pos x) ?_
  unfold xN xM
  refine Nat.le_trans (Nat.mul_le_mul_right _ hG) (Nat.le_trans ?_ (Nat.mul_le_mul_right _ hD))
  rw [← Nat.pow_add, ← Nat.pow_add]
  exact Nat.pow_le_pow_right (by omega) (by omega)
theorem hx_zero {p u inf D h : Nat} {x : Int} (h0 : 0 < inf) (hD : D < 2 ^ h) (hx : h + x + 1089 ≤ u) : kR p u inf (xN D x) (xM x) 0 := by
  have e0 : kG p u 0 = 0 := by unfold kG; simp
  have e1 : kG p u (0 + 1) = 2 ^ u := by
    rw [kG_kc1]
    unfold kc
    rw [Nat.zero_div]
    simp
  have h2 : 2 * xN D x < 2 ^ u * xM x := by
    unfold xN xM
    have h3 : D * 2 ^ (x + 1088).toNat < 2 ^ h * 2 ^ (x + 1088).toNat := Nat.mul_lt_mul_of_pos_right hD (Nat.two_pow_pos _)
    have h4 : 2 * (2 ^ h * 2 ^ (x + 1088).toNat) ≤ 2 ^ u * 2 ^ (-x - 1088).toNat := by
      rw [← Nat.pow_add, ← Nat.pow_add, ← Nat.pow_succ']
      exact Nat.pow_le_pow_right (by omega) (by omega)
    omega
  refine ⟨0, h0, by rw [e0, Nat.zero_mul]; omega, Or.inl ?_, Or.inl ⟨Or.inl ?_, rfl⟩⟩
  · rw [e1]; omega
  · rw [e0, e1, Nat.zero_add]; exact h2
theorem hx_0 {p u inf : Nat} {x : Int} (h0 : 0 < inf) : kR p u inf (xN 0 x) (xM x) 0 := by
  have e : xN 0 x = 0 := by
    unfold xN
    rw [Nat.zero_mul]
  rw [e]
  exact kR_0 h0 (xM_pos x)
theorem hx_exact {p u inf D a : Nat} {x : Int} (h0 : 0 < inf) (he : kG p u a * xM x = xN D x) : kR p u inf (xN D x) (xM x) (min inf a) := by
  have hM := xM_pos x
  have hlt := Nat.mul_lt_mul_of_pos_right (kG_lt p u a) hM
  by_cases ha : a < inf
  · rw [Nat.min_eq_right (Nat.le_of_lt ha)]
    refine ⟨a, ha, Nat.le_of_eq he, Or.inl (by omega), Or.inl ⟨Or.inl ?_, rfl⟩⟩
    rw [Nat.add_mul]
    omega
  · rw [Nat.min_eq_left (by omega)]
    refine kR_inf h0 hM ?_
    rw [← he]
    exact Nat.mul_le_mul_right _ (kG_le (by omega))
theorem hx_round {p u inf D U c E : Nat} {x : Int} (h0 : 0 < inf) (hU : u ≤ U) (hE : 0 < E) (hc : c = D / 2 ^ E) (hc1 : c < 2 ^ (p + 1)) (hc2 : U = u ∨ 2 ^ p ≤ c) (hx : (U : Int) = E + x + 1088) (hp : 1 ≤ p) : kR p u inf (xN D x) (xM x) (min inf (if 2 ^ (E - 1) < D % 2 ^ E ∨ (D % 2 ^ E = 2 ^ (E - 1) ∧ c % 2 = 1) then (U - u) * 2 ^ p + c + 1 else (U - u) * 2 ^ p + c)) := by
  have hM := xM_pos x
  have hA : 0 < 2 ^ (x + 1088).toNat := Nat.two_pow_pos _
  have hcv : ∀ k : Nat, k * 2 ^ U * xM x = k * 2 ^ E * 2 ^ (x + 1088).toNat := by
    intro k
    unfold xM
    rw [Nat.mul_assoc, Nat.mul_assoc, ← Nat.pow_add, ← Nat.pow_add, show U + (-x - 1088).toNat = E + (x + 1088).toNat by omega]
  have hd := Nat.div_add_mod D (2 ^ E)
  rw [← hc, Nat.mul_comm] at hd
  have hq := Nat.mod_lt D (Nat.two_pow_pos E)
  have eE : 2 ^ E = 2 * 2 ^ (E - 1) := by
    rw [← Nat.pow_succ', Nat.succ_eq_add_one, Nat.sub_add_cancel hE]
  have hG := kG_c hU (Nat.le_of_lt hc1) hc2
  have hG1 := kG_next hU hc1 hc2
  have hle : kG p u ((U - u) * 2 ^ p + c) * xM x ≤ xN D x := by
    rw [hG, hcv]
    unfold xN
    exact Nat.mul_le_mul_right _ (by omega)
  have hpar : ((U - u) * 2 ^ p + c) % 2 = c % 2 := by
    obtain ⟨p', rfl⟩ : ∃ p', p = p' + 1 := ⟨p - 1, by omega⟩
    rw [Nat.pow_succ, ← Nat.mul_assoc, Nat.add_comm, Nat.add_mul_mod_self_right]
  by_cases ha : (U - u) * 2 ^ p + c < inf
  · have hmid : (kG p u ((U - u) * 2 ^ p + c) + kG p u ((U - u) * 2 ^ p + c + 1)) * xM x = (2 * c + 1) * 2 ^ E * 2 ^ (x + 1088).toNat := by
      rw [hG, hG1, ← Nat.add_mul, hcv, show c + (c + 1) = 2 * c + 1 by omega]
    have e2 : 2 * xN D x = 2 * D * 2 ^ (x + 1088).toNat := by
      unfold xN
      rw [Nat.mul_assoc]
    have e3 : (2 * c + 1) * 2 ^ E = 2 * (c * 2 ^ E) + 2 * 2 ^ (E - 1) := by
      rw [Nat.add_mul, Nat.mul_assoc, Nat.one_mul, ← eE]
    have l1 : 2 * xN D x < (2 * c + 1) * 2 ^ E * 2 ^ (x + 1088).toNat ↔ D % 2 ^ E < 2 ^ (E - 1) := by
      rw [e2, Nat.mul_lt_mul_right hA, e3]
      omega
    have l2 : 2 * xN D x = (2 * c + 1) * 2 ^ E * 2 ^ (x + 1088).toNat ↔ D % 2 ^ E = 2 ^ (E - 1) := by
      rw [e2]
      constructor
      · intro y
        have := Nat.eq_of_mul_eq_mul_right hA y
        rw [e3] at this
        omega
      · intro y
        rw [show 2 * D = (2 * c + 1) * 2 ^ E by rw [e3]; omega]
    refine ⟨(U - u) * 2 ^ p + c, ha, hle, Or.inl ?_, ?_⟩
    · rw [hG1, hcv]
      unfold xN
      rw [Nat.mul_lt_mul_right hA, Nat.add_mul, Nat.one_mul]
      omega
    · rw [hmid, l1, l2, hpar]
      by_cases hr : 2 ^ (E - 1) < D % 2 ^ E ∨ (D % 2 ^ E = 2 ^ (E - 1) ∧ c % 2 = 1)
      · rw [if_pos hr, Nat.min_eq_right (by omega)]
        refine Or.inr ⟨fun y => ?_, rfl⟩
        omega
      · rw [if_neg hr, Nat.min_eq_right (by omega)]
        refine Or.inl ⟨?_, rfl⟩
        omega
  · have e : min inf (if 2 ^ (E - 1) < D % 2 ^ E ∨ (D % 2 ^ E = 2 ^ (E - 1) ∧ c % 2 = 1) then (U - u) * 2 ^ p + c + 1 else (U - u) * 2 ^ p + c) = inf := by
      refine Nat.min_eq_left ?_
      split <;> omega
    rw [e]
    refine kR_inf h0 hM ?_
    exact Nat.le_trans (Nat.mul_le_mul_right _ (kG_le (by omega))) hle
/-- the cut of an exponent changes nothing -/
theorem hx_cut {p u inf D n s : Nat} {x x' : Int} (h0 : 0 < inf) (hG : kG p u inf ≤ 2 ^ 2112) (hD : D < 2 ^ n) (hc : x = x' ∨ (1024 ≤ x ∧ 1024 ≤ x') ∨ (x ≤ -1089 - n ∧ x' ≤ -1089 - n)) (h : kR p u inf (xN D x') (xM x') s) : kR p u inf (xN D x) (xM x) s := by
  rcases hc with hc | ⟨h1, h2⟩ | ⟨h1, h2⟩
  · rw [hc]; exact h
  · by_cases hD0 : D = 0
    · subst hD0
      rw [kR_unique h (hx_0 h0)]
      exact hx_0 h0
    · have hD1 : 2 ^ 0 ≤ D := by
        rw [Nat.pow_zero]
        omega
      rw [kR_unique h (hx_inf h0 hG hD1 (by omega))]
      exact hx_inf h0 hG hD1 (by omega)
  · rw [kR_unique h (hx_zero h0 hD (by omega))]
    exact hx_zero h0 hD (by omega)
/-- mv is D without its last T bits; R are these -/
theorem hx_div {D T R mv k : Nat} (hD : D = mv * 2 ^ T + R) (hR : R < 2 ^ T) : D / 2 ^ (k + T) = mv / 2 ^ k ∧ D % 2 ^ (k + T) = mv % 2 ^ k * 2 ^ T + R := by
  have hT := Nat.two_pow_pos T
  have h1 : D / 2 ^ T = mv := by
    rw [hD, Nat.mul_comm, Nat.mul_add_div hT, Nat.div_eq_of_lt hR, Nat.add_zero]
  have h2 : D % 2 ^ T = R := by
    rw [hD, Nat.mul_comm, Nat.mul_add_mod, Nat.mod_eq_of_lt hR]
  constructor
  · rw [Nat.pow_add, Nat.mul_comm, ← Nat.div_div_eq_div_mul, h1]
  · rw [Nat.pow_add, Nat.mul_comm, Nat.mod_mul, h1, h2, Nat.mul_comm]
    omega
theorem rd_out {p e U c : Nat} (hp : p < 64) (hc1 : 2 ^ p ≤ c) (hc2 : c < 2 ^ p * 2) (h1 : U + 1 < e) (he : e * 2 ^ p < 2 ^ 64) : U * 2 ^ p + c ≤ e * 2 ^ p ∧ lN ((U + 1) * 2 ^ p) ||| lN (c % 2 ^ p) = lN (U * 2 ^ p + c) := by
  have hB : 0 < 2 ^ p := Nat.two_pow_pos p
  have hm : c % 2 ^ p = c - 2 ^ p := by
    rw [Nat.mod_eq_sub_mod hc1, Nat.mod_eq_of_lt (by omega)]
  have hle : (U + 2) * 2 ^ p ≤ e * 2 ^ p := Nat.mul_le_mul_right _ (by omega)
  have e1 : (U + 2) * 2 ^ p = U * 2 ^ p + 2 * 2 ^ p := Nat.add_mul _ _ _
  have e2 : (U + 1) * 2 ^ p = U * 2 ^ p + 2 ^ p := by rw [Nat.add_mul, Nat.one_mul]
  refine ⟨by omega, ?_⟩
  rw [g_or (k := p) rfl (Nat.mod_lt _ hB) (by omega), hm]
  congr 1
  omega
theorem rd_carry {p u U : Nat} (h : u ≤ U) : (U + 1 - u) * 2 ^ p + 2 ^ p = (U - u) * 2 ^ p + 2 ^ (p + 1) := by
  rw [show U + 1 - u = U - u + 1 by omega, Nat.add_mul, Nat.one_mul, Nat.pow_succ]
  omega
theorem rd_big {p e U c : Nat} (hc1 : 2 ^ p ≤ c) (h1 : ¬ U + 1 < e) (he : 0 < e) : e * 2 ^ p ≤ U * 2 ^ p + c := by
  have hle : e * 2 ^ p ≤ (U + 1) * 2 ^ p := Nat.mul_le_mul_right _ (by omega)
  rw [Nat.add_mul, Nat.one_mul] at hle
  omega
