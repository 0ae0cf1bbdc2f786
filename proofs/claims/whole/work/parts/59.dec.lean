/-! PURE: the reference's decimal number -/
theorem kR_0 {p u inf M : Nat} (h0 : 0 < inf) (hM : 0 < M) : kR p u inf 0 M 0 := by
  have e0 : kG p u 0 = 0 := by unfold kG; simp
  have h1 : 0 < kG p u (0 + 1) := by
    have := kG_lt p u 0
    omega
  have h2 := Nat.mul_pos h1 hM
  refine ⟨0, h0, by rw [e0]; omega, Or.inl h2, Or.inl ⟨Or.inl ?_, rfl⟩⟩
  rw [e0, Nat.zero_add]
  exact h2
theorem dec_zero {p u inf : Nat} {x : Int} (h0 : 0 < inf) : kR p u inf (dN 0 x) (dM x) 0 := by
  have e : dN 0 x = 0 := by
    unfold dN
    rw [Nat.zero_mul, Nat.zero_mul]
  rw [e]
  exact kR_0 h0 (dM_pos x)
theorem dec_up {p u inf D : Nat} {x : Int} (h0 : 0 < inf) (hG : kG p u inf ≤ 10 ^ 400 * T34) (hD : 0 < D) (hx : 400 ≤ x) : kR p u inf (dN D x) (dM x) inf := by
  have h := near_inf (p := p) (u := u) (inf := inf) (S := D * 10 ^ x.toNat) (K := 0) (P := x + 1) h0 hG (by omega) (by
    rw [show (x + 1 - 1 + ((0 : Nat) : Int)).toNat = x.toNat by omega]
    exact Nat.le_mul_of_pos_left _ hD)
  unfold dN dM
  rw [show (-x).toNat = 0 by omega]
  exact h
theorem dec_down {p u inf D n : Nat} {x : Int} (h0 : 0 < inf) (hG : 2 * T34 < 2 ^ u * 10 ^ 401) (hD : D < 10 ^ n) (hx : x ≤ -401 - n) : kR p u inf (dN D x) (dM x) 0 := by
  have h := near_zero (p := p) (u := u) (inf := inf) (S := D) (K := (-x).toNat) (P := -401) 401 h0 hG (by omega) (by omega) (Nat.lt_of_lt_of_le hD (Nat.pow_le_pow_right (by omega) (by omega)))
  unfold dN dM
  rw [show x.toNat = 0 by omega, Nat.pow_zero, Nat.mul_one]
  exact h
/-- an exponent cut from 10^7 on changes nothing -/
theorem dec_cut {p u inf D n s : Nat} {x x' : Int} (h0 : 0 < inf) (hG : kG p u inf ≤ 10 ^ 400 * T34) (hG2 : 2 * T34 < 2 ^ u * 10 ^ 401) (hD : D < 10 ^ n) (hc : x = x' ∨ (400 ≤ x ∧ 400 ≤ x') ∨ (x ≤ -401 - n ∧ x' ≤ -401 - n)) (h : kR p u inf (dN D x') (dM x') s) : kR p u inf (dN D x) (dM x) s := by
  rcases hc with hc | ⟨h1, h2⟩ | ⟨h1, h2⟩
  · rw [hc]; exact h
  · by_cases hD0 : D = 0
    · subst hD0
      rw [kR_unique h (dec_zero h0)]
      exact dec_zero h0
    · rw [kR_unique h (dec_up h0 hG (by omega) h2)]
      exact dec_up h0 hG (by omega) h1
  · rw [kR_unique h (dec_down h0 hG2 hD h2)]
    exact dec_down h0 hG2 hD h1
theorem dec_of_sv {p u inf s dn k K : Nat} {f : Nat → Nat} {P x : Int} (hk : dn ≤ k) (hz : ∀ i, dn ≤ i → i < k → f i = 0) (hP : P = k + x) (hK : 0 ≤ P - k + K) (h : kR p u inf (sv f dn P K * T34) (10 ^ K) s) : kR p u inf (dN (hv 10 f k) x) (dM x) s := by
  refine kR_same (Nat.pow_pos (by omega)) (dM_pos x) ?_ h
  have hc := sv_cut (f := f) (n := dn) (d := k - dn) (K := K) (p := P) (fun i hi hi2 => hz i hi (by omega)) (by omega)
  rw [show dn + (k - dn) = k by omega] at hc
  rw [← hc]
  unfold sv dN dM
  exact mul4 _ _ (by omega)
/-- the reference's reading of a number from b on: r and the place behind it -/
def scQ (t : Nat → Int32) (b z : Nat) (hx : Bool) (c0 n1 n2 c2 c3 : Nat) (me : Bool) (c5 n3 c6 : Nat) : Prop := scD t b z hx c0 n1 n2 c2 c3 ∧ 0 < n1 + n2 ∧ scE t c3 z hx true (me = true) c5 n3 c6
def vR (p u inf : Nat) (t : Nat → Int32) (b z : Nat) (hx : Bool) (r : Int64) (ps2 : Int32) : Prop :=
  (∃ (c0 n1 n2 c2 c3 : Nat) (me : Bool) (c5 n3 c6 : Nat), scQ t b z hx c0 n1 n2 c2 c3 me c5 n3 c6 ∧ ps2 = nI c6 ∧ ∃ s, s ≤ inf ∧ (hx = true → kR p u inf (xN (hv 16 (tdg t c0 n1 c2 (n1 + n2)) (n1 + n2)) (ei t me c5 n3 - 4 * (n2 : Int))) (xM (ei t me c5 n3 - 4 * (n2 : Int))) s) ∧ (hx = false → kR p u inf (dN (hv 10 (tdg t c0 n1 c2 (n1 + n2)) (n1 + n2)) (ei t me c5 n3 - (n2 : Int))) (dM (ei t me c5 n3 - (n2 : Int))) s) ∧ r = lN s) ∨
  ((∀ (c0 n1 n2 c2 c3 : Nat) (me : Bool) (c5 n3 c6 : Nat), ¬ scQ t b z hx c0 n1 n2 c2 c3 me c5 n3 c6) ∧ r = -1 ∧ ∃ q, q ≤ z ∧ ps2 = nI q)
theorem scQ_no0 {t : Nat → Int32} {b z : Nat} {hx : Bool} {c0 n1 n2 c2 c3 : Nat} (h : scD t b z hx c0 n1 n2 c2 c3) (h0 : n1 + n2 = 0) : ∀ (c0 n1 n2 c2 c3 : Nat) (me : Bool) (c5 n3 c6 : Nat), ¬ scQ t b z hx c0 n1 n2 c2 c3 me c5 n3 c6 := by
  intro c0' n1' n2' c2' c3' me c5 n3 c6 hq
  obtain ⟨-, -, h1, h2, -⟩ := scD_fun h hq.1
  have := hq.2.1
  omega
theorem scQ_noE {t : Nat → Int32} {b z : Nat} {hx : Bool} {c0 n1 n2 c2 c3 : Nat} {mi : Prop} {c5 n3 c6 : Nat} (h : scD t b z hx c0 n1 n2 c2 c3) (h0 : scE t c3 z hx false mi c5 n3 c6) : ∀ (c0 n1 n2 c2 c3 : Nat) (me : Bool) (c5 n3 c6 : Nat), ¬ scQ t b z hx c0 n1 n2 c2 c3 me c5 n3 c6 := by
  intro c0' n1' n2' c2' c3' me c5' n3' c6' hq
  obtain ⟨-, -, h1, h2, h3, h4⟩ := scD_fun h hq.1
  subst h4
  have := (scE_fun h0 hq.2.2).1
  cases this
theorem scD_ex (t : Nat → Int32) (b z : Nat) (hx : Bool) (h : hx = true ↔ hxs t b z) : ∃ c0 n1 n2 c2 c3 : Nat, scD t b z hx c0 n1 n2 c2 c3 := by
  by_cases hp : isc t (b + (if hx then 2 else 0) + rn t (if hx then 16 else 10) (b + (if hx then 2 else 0)) (z - (b + (if hx then 2 else 0)))) z 46
  · exact ⟨_, _, _, _, _, h, rfl, rfl, Or.inl ⟨hp, rfl, rfl⟩, rfl⟩
  · exact ⟨_, _, _, _, _, h, rfl, rfl, Or.inr ⟨hp, rfl, rfl⟩, rfl⟩
theorem exp_le {t : Nat → Int32} {c3 z c5 n3 : Nat} (h3 : c3 < z) (h2 : sgP t (c3 + 1) z ∧ c5 = c3 + 2 ∨ ¬ sgP t (c3 + 1) z ∧ c5 = c3 + 1) (hn : n3 = rn t 10 c5 (z - c5)) : c5 + n3 ≤ z := by
  have h := rn_le t 10 (z - c5) c5
  rcases h2 with ⟨h1, h4⟩ | ⟨h1, h4⟩
  · have : c3 + 1 < z := by rcases h1 with q | q <;> exact q.1
    omega
  · omega
