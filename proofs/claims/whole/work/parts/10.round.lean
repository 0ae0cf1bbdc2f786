/-! PURE: the doubles (p = 52) and floats (p = 23) by their places: kG p u a is the value of the a-th, in units of 2^-1088; u the units of the smallest -/
def kG (p u a : Nat) : Nat := if a / 2 ^ p = 0 then a * 2 ^ u else (a % 2 ^ p + 2 ^ p) * 2 ^ (u + (a / 2 ^ p - 1))
theorem kG_c {p u U c : Nat} (hU : u ≤ U) (hc : c ≤ 2 ^ (p + 1)) (h : U = u ∨ 2 ^ p ≤ c) : kG p u ((U - u) * 2 ^ p + c) = c * 2 ^ U := by
  have hB : 0 < 2 ^ p := Nat.two_pow_pos p
  rw [Nat.pow_succ] at hc
  unfold kG
  by_cases h1 : c < 2 ^ p
  · have hUu : U = u := by omega
    subst hUu
    have e0 : (U - U) * 2 ^ p + c = c := by simp
    rw [e0, Nat.div_eq_of_lt h1]
    simp
  · by_cases h2 : c < 2 * 2 ^ p
    · obtain ⟨f, rfl⟩ : ∃ f, c = 2 ^ p + f := ⟨c - 2 ^ p, by omega⟩
      have hf : f < 2 ^ p := by omega
      have e0 : (U - u) * 2 ^ p + (2 ^ p + f) = f + 2 ^ p * (U - u + 1) := by
        rw [Nat.mul_comm (U - u), Nat.mul_add, Nat.mul_one]; omega
      have e1 : (f + 2 ^ p * (U - u + 1)) / 2 ^ p = U - u + 1 := by
        rw [Nat.add_mul_div_left _ _ hB, Nat.div_eq_of_lt hf]; omega
      have e2 : (f + 2 ^ p * (U - u + 1)) % 2 ^ p = f := by
        rw [Nat.add_mul_mod_self_left, Nat.mod_eq_of_lt hf]
      rw [e0, e1, e2, if_neg (by omega)]
      have e3 : u + (U - u + 1 - 1) = U := by omega
      rw [e3, Nat.add_comm f]
    · have hc2 : c = 2 * 2 ^ p := by omega
      subst hc2
      have e0 : (U - u) * 2 ^ p + 2 * 2 ^ p = 2 ^ p * (U - u + 2) := by
        rw [Nat.mul_comm (U - u), Nat.mul_add, Nat.mul_comm 2]
      have e1 : (2 ^ p * (U - u + 2)) / 2 ^ p = U - u + 2 := Nat.mul_div_cancel_left _ hB
      have e2 : (2 ^ p * (U - u + 2)) % 2 ^ p = 0 := Nat.mul_mod_right _ _
      rw [e0, e1, e2, if_neg (by omega)]
      have e3 : u + (U - u + 2 - 1) = U + 1 := by omega
      rw [e3, Nat.zero_add, Nat.pow_succ, Nat.mul_comm (2 ^ U) 2, ← Nat.mul_assoc, Nat.mul_comm (2 ^ p) 2]
/-- every place has such a form -/
theorem kG_form (p u a : Nat) : ∃ U c : Nat, u ≤ U ∧ c < 2 ^ (p + 1) ∧ (U = u ∨ 2 ^ p ≤ c) ∧ a = (U - u) * 2 ^ p + c := by
  have hB : 0 < 2 ^ p := Nat.two_pow_pos p
  rw [Nat.pow_succ]
  have hd := Nat.div_add_mod a (2 ^ p)
  have hm := Nat.mod_lt a hB
  by_cases h : a / 2 ^ p = 0
  · refine ⟨u, a, Nat.le_refl _, ?_, Or.inl rfl, by simp⟩
    rw [h] at hd
    omega
  · obtain ⟨e, he⟩ : ∃ e, a / 2 ^ p = e + 1 := Nat.exists_eq_succ_of_ne_zero h
    refine ⟨u + e, a % 2 ^ p + 2 ^ p, by omega, by omega, Or.inr (by omega), ?_⟩
    rw [he, Nat.mul_add, Nat.mul_one] at hd
    have : u + e - u = e := by omega
    rw [this, Nat.mul_comm e]
    omega
theorem kG_next {p u U c : Nat} (hU : u ≤ U) (hc : c < 2 ^ (p + 1)) (h : U = u ∨ 2 ^ p ≤ c) : kG p u ((U - u) * 2 ^ p + c + 1) = (c + 1) * 2 ^ U := by
  rw [Nat.add_assoc]
  exact kG_c hU hc (by omega)
theorem kG_lt (p u a : Nat) : kG p u a < kG p u (a + 1) := by
  obtain ⟨U, c, h1, h2, h3, rfl⟩ := kG_form p u a
  rw [kG_c h1 (Nat.le_of_lt h2) h3, kG_next h1 h2 h3]
  exact Nat.mul_lt_mul_of_pos_right (Nat.lt_succ_self c) (Nat.two_pow_pos U)
theorem kG_mono {p u a b : Nat} (h : a < b) : kG p u a < kG p u b := by
  obtain ⟨d, rfl⟩ : ∃ d, b = a + 1 + d := ⟨b - (a + 1), by omega⟩
  induction d with
  | zero => exact kG_lt p u a
  | succ d ih => exact Nat.lt_trans (ih (by omega)) (kG_lt p u (a + 1 + d))
theorem kG_le {p u a b : Nat} (h : a ≤ b) : kG p u a ≤ kG p u b := by
  rcases Nat.lt_or_eq_of_le h with h | h
  · exact Nat.le_of_lt (kG_mono h)
  · rw [h]; exact Nat.le_refl _
/-- N / M (in units of 2^-1088), rounded once to places below inf, is r -/
def kR (p u inf N M r : Nat) : Prop := ∃ a, a < inf ∧ kG p u a * M ≤ N ∧ (N < kG p u (a + 1) * M ∨ a + 1 = inf) ∧ ((2 * N < (kG p u a + kG p u (a + 1)) * M ∨ (2 * N = (kG p u a + kG p u (a + 1)) * M ∧ a % 2 = 0)) ∧ r = a ∨ ¬ (2 * N < (kG p u a + kG p u (a + 1)) * M ∨ (2 * N = (kG p u a + kG p u (a + 1)) * M ∧ a % 2 = 0)) ∧ r = a + 1)
theorem kR_a {p u inf N M a b : Nat} (ha : a < inf) (h1 : kG p u b * M ≤ N) (h2 : N < kG p u (a + 1) * M ∨ a + 1 = inf) (hb : b < inf) : b ≤ a := by
  rcases Nat.lt_or_ge a b with h | h
  · rcases h2 with h2 | h2
    · have h3 : kG p u (a + 1) * M ≤ kG p u b * M := Nat.mul_le_mul_right M (kG_le h)
      omega
    · omega
  · exact h
theorem kR_unique {p u inf N M r r' : Nat} (h : kR p u inf N M r) (h' : kR p u inf N M r') : r = r' := by
  obtain ⟨a, h1, h2, h3, h4⟩ := h
  obtain ⟨b, g1, g2, g3, g4⟩ := h'
  have e1 := kR_a h1 g2 h3 g1
  have e2 := kR_a g1 h2 g3 h1
  have e : a = b := Nat.le_antisymm e2 e1
  subst e
  rcases h4 with ⟨h4, h5⟩ | ⟨h4, h5⟩ <;> rcases g4 with ⟨g4, g5⟩ | ⟨g4, g5⟩
  · rw [h5, g5]
  · exact absurd h4 g4
  · exact absurd g4 h4
  · rw [h5, g5]
/-- the same number, another fraction -/
theorem kx_le {a N M N' M' : Nat} (hM : 0 < M) (hM' : 0 < M') (h : N * M' = N' * M) : a * M ≤ N ↔ a * M' ≤ N' := by
  constructor
  · intro q
    have h1 : a * M * M' ≤ N * M' := Nat.mul_le_mul_right M' q
    rw [h] at h1
    have h2 : a * M' * M ≤ N' * M := by
      rw [Nat.mul_right_comm]; exact h1
    exact Nat.le_of_mul_le_mul_right h2 hM
  · intro q
    have h1 : a * M' * M ≤ N' * M := Nat.mul_le_mul_right M q
    rw [← h] at h1
    have h2 : a * M * M' ≤ N * M' := by
      rw [Nat.mul_right_comm]; exact h1
    exact Nat.le_of_mul_le_mul_right h2 hM'
theorem kx_ge {a N M N' M' : Nat} (hM : 0 < M) (hM' : 0 < M') (h : N * M' = N' * M) : N ≤ a * M ↔ N' ≤ a * M' := by
  constructor
  · intro q
    have h1 : N * M' ≤ a * M * M' := Nat.mul_le_mul_right M' q
    rw [h, Nat.mul_right_comm] at h1
    exact Nat.le_of_mul_le_mul_right h1 hM
  · intro q
    have h1 : N' * M ≤ a * M' * M := Nat.mul_le_mul_right M q
    rw [← h, Nat.mul_right_comm] at h1
    exact Nat.le_of_mul_le_mul_right h1 hM'
theorem kR_same {p u inf N M N' M' r : Nat} (hM : 0 < M) (hM' : 0 < M') (h : N * M' = N' * M) (hR : kR p u inf N M r) : kR p u inf N' M' r := by
  obtain ⟨a, h1, h2, h3, h4⟩ := hR
  have hd : 2 * N * M' = 2 * N' * M := by rw [Nat.mul_assoc, h, Nat.mul_assoc]
  have l1 : ∀ x, x * M ≤ N ↔ x * M' ≤ N' := fun x => kx_le hM hM' h
  have l2 : ∀ x, 2 * N < x * M ↔ 2 * N' < x * M' := fun x => by
    rw [← Nat.not_le, ← Nat.not_le, kx_le (a := x) hM hM' hd]
  have l3 : ∀ x, 2 * N = x * M ↔ 2 * N' = x * M' := fun x => by
    have a1 := kx_le (a := x) hM hM' hd
    have a2 := kx_ge (a := x) hM hM' hd
    constructor
    · intro q; exact Nat.le_antisymm (a2.mp (Nat.le_of_eq q)) (a1.mp (Nat.le_of_eq q.symm))
    · intro q; exact Nat.le_antisymm (a2.mpr (Nat.le_of_eq q)) (a1.mpr (Nat.le_of_eq q.symm))
  have l4 : ∀ x, N < x * M ↔ N' < x * M' := fun x => by
    rw [← Nat.not_le, ← Nat.not_le, l1]
  refine ⟨a, h1, (l1 _).mp h2, ?_, ?_⟩
  · rcases h3 with h3 | h3
    · exact Or.inl ((l4 _).mp h3)
    · exact Or.inr h3
  · rw [← l2, ← l3]; exact h4
/-- past every place: infinity -/
theorem kR_inf {p u inf N M : Nat} (h0 : 0 < inf) (hM : 0 < M) (h : kG p u inf * M ≤ N) : kR p u inf N M inf := by
  obtain ⟨a, rfl⟩ : ∃ a, inf = a + 1 := ⟨inf - 1, by omega⟩
  have hlt := kG_lt p u a
  have h1 : kG p u a * M ≤ kG p u (a + 1) * M := Nat.mul_le_mul_right M (Nat.le_of_lt hlt)
  have h1' : kG p u a * M < kG p u (a + 1) * M := Nat.mul_lt_mul_of_pos_right hlt hM
  refine ⟨a, Nat.lt_succ_self a, by omega, Or.inr rfl, Or.inr ⟨?_, rfl⟩⟩
  rw [Nat.add_mul]
  omega
/-- a number and its bits: w is N / M cut at whole units, as far as multiples of 2^13 can tell; mo says whether it was cut -/
def kA (w : Nat) (mo : Bool) (N M : Nat) : Prop := ∀ j : Nat, (j * 8192 * M ≤ N ↔ j * 8192 ≤ w) ∧ (j * 8192 * M < N ↔ (j * 8192 < w ∨ (j * 8192 = w ∧ mo = true)))
/-- one rounding of the bits w at the unit 2^U -/
theorem kR_bits {p u U c w N M inf : Nat} {mo : Bool} (hu : 14 ≤ u) (hU : u ≤ U) (hA : kA w mo N M) (hc : c = w / 2 ^ U) (hc1 : c < 2 ^ (p + 1)) (hc2 : U = u ∨ 2 ^ p ≤ c) (hi : (U - u) * 2 ^ p + c < inf) (hp : 1 ≤ p) :
    kR p u inf N M (if w / 2 ^ (U - 1) % 2 = 1 ∧ (c % 2 = 1 ∨ w % 2 ^ (U - 1) ≠ 0 ∨ mo = true) then (U - u) * 2 ^ p + c + 1 else (U - u) * 2 ^ p + c) := by
  obtain ⟨V, rfl⟩ : ∃ V, U = V + 14 := ⟨U - 14, by omega⟩
  have e13 : 2 ^ (V + 14) = 2 ^ V * 2 * 8192 := by
    rw [show V + 14 = V + 1 + 13 by omega, Nat.pow_add, Nat.pow_succ]
  have eh : 2 ^ (V + 14 - 1) = 2 ^ V * 8192 := by
    rw [show V + 14 - 1 = V + 13 by omega, Nat.pow_add]
  have hV : 0 < 2 ^ V := Nat.two_pow_pos V
  have hG := kG_c hU (Nat.le_of_lt hc1) hc2
  have hG1 := kG_next hU hc1 hc2
  -- w = c * 2^U + h * 2^(U-1) + r
  have hpos : 0 < 2 ^ (V + 14) := Nat.two_pow_pos _
  have hw := Nat.div_add_mod w (2 ^ (V + 14))
  have hr := Nat.mod_lt w hpos
  rw [← hc] at hw
  have hA0 := hA (c * (2 ^ V * 2))
  have hA1 := hA ((c + 1) * (2 ^ V * 2))
  have hA2 := hA (c * (2 ^ V * 2) + 2 ^ V)
  have k0 : c * (2 ^ V * 2) * 8192 = c * 2 ^ (V + 14) := by rw [e13, Nat.mul_assoc, Nat.mul_assoc]
  have k1 : (c + 1) * (2 ^ V * 2) * 8192 = (c + 1) * 2 ^ (V + 14) := by rw [e13, Nat.mul_assoc, Nat.mul_assoc]
  have k2 : (c * (2 ^ V * 2) + 2 ^ V) * 8192 = c * 2 ^ (V + 14) + 2 ^ V * 8192 := by rw [Nat.add_mul, k0]
  rw [k0] at hA0
  rw [k1] at hA1
  rw [k2] at hA2
  have hcc : 2 ^ (V + 14) * c = c * 2 ^ (V + 14) := Nat.mul_comm _ _
  have hc1m : (c + 1) * 2 ^ (V + 14) = c * 2 ^ (V + 14) + 2 ^ (V + 14) := by rw [Nat.add_mul, Nat.one_mul]
  -- the half
  have hmid : (c * 2 ^ (V + 14) + (c + 1) * 2 ^ (V + 14)) = 2 * (c * 2 ^ (V + 14) + 2 ^ V * 8192) := by
    rw [hc1m, e13]; omega
  have hpar : ((V + 14 - u) * 2 ^ p + c) % 2 = c % 2 := by
    obtain ⟨p', rfl⟩ : ∃ p', p = p' + 1 := ⟨p - 1, by omega⟩
    rw [Nat.pow_succ, ← Nat.mul_assoc, Nat.add_comm, Nat.add_mul_mod_self_right]
  -- bits
  have hbit : w / 2 ^ (V + 14 - 1) % 2 = 1 ↔ 2 ^ V * 8192 ≤ w % 2 ^ (V + 14) := by
    rw [eh]
    have hq : 0 < 2 ^ V * 8192 := by omega
    have e2 : 2 ^ (V + 14) = (2 ^ V * 8192) * 2 := by rw [e13, Nat.mul_right_comm]
    rw [e2]
    have := Nat.mod_mul (x := w) (a := 2 ^ V * 8192) (b := 2)
    rw [this]
    have hlt := Nat.mod_lt w hq
    rcases Nat.mod_two_eq_zero_or_one (w / (2 ^ V * 8192)) with h | h
    · rw [h]; constructor
      · intro z; omega
      · intro z; omega
    · rw [h]; constructor
      · intro z; omega
      · intro z; rfl
  have hlow : 2 ^ V * 8192 ≤ w % 2 ^ (V + 14) → (w % 2 ^ (V + 14 - 1) ≠ 0 ↔ 2 ^ V * 8192 < w % 2 ^ (V + 14)) := by
    intro hle
    rw [eh]
    have hq : 0 < 2 ^ V * 8192 := by omega
    have e2 : 2 ^ (V + 14) = (2 ^ V * 8192) * 2 := by rw [e13, Nat.mul_right_comm]
    rw [e2] at hle ⊢
    have hm := Nat.mod_mul (x := w) (a := 2 ^ V * 8192) (b := 2)
    rw [hm] at hle ⊢
    have hlt := Nat.mod_lt w hq
    rcases Nat.mod_two_eq_zero_or_one (w / (2 ^ V * 8192)) with h | h
    · rw [h] at hle ⊢; omega
    · rw [h]; omega
  refine ⟨(V + 14 - u) * 2 ^ p + c, hi, ?_, ?_, ?_⟩
  · rw [hG]; exact hA0.1.mpr (by omega)
  · left
    rw [hG1]
    rcases Nat.lt_or_ge N ((c + 1) * 2 ^ (V + 14) * M) with h | h
    · exact h
    · have := hA1.1.mp h
      omega
  · rw [hG, hG1, hmid, hpar]
    have hx1 : 2 * N < 2 * (c * 2 ^ (V + 14) + 2 ^ V * 8192) * M ↔ ¬ ((c * 2 ^ (V + 14) + 2 ^ V * 8192) * M ≤ N) := by
      rw [Nat.mul_assoc]; omega
    have hx2 : 2 * N = 2 * (c * 2 ^ (V + 14) + 2 ^ V * 8192) * M ↔ (((c * 2 ^ (V + 14) + 2 ^ V * 8192) * M ≤ N) ∧ ¬ ((c * 2 ^ (V + 14) + 2 ^ V * 8192) * M < N)) := by
      rw [Nat.mul_assoc]; omega
    rw [hx1, hx2, hA2.1, hA2.2]
    by_cases hb : 2 ^ V * 8192 ≤ w % 2 ^ (V + 14)
    · have hl := hlow hb
      have hb1 := hbit.mpr hb
      by_cases hs : 2 ^ V * 8192 < w % 2 ^ (V + 14)
      · right
        have := hl.mpr hs
        rw [if_pos ⟨hb1, Or.inr (Or.inl this)⟩]
        refine ⟨fun z => ?_, rfl⟩
        rcases z with z | ⟨⟨z1, z2⟩, z3⟩
        · omega
        · exact z2 (Or.inl (by omega))
      · have hz : ¬ (w % 2 ^ (V + 14 - 1) ≠ 0) := fun z => hs (hl.mp z)
        have heq : c * 2 ^ (V + 14) + 2 ^ V * 8192 = w := by omega
        by_cases hm : mo = true
        · right
          rw [if_pos ⟨hb1, Or.inr (Or.inr hm)⟩]
          refine ⟨fun z => ?_, rfl⟩
          rcases z with z | ⟨⟨z1, z2⟩, z3⟩
          · omega
          · exact z2 (Or.inr ⟨heq, hm⟩)
        · rcases Nat.mod_two_eq_zero_or_one c with hc0 | hc0
          · left
            rw [if_neg (by
              rintro ⟨-, z | z | z⟩
              · omega
              · exact hz z
              · exact hm z)]
            refine ⟨Or.inr ⟨⟨by omega, fun z => ?_⟩, hc0⟩, rfl⟩
            rcases z with z | z
            · omega
            · exact hm z.2
          · right
            rw [if_pos ⟨hb1, Or.inl hc0⟩]
            refine ⟨fun z => ?_, rfl⟩
            rcases z with z | ⟨⟨z1, z2⟩, z3⟩
            · omega
            · omega
    · left
      have hb1 : ¬ (w / 2 ^ (V + 14 - 1) % 2 = 1) := fun z => hb (hbit.mp z)
      rw [if_neg (fun z => hb1 z.1)]
      exact ⟨Or.inl (by omega), rfl⟩
