/-! PURE: the reference's hexadecimal digits: 62 bits of them, and whether more came -/
def hS (mv T R : Nat) (mo : Bool) (Dv : Nat) : Prop := Dv = mv * 2 ^ T + R ∧ R < 2 ^ T ∧ (mo = true ↔ R ≠ 0) ∧ (R ≠ 0 → 2 ^ 58 ≤ mv) ∧ (T = 0 ∨ 2 ^ 58 ≤ mv) ∧ mv < 2 ^ 62
theorem hS_0 : hS 0 0 0 false 0 := ⟨rfl, by decide, ⟨fun y => (by cases y), fun y => absurd rfl y⟩, fun y => absurd rfl y, Or.inl rfl, by decide⟩
theorem hS_in {mv T R d : Nat} {mo : Bool} {Dv : Nat} (h : hS mv T R mo Dv) (hd : d < 16) (hm : mv < 2 ^ 58) : hS (mv * 16 + d) T R mo (Dv * 16 + d) := by
  obtain ⟨h1, h2, h3, h4, h5, h6⟩ := h
  have hT : T = 0 := by omega
  subst hT
  rw [Nat.pow_zero] at h1 h2
  have hR : R = 0 := by omega
  subst hR
  exact ⟨by omega, by decide, h3, fun y => absurd rfl y, Or.inl rfl, by omega⟩
theorem hS_out {mv T R d : Nat} {mo : Bool} {Dv : Nat} (h : hS mv T R mo Dv) (hd : d < 16) (hm : 2 ^ 58 ≤ mv) : hS mv (T + 4) (R * 16 + d) (mo || decide (d ≠ 0)) (Dv * 16 + d) := by
  obtain ⟨h1, h2, h3, h4, h5, h6⟩ := h
  have hp : 2 ^ (T + 4) = 2 ^ T * 16 := Nat.pow_add 2 T 4
  refine ⟨?_, by omega, ?_, fun _ => hm, Or.inr hm, h6⟩
  · rw [hp, h1, Nat.add_mul, Nat.mul_assoc]
    omega
  · rw [Bool.or_eq_true, h3, decide_eq_true_eq]
    omega
