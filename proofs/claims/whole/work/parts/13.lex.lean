/-! PURE: two rows of digits, compared from the first -/
theorem hv_first {B : Nat} {f g : Nat → Nat} {k m : Nat} (hk : k < m) (he : ∀ i, i < k → f i = g i) (hlt : f k < g k) (hf : ∀ i, i < m → f i < B) : hv B f m < hv B g m := by
  obtain ⟨d, rfl⟩ : ∃ d, m = k + 1 + d := ⟨m - (k + 1), by omega⟩
  rw [hv_app B f (k + 1) d, hv_app B g (k + 1) d]
  have h1 : hv B f (k + 1) + 1 ≤ hv B g (k + 1) := by
    rw [hv, hv, hv_congr he]
    omega
  have h2 := hv_lt (B := B) (f := fun i => f (k + 1 + i)) (n := d) (fun i hi => hf (k + 1 + i) (by omega))
  have h3 : (hv B f (k + 1) + 1) * B ^ d ≤ hv B g (k + 1) * B ^ d := Nat.mul_le_mul_right _ h1
  rw [Nat.add_mul, Nat.one_mul] at h3
  omega
/-- digits behind the n-th are 0 -/
def dz (f : Nat → Nat) (n : Nat) : Nat → Nat := fun i => if i < n then f i else 0
theorem hv_dz {B : Nat} (f : Nat → Nat) (n d : Nat) : hv B (dz f n) (n + d) = hv B f n * B ^ d := by
  rw [hv_app]
  have h1 : hv B (dz f n) n = hv B f n := hv_congr (fun i hi => by simp [dz, hi])
  have h2 : hv B (fun i => dz f n (n + i)) d = 0 := hv_zero B (fun i hi => by unfold dz; rw [if_neg (by omega)])
  rw [h1, h2, Nat.add_zero]
theorem hv_ge {B : Nat} {f : Nat → Nat} {n : Nat} (hn : 0 < n) (h0 : 0 < f 0) : B ^ (n - 1) ≤ hv B f n := by
  obtain ⟨d, rfl⟩ : ∃ d, n = 1 + d := ⟨n - 1, by omega⟩
  rw [hv_app]
  have e : hv B f 1 = f 0 := by simp [hv]
  rw [e, show 1 + d - 1 = d by omega]
  have := Nat.mul_le_mul_right (B ^ d) h0
  rw [Nat.one_mul] at this
  omega
/-- little end first -/
def le (B : Nat) (f : Nat → Nat) : Nat → Nat
  | 0 => 0
  | n + 1 => le B f n + f n * B ^ n
theorem le_congr {B : Nat} {f g : Nat → Nat} : ∀ {n : Nat}, (∀ i, i < n → f i = g i) → le B f n = le B g n
  | 0, _ => rfl
  | n + 1, h => by
    rw [le, le, le_congr (n := n) (fun i hi => h i (by omega)), h n (by omega)]
theorem le_lt {B : Nat} {f : Nat → Nat} : ∀ {n : Nat}, (∀ i, i < n → f i < B) → le B f n < B ^ n
  | 0, _ => by simp [le]
  | n + 1, h => by
    have ih := le_lt (n := n) (fun i hi => h i (by omega))
    have hn := h n (by omega)
    rw [le, Nat.pow_succ]
    have h1 : (f n + 1) * B ^ n ≤ B * B ^ n := Nat.mul_le_mul_right _ hn
    rw [Nat.add_mul, Nat.one_mul] at h1
    rw [Nat.mul_comm (B ^ n) B]
    omega
/-- a step of 'times': carry in, digit out -/
theorem le_step {B by' : Nat} (hB : 0 < B) {c l : Nat} (hc : c < by') (hl : l < B) : (c + l * by') / B < by' := by
  rw [Nat.div_lt_iff_lt_mul hB]
  have h1 : (l + 1) * by' ≤ B * by' := Nat.mul_le_mul_right _ hl
  rw [Nat.add_mul, Nat.one_mul] at h1
  rw [Nat.mul_comm by' B]
  omega
