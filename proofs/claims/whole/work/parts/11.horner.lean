/-! PURE: numbers of n digits to the base B, the highest first -/
def hv (B : Nat) (f : Nat → Nat) : Nat → Nat
  | 0 => 0
  | n + 1 => hv B f n * B + f n
theorem hv_congr {B : Nat} {f g : Nat → Nat} : ∀ {n : Nat}, (∀ i, i < n → f i = g i) → hv B f n = hv B g n
  | 0, _ => rfl
  | n + 1, h => by
    rw [hv, hv, hv_congr (n := n) (fun i hi => h i (by omega)), h n (by omega)]
theorem hv_lt {B : Nat} {f : Nat → Nat} : ∀ {n : Nat}, (∀ i, i < n → f i < B) → hv B f n < B ^ n
  | 0, _ => by simp [hv]
  | n + 1, h => by
    have ih := hv_lt (n := n) (fun i hi => h i (by omega))
    have hn := h n (by omega)
    rw [hv, Nat.pow_succ]
    have h1 : (hv B f n + 1) * B ≤ B ^ n * B := Nat.mul_le_mul_right B ih
    rw [Nat.add_mul, Nat.one_mul] at h1
    omega
theorem hv_app (B : Nat) (f : Nat → Nat) (n : Nat) : ∀ m : Nat, hv B f (n + m) = hv B f n * B ^ m + hv B (fun i => f (n + i)) m
  | 0 => by simp [hv]
  | m + 1 => by
    rw [← Nat.add_assoc, hv, hv_app B f n m, hv, Nat.pow_succ, Nat.add_mul, Nat.mul_assoc, Nat.add_assoc]
theorem hv_zero (B : Nat) {f : Nat → Nat} : ∀ {n : Nat}, (∀ i, i < n → f i = 0) → hv B f n = 0
  | 0, _ => rfl
  | n + 1, h => by
    rw [hv, hv_zero B (n := n) (fun i hi => h i (by omega)), h n (by omega)]
    simp
theorem hv_pos {B : Nat} (hB : 0 < B) {f : Nat → Nat} : ∀ {n k : Nat}, k < n → f k ≠ 0 → hv B f n ≠ 0
  | 0, k, h, _ => by omega
  | n + 1, k, h, hk => by
    rw [hv]
    rcases Nat.lt_or_eq_of_le (Nat.le_of_lt_succ h) with h1 | h1
    · have := hv_pos hB (n := n) h1 hk
      have h2 : 0 < hv B f n * B := Nat.mul_pos (Nat.pos_of_ne_zero this) hB
      omega
    · subst h1
      omega
theorem hv_eq0 {B : Nat} (hB : 0 < B) {f : Nat → Nat} {n : Nat} (h : hv B f n = 0) : ∀ i, i < n → f i = 0 := by
  intro i hi
  rcases Nat.eq_zero_or_pos (f i) with h1 | h1
  · exact h1
  · exact absurd h (hv_pos hB hi (by omega))
/-- one digit changed -/
def nup (f : Nat → Nat) (k x : Nat) : Nat → Nat := fun j => if j = k then x else f j
theorem hv_set {B : Nat} {f : Nat → Nat} {k x : Nat} : ∀ {n : Nat}, k < n → hv B (nup f k x) n + f k * B ^ (n - 1 - k) = hv B f n + x * B ^ (n - 1 - k)
  | 0, h => by omega
  | n + 1, h => by
    rcases Nat.lt_or_eq_of_le (Nat.le_of_lt_succ h) with h1 | h1
    · have ih := hv_set (B := B) (f := f) (x := x) h1
      have e : n + 1 - 1 - k = (n - 1 - k) + 1 := by omega
      have e2 : nup f k x n = f n := by simp [nup]; omega
      rw [hv, hv, e, Nat.pow_succ, e2]
      have h2 : (hv B (nup f k x) n + f k * B ^ (n - 1 - k)) * B = (hv B f n + x * B ^ (n - 1 - k)) * B := by rw [ih]
      rw [Nat.add_mul, Nat.add_mul, Nat.mul_assoc, Nat.mul_assoc] at h2
      omega
    · subst h1
      have e : k + 1 - 1 - k = 0 := by omega
      have e2 : hv B (nup f k x) k = hv B f k := hv_congr (fun i hi => by simp [nup]; omega)
      rw [hv, hv, e, e2]
      simp [nup]
      omega
/-- a digit out of the number -/
theorem hv_div {B : Nat} (hB : 0 < B) {f : Nat → Nat} {n m : Nat} (hf : ∀ i, i < n + m → f i < B) : hv B f (n + m) / B ^ m = hv B f n := by
  rw [hv_app]
  have h1 := hv_lt (B := B) (f := fun i => f (n + i)) (n := m) (fun i hi => hf (n + i) (by omega))
  rw [Nat.mul_comm, Nat.mul_add_div (Nat.pow_pos hB), Nat.div_eq_of_lt h1, Nat.add_zero]
theorem hv_mod {B : Nat} (hB : 0 < B) {f : Nat → Nat} {n m : Nat} (hf : ∀ i, i < n + m → f i < B) : hv B f (n + m) % B ^ m = hv B (fun i => f (n + i)) m := by
  rw [hv_app]
  have h1 := hv_lt (B := B) (f := fun i => f (n + i)) (n := m) (fun i hi => hf (n + i) (by omega))
  rw [Nat.mul_comm, Nat.mul_add_mod, Nat.mod_eq_of_lt h1]
theorem hv_dig {B : Nat} (hB : 0 < B) {f : Nat → Nat} {n k : Nat} (hk : k < n) (hf : ∀ i, i < n → f i < B) : hv B f n / B ^ (n - 1 - k) % B = f k := by
  obtain ⟨d, rfl⟩ : ∃ d, n = k + 1 + d := ⟨n - (k + 1), by omega⟩
  have e : k + 1 + d - 1 - k = d := by omega
  rw [e, hv_div hB hf, hv, Nat.mul_comm, Nat.mul_add_mod, Nat.mod_eq_of_lt (hf k (by omega))]
theorem hv_cons (B : Nat) (f : Nat → Nat) (k : Nat) : hv B f (k + 1) = f 0 * B ^ k + hv B (fun i => f (1 + i)) k := by
  have h := hv_app B f 1 k
  rw [Nat.add_comm 1 k] at h
  rw [h]
  simp [hv]
