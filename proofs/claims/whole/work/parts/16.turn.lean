/-! PURE: limbs turned into words -/
theorem maC_ltT {B T c0 : Nat} {f : Nat → Nat} {m : Nat} (hB : 0 < B) (hc : c0 < T) (hf : ∀ i, i < m → f i < B) : ∀ k, k ≤ m → maC B T c0 f m k < T
  | 0, _ => hc
  | k + 1, hk => by
    have ih := maC_ltT hB hc hf k (by omega)
    have h1 := hf (m - 1 - k) (by omega)
    rw [maC, Nat.div_lt_iff_lt_mul hB]
    have h2 : (f (m - 1 - k) + 1) * T ≤ B * T := Nat.mul_le_mul_right _ h1
    rw [Nat.add_mul, Nat.one_mul] at h2
    rw [Nat.mul_comm T B]
    omega
/-- the fraction, k words taken out of it; the k-th word -/
def frF (B T m : Nat) (f : Nat → Nat) : Nat → Nat → Nat
  | 0 => f
  | k + 1 => maF B T 0 (frF B T m f k) m m
def frW (B T m : Nat) (f : Nat → Nat) : Nat → Nat := fun k => maC B T 0 (frF B T m f k) m m
theorem frF_lt {B T m : Nat} {f : Nat → Nat} (hB : 0 < B) (hf : ∀ i, i < m → f i < B) : ∀ k i, i < m → frF B T m f k i < B
  | 0, i, h => hf i h
  | k + 1, i, h => maF_lt hB (frF_lt hB hf k) i h
theorem frW_lt {B T m : Nat} {f : Nat → Nat} (hB : 0 < B) (hT : 0 < T) (hf : ∀ i, i < m → f i < B) (k : Nat) : frW B T m f k < T := maC_ltT hB hT (frF_lt hB hf k) m (Nat.le_refl m)
theorem fr_sum {B T m : Nat} {f : Nat → Nat} : ∀ k : Nat, hv T (frW B T m f) k * B ^ m + hv B (frF B T m f k) m = hv B f m * T ^ k
  | 0 => by simp [hv, frF]
  | k + 1 => by
    have ih := fr_sum (B := B) (T := T) (m := m) (f := f) k
    have h := ma_all (B := B) (T := T) (c0 := 0) (f := frF B T m f k) (m := m)
    rw [hv, frF, Nat.pow_succ, ← Nat.mul_assoc, ← ih, Nat.add_mul, Nat.add_mul]
    show hv T (frW B T m f) k * T * B ^ m + maC B T 0 (frF B T m f k) m m * B ^ m + hv B (maF B T 0 (frF B T m f k) m m) m = _
    rw [Nat.mul_right_comm (hv T (frW B T m f) k) (B ^ m) T]
    omega
theorem tb_all {B T m n : Nat} {f g : Nat → Nat} {Lw : Nat} (hB : 0 < B) (hm : m ≤ n) (hf : ∀ i, i < m → f i < B) (hz : ∀ i, m ≤ i → i < n → f i = 0) (k : Nat) :
    (Lw * B ^ n + hv B f n) * T ^ k / B ^ n = Lw * T ^ k + hv T (frW B T m f) k ∧ ((Lw * B ^ n + hv B f n) * T ^ k % B ^ n ≠ 0 ↔ ∃ i, i < m ∧ frF B T m f k i ≠ 0) := by
  have e1 : hv B f n = hv B f m * B ^ (n - m) := by
    have := hv_app B f m (n - m)
    rw [show m + (n - m) = n by omega] at this
    rw [this, hv_zero B (fun i hi => hz (m + i) (by omega) (by omega)), Nat.add_zero]
  have hs := fr_sum (B := B) (T := T) (m := m) (f := f) k
  have hlt := hv_lt (B := B) (f := frF B T m f k) (n := m) (frF_lt hB hf k)
  have hp : 0 < B ^ n := Nat.pow_pos hB
  have hp2 : 0 < B ^ (n - m) := Nat.pow_pos hB
  have e2 : B ^ m * B ^ (n - m) = B ^ n := by rw [← Nat.pow_add]; congr 1; omega
  have e3 : (Lw * B ^ n + hv B f n) * T ^ k = B ^ n * (Lw * T ^ k + hv T (frW B T m f) k) + hv B (frF B T m f k) m * B ^ (n - m) := by
    rw [e1, Nat.add_mul, Nat.mul_right_comm (hv B f m), ← hs, Nat.add_mul, Nat.mul_add, Nat.mul_assoc (hv T (frW B T m f) k), e2, Nat.mul_comm (B ^ n) (hv T (frW B T m f) k), Nat.mul_right_comm Lw, Nat.mul_comm (B ^ n) (Lw * T ^ k)]
    omega
  have hlt2 : hv B (frF B T m f k) m * B ^ (n - m) < B ^ n := by
    rw [← e2]; exact Nat.mul_lt_mul_of_pos_right hlt hp2
  rw [e3, Nat.mul_add_div hp, Nat.div_eq_of_lt hlt2, Nat.add_zero, Nat.mul_add_mod, Nat.mod_eq_of_lt hlt2]
  refine ⟨rfl, ?_⟩
  constructor
  · intro h
    rcases Classical.em (∃ i, i < m ∧ frF B T m f k i ≠ 0) with h1 | h1
    · exact h1
    · exact absurd (by rw [hv_zero B (fun i hi => by
        rcases Nat.eq_zero_or_pos (frF B T m f k i) with z | z
        · exact z
        · exact absurd ⟨i, hi, by omega⟩ h1), Nat.zero_mul]) h
  · rintro ⟨i, hi, h⟩
    have h1 := hv_pos hB hi h
    exact Nat.ne_of_gt (Nat.mul_pos (Nat.pos_of_ne_zero h1) hp2)
/-- the whole part: i limbs appended to m words -/
def whW (B T m : Nat) (f : Nat → Nat) : Nat → Nat → Nat
  | 0 => fun _ => 0
  | i + 1 => maF B T (f i) (whW B T m f i) m m
theorem whW_lt {B T m : Nat} {f : Nat → Nat} (hB : 0 < B) : ∀ i j, j < m → whW B T m f i j < B
  | 0, j, _ => hB
  | i + 1, j, h => maF_lt hB (whW_lt hB i) j h
theorem wh_sum {B T m : Nat} {f : Nat → Nat} (hB : 0 < B) {n : Nat} (hf : ∀ i, i < n → f i < T) (hn : T ^ n ≤ B ^ m) (hT : 0 < T) : ∀ i, i ≤ n → hv B (whW B T m f i) m = hv T f i
  | 0, _ => hv_zero B (fun _ _ => rfl)
  | i + 1, hi => by
    have ih := wh_sum hB hf hn hT i (by omega)
    have h := ma_all (B := B) (T := T) (c0 := f i) (f := whW B T m f i) (m := m)
    rw [ih] at h
    have h1 := hv_lt (B := T) (f := f) (n := i + 1) (fun j hj => hf j (by omega))
    rw [hv] at h1
    have h2 : T ^ (i + 1) ≤ T ^ n := Nat.pow_le_pow_right hT hi
    have hc : maC B T (f i) (whW B T m f i) m m = 0 := by
      rcases Nat.eq_zero_or_pos (maC B T (f i) (whW B T m f i) m m) with z | z
      · exact z
      · have := Nat.mul_le_mul_right (B ^ m) z
        rw [Nat.one_mul] at this
        omega
    rw [hc, Nat.zero_mul, Nat.zero_add] at h
    rw [whW, h, hv]
theorem maC_0 {B T : Nat} {m : Nat} : ∀ k, maC B T 0 (fun _ => 0) m k = 0
  | 0 => rfl
  | k + 1 => by rw [maC, maC_0 k]; simp
theorem whW_0 {B T m : Nat} {f : Nat → Nat} : ∀ i, (∀ j, j < i → f j = 0) → whW B T m f i = fun _ => 0
  | 0, _ => rfl
  | i + 1, h => by
    rw [whW, whW_0 i (fun j hj => h j (by omega)), h i (by omega)]
    funext j
    unfold maF
    split
    · rw [maC_0]; simp
    · rfl
