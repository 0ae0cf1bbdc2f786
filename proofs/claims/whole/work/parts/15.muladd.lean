/-! PURE: m digits to the base B (the highest first, from the place o on) times T, and c0: from the last digit up; the carry behind k digits -/
def maC (B T c0 : Nat) (f : Nat → Nat) (m : Nat) : Nat → Nat
  | 0 => c0
  | k + 1 => (f (m - 1 - k) * T + maC B T c0 f m k) / B
/-- the digits when k of them are done -/
def maF (B T c0 : Nat) (f : Nat → Nat) (m k : Nat) : Nat → Nat := fun i => if m - k ≤ i ∧ i < m then (f i * T + maC B T c0 f m (m - 1 - i)) % B else f i
theorem maF_0 (B T c0 : Nat) (f : Nat → Nat) (m : Nat) : maF B T c0 f m 0 = f := by
  funext i
  unfold maF
  rw [if_neg (by omega)]
theorem maF_succ {B T c0 : Nat} {f : Nat → Nat} {m k : Nat} (hk : k < m) : maF B T c0 f m (k + 1) = nup (maF B T c0 f m k) (m - 1 - k) ((f (m - 1 - k) * T + maC B T c0 f m k) % B) := by
  funext i
  unfold nup
  by_cases hi : i = m - 1 - k
  · rw [if_pos hi]
    unfold maF
    rw [if_pos (by omega), hi, show m - 1 - (m - 1 - k) = k by omega]
  · rw [if_neg hi]
    unfold maF
    by_cases h1 : m - k ≤ i ∧ i < m
    · rw [if_pos h1, if_pos (by omega)]
    · rw [if_neg h1, if_neg (by omega)]
theorem maF_old {B T c0 : Nat} {f : Nat → Nat} {m k i : Nat} (hi : i < m - k) : maF B T c0 f m k i = f i := by
  unfold maF
  rw [if_neg (by omega)]
theorem maC_lt {B T c0 : Nat} {f : Nat → Nat} {m : Nat} (hB : 0 < B) (hc : c0 ≤ T) (hT : 0 < T) (hf : ∀ i, i < m → f i < B) : ∀ k, k ≤ m → maC B T c0 f m k ≤ T
  | 0, _ => hc
  | k + 1, hk => by
    have ih := maC_lt hB hc hT hf k (by omega)
    have h1 := hf (m - 1 - k) (by omega)
    rw [maC]
    apply Nat.div_le_of_le_mul
    have h2 : (f (m - 1 - k) + 1) * T ≤ B * T := Nat.mul_le_mul_right _ h1
    rw [Nat.add_mul, Nat.one_mul] at h2
    omega
theorem maF_lt {B T c0 : Nat} {f : Nat → Nat} {m k : Nat} (hB : 0 < B) (hf : ∀ i, i < m → f i < B) : ∀ i, i < m → maF B T c0 f m k i < B := fun i hi => by
  unfold maF
  split
  · exact Nat.mod_lt _ hB
  · exact hf i hi
/-- what k steps have made -/
theorem ma_sum {B T c0 : Nat} {f : Nat → Nat} {m : Nat} : ∀ k, k ≤ m → maC B T c0 f m k * B ^ k + hv B (fun i => maF B T c0 f m k (m - k + i)) k = hv B (fun i => f (m - k + i)) k * T + c0
  | 0, _ => by simp [maC, hv]
  | k + 1, hk => by
    have ih := ma_sum (B := B) (T := T) (c0 := c0) (f := f) (m := m) k (by omega)
    have e1 : hv B (fun i => maF B T c0 f m (k + 1) (m - (k + 1) + i)) (k + 1) = maF B T c0 f m (k + 1) (m - 1 - k) * B ^ k + hv B (fun i => maF B T c0 f m k (m - k + i)) k := by
      rw [hv_cons]
      congr 1
      · show maF B T c0 f m (k + 1) (m - (k + 1) + 0) * B ^ k = _
        rw [show m - (k + 1) + 0 = m - 1 - k by omega]
      · apply hv_congr
        intro i hi
        show maF B T c0 f m (k + 1) (m - (k + 1) + (1 + i)) = maF B T c0 f m k (m - k + i)
        rw [show m - (k + 1) + (1 + i) = m - k + i by omega]
        unfold maF
        rw [if_pos (by omega), if_pos (by omega)]
    have e3 : hv B (fun i => f (m - (k + 1) + i)) (k + 1) = f (m - 1 - k) * B ^ k + hv B (fun i => f (m - k + i)) k := by
      rw [hv_cons]
      congr 1
      · show f (m - (k + 1) + 0) * B ^ k = _
        rw [show m - (k + 1) + 0 = m - 1 - k by omega]
      · apply hv_congr
        intro i hi
        show f (m - (k + 1) + (1 + i)) = f (m - k + i)
        rw [show m - (k + 1) + (1 + i) = m - k + i by omega]
    have e4 : maF B T c0 f m (k + 1) (m - 1 - k) = (f (m - 1 - k) * T + maC B T c0 f m k) % B := by
      rw [maF_succ (by omega)]
      simp [nup]
    rw [e1, e3, e4, maC, Nat.pow_succ]
    have hdm := Nat.div_add_mod (f (m - 1 - k) * T + maC B T c0 f m k) B
    generalize (f (m - 1 - k) * T + maC B T c0 f m k) / B = Qd at hdm ⊢
    generalize (f (m - 1 - k) * T + maC B T c0 f m k) % B = Rm at hdm ⊢
    have h5 : (B * Qd + Rm) * B ^ k = (f (m - 1 - k) * T + maC B T c0 f m k) * B ^ k := by rw [hdm]
    rw [Nat.add_mul, Nat.add_mul] at h5
    rw [Nat.add_mul]
    have e6 : Qd * (B ^ k * B) = B * Qd * B ^ k := by rw [Nat.mul_comm B Qd, Nat.mul_assoc, Nat.mul_comm B]
    have e7 : f (m - 1 - k) * B ^ k * T = f (m - 1 - k) * T * B ^ k := Nat.mul_right_comm _ _ _
    rw [e6, e7]
    omega
theorem ma_all {B T c0 : Nat} {f : Nat → Nat} {m : Nat} : maC B T c0 f m m * B ^ m + hv B (maF B T c0 f m m) m = hv B f m * T + c0 := by
  have h := ma_sum (B := B) (T := T) (c0 := c0) (f := f) (m := m) m (Nat.le_refl m)
  rw [Nat.sub_self] at h
  simpa using h
/-- decimal to binary: the whole units of 2^-1088, out of the whole units of 10^-1080 -/
theorem kA_dec {X Y Ln Wn a F T2 T10 : Nat} {mo : Bool} (ha : 0 < a) (hF : 0 < F) (hY : 0 < Y) (h2 : T2 = 8192 * a) (h10 : T10 = 32 * a * F) (hL : X / Y = Ln) (hW : Ln * T2 / T10 = Wn) (hm : mo = true ↔ (X % Y ≠ 0 ∨ Ln * T2 % T10 ≠ 0)) : kA Wn mo (X * T2) (Y * T10) := by
  have hT10 : 0 < T10 := by
    rw [h10]; exact Nat.mul_pos (Nat.mul_pos (by omega) ha) hF
  have hT2 : 0 < T2 := by omega
  intro j
  have e1 : j * 8192 * (Y * T10) = j * (32 * F) * Y * T2 := by
    rw [h2, h10]
    simp only [Nat.mul_comm, Nat.mul_left_comm, Nat.mul_assoc]
  have e2 : j * 8192 * T10 = j * (32 * F) * T2 := by
    rw [h2, h10]
    simp only [Nat.mul_comm, Nat.mul_left_comm, Nat.mul_assoc]
  generalize hK : j * (32 * F) = K at e1 e2
  have hX := Nat.div_add_mod X Y
  have hXr := Nat.mod_lt X hY
  rw [hL] at hX
  have hWd := Nat.div_add_mod (Ln * T2) T10
  have hWr := Nat.mod_lt (Ln * T2) hT10
  rw [hW] at hWd
  generalize X % Y = xr at hX hXr hm
  generalize Ln * T2 % T10 = wr at hWd hWr hm
  have a1 : j * 8192 * (Y * T10) ≤ X * T2 ↔ K * Y ≤ X := by
    rw [e1]; exact ⟨fun h => Nat.le_of_mul_le_mul_right h hT2, fun h => Nat.mul_le_mul_right T2 h⟩
  have a2 : j * 8192 * (Y * T10) < X * T2 ↔ K * Y < X := by
    rw [e1]; exact ⟨fun h => Nat.lt_of_mul_lt_mul_right h, fun h => Nat.mul_lt_mul_of_pos_right h hT2⟩
  have a3 : K * Y ≤ X ↔ K ≤ Ln := by
    rw [← hL]; exact (Nat.le_div_iff_mul_le hY).symm
  have a4 : K ≤ Ln ↔ j * 8192 ≤ Wn := by
    rw [← hW, Nat.le_div_iff_mul_le hT10, e2]
    exact ⟨fun h => Nat.mul_le_mul_right T2 h, fun h => Nat.le_of_mul_le_mul_right h hT2⟩
  refine ⟨a1.trans (a3.trans a4), a2.trans ?_⟩
  have a5 : K * Y < X ↔ (K < Ln ∨ (K = Ln ∧ xr ≠ 0)) := by
    constructor
    · intro h
      have hle := a3.mp (Nat.le_of_lt h)
      rcases Nat.lt_or_eq_of_le hle with h1 | h1
      · exact Or.inl h1
      · refine Or.inr ⟨h1, fun z => ?_⟩
        rw [h1, Nat.mul_comm] at h
        omega
    · rintro (h | ⟨h, hx⟩)
      · have h1 : (K + 1) * Y ≤ Ln * Y := Nat.mul_le_mul_right Y h
        rw [Nat.add_mul, Nat.one_mul, Nat.mul_comm Ln] at h1
        omega
      · rw [h, Nat.mul_comm]
        omega
  have a6 : K < Ln ↔ (j * 8192 < Wn ∨ (j * 8192 = Wn ∧ wr ≠ 0)) := by
    have b1 : K < Ln ↔ j * 8192 * T10 < Ln * T2 := by
      rw [e2]; exact ⟨fun h => Nat.mul_lt_mul_of_pos_right h hT2, fun h => Nat.lt_of_mul_lt_mul_right h⟩
    rw [b1]
    constructor
    · intro h
      have hle := a4.mp (b1.mpr h |> Nat.le_of_lt)
      rcases Nat.lt_or_eq_of_le hle with h1 | h1
      · exact Or.inl h1
      · refine Or.inr ⟨h1, fun z => ?_⟩
        rw [h1, Nat.mul_comm] at h
        omega
    · rintro (h | ⟨h, hx⟩)
      · have h1 : (j * 8192 + 1) * T10 ≤ Wn * T10 := Nat.mul_le_mul_right T10 h
        rw [Nat.add_mul, Nat.one_mul, Nat.mul_comm Wn] at h1
        omega
      · rw [h, Nat.mul_comm]
        omega
  have a7 : K = Ln → j * 8192 * T10 = Ln * T2 := fun h => by rw [e2, h]
  rw [a5, a6, hm]
  constructor
  · rintro ((h | ⟨h, hx⟩) | ⟨h, hx⟩)
    · exact Or.inl h
    · exact Or.inr ⟨h, Or.inr hx⟩
    · have h1 := a7 h
      have h2 := a4.mp (Nat.le_of_eq h)
      rcases Nat.lt_or_eq_of_le h2 with h3 | h3
      · exact Or.inl h3
      · exact Or.inr ⟨h3, Or.inl hx⟩
  · rintro (h | ⟨h, hx | hx⟩)
    · exact Or.inl (Or.inl h)
    · have h1 : K ≤ Ln := a4.mpr (Nat.le_of_eq h)
      rcases Nat.lt_or_eq_of_le h1 with h3 | h3
      · left
        exact a6.mp h3
      · exact Or.inr ⟨h3, hx⟩
    · exact Or.inl (Or.inr ⟨h, hx⟩)
/-- bits, cut at whole units: the exact case -/
theorem kA_bits {X Y w : Nat} {mo : Bool} (hY : 0 < Y) (hw : X / Y = w) (hm : mo = true ↔ X % Y ≠ 0) : kA w mo X Y := by
  intro j
  have hX := Nat.div_add_mod X Y
  have hXr := Nat.mod_lt X hY
  rw [hw] at hX
  have a3 : j * 8192 * Y ≤ X ↔ j * 8192 ≤ w := by
    rw [← hw]; exact (Nat.le_div_iff_mul_le hY).symm
  refine ⟨a3, ?_⟩
  rw [hm]
  constructor
  · intro h
    have hle := a3.mp (Nat.le_of_lt h)
    rcases Nat.lt_or_eq_of_le hle with h1 | h1
    · exact Or.inl h1
    · refine Or.inr ⟨h1, fun z => ?_⟩
      rw [h1, Nat.mul_comm] at h
      omega
  · rintro (h | ⟨h, hx⟩)
    · have h1 : (j * 8192 + 1) * Y ≤ w * Y := Nat.mul_le_mul_right Y h
      rw [Nat.add_mul, Nat.one_mul, Nat.mul_comm w] at h1
      omega
    · rw [h, Nat.mul_comm]
      omega
