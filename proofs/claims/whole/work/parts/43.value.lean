/-! PURE: the number that a text names, and what the class's bits say of it -/
theorem kA_same {w N M N' M' : Nat} {mo : Bool} (hM : 0 < M) (hM' : 0 < M') (h : N * M' = N' * M) (hA : kA w mo N M) : kA w mo N' M' := by
  intro j
  have a1 := hA j
  have l1 := kx_le (a := j * 8192) hM hM' h
  have l2 := kx_ge (a := j * 8192) hM hM' h
  refine ⟨l1.symm.trans a1.1, ?_⟩
  rw [← a1.2]
  constructor
  · intro q
    rcases Nat.lt_or_ge (j * 8192 * M) N with y | y
    · exact y
    · exact absurd (l2.mp y) (by omega)
  · intro q
    rcases Nat.lt_or_ge (j * 8192 * M') N' with y | y
    · exact y
    · exact absurd (l2.mpr y) (by omega)
/-- two starts that lie both behind the last place, or both before the first -/
theorem ad_far {b C : Nat} {f : Nat → Nat} {s s' : Int} {n : Nat} (h : ((C : Int) ≤ s ∧ (C : Int) ≤ s') ∨ (s + (n : Int) ≤ 0 ∧ s' + (n : Int) ≤ 0)) : adS b C f s n = adS b C f s' n ∧ (adH f s n ↔ adH f s' n) ∧ (adM C f s n ↔ adM C f s' n) := by
  have z : ∀ (s : Int) (k : Nat), k ≤ n → ((C : Int) ≤ s ∨ s + (n : Int) ≤ 0) → adS b C f s k = 0 := by
    intro s k
    induction k with
    | zero => intro _ _; rfl
    | succ k ih =>
      intro hk hs
      rw [adS, if_pos (by omega)]
      exact ih (by omega) hs
  rcases h with ⟨h1, h2⟩ | ⟨h1, h2⟩
  · refine ⟨by rw [z s n (Nat.le_refl _) (Or.inl h1), z s' n (Nat.le_refl _) (Or.inl h2)], ⟨fun ⟨j, a, b, c⟩ => by omega, fun ⟨j, a, b, c⟩ => by omega⟩, ⟨fun ⟨j, a, b, c⟩ => ⟨j, a, b, by omega⟩, fun ⟨j, a, b, c⟩ => ⟨j, a, b, by omega⟩⟩⟩
  · refine ⟨by rw [z s n (Nat.le_refl _) (Or.inr h1), z s' n (Nat.le_refl _) (Or.inr h2)], ⟨fun ⟨j, a, b, c⟩ => ⟨j, a, b, by omega⟩, fun ⟨j, a, b, c⟩ => ⟨j, a, b, by omega⟩⟩, ⟨fun ⟨j, a, b, c⟩ => by omega, fun ⟨j, a, b, c⟩ => by omega⟩⟩
theorem T34_pow : T34 = 2 ^ 1088 := by decide +kernel
theorem T34_8192 : T34 = 8192 * 2 ^ 1075 := by decide +kernel
theorem B120_pow : B120 = 10 ^ 1080 := by decide +kernel
theorem B120_32 : B120 = 32 * 2 ^ 1075 * 5 ^ 1080 := by decide +kernel
theorem T34_pos : 0 < T34 := by decide +kernel
theorem B120_pos : 0 < B120 := by decide +kernel
/-- D * 10^x in units of 2^-1088 -/
def dN (D : Nat) (x : Int) : Nat := D * 10 ^ x.toNat * T34
def dM (x : Int) : Nat := 10 ^ (-x).toNat
theorem dM_pos (x : Int) : 0 < dM x := Nat.pow_pos (by omega)
theorem mul4 (H T : Nat) {a b c d : Nat} (h : a + b = c + d) : H * 10 ^ a * T * 10 ^ b = H * 10 ^ c * T * 10 ^ d := by
  rw [Nat.mul_right_comm (H * 10 ^ a), Nat.mul_right_comm (H * 10 ^ c), Nat.mul_assoc H (10 ^ a), Nat.mul_assoc H (10 ^ c), ← Nat.pow_add, ← Nat.pow_add, h]
/-- not too large: the bits say it -/
theorem dec_bits {f : Nat → Nat} {n : Nat} {x : Int} {mo : Bool} {w : Nat} (hf : ∀ j, f j < 10) (hH : ¬ adH f (315 - x - (n : Int)) n) (hw : w = adS 10 1395 f (315 - x - (n : Int)) n * T34 / B120) (hm : mo = true ↔ (adM 1395 f (315 - x - (n : Int)) n ∨ adS 10 1395 f (315 - x - (n : Int)) n * T34 % B120 ≠ 0)) : kA w mo (dN (hv 10 f n) x) (dM x) := by
  have hall := adS_all (b := 10) (C := 1395) (s := 315 - x - (n : Int)) (n := n) (by omega) hf hH
  have hcut : ∀ (X Y : Nat), 0 < Y → X / Y = adS 10 1395 f (315 - x - (n : Int)) n → (X % Y ≠ 0 ↔ adM 1395 f (315 - x - (n : Int)) n) → kA w mo (X * T34) (Y * B120) := by
    intro X Y hY h1 h2
    exact kA_dec (a := 2 ^ 1075) (F := 5 ^ 1080) (Nat.two_pow_pos _) (Nat.pow_pos (by omega)) hY T34_8192 B120_32 h1 hw.symm (by rw [hm, h2])
  by_cases hc : (315 - x - (n : Int)) + (n : Int) ≤ 1395
  · obtain ⟨h1, h2⟩ := hall.1 hc
    have hk := hcut (hv 10 f n * 10 ^ (((1395 : Nat) : Int) - ((315 - x - (n : Int)) + (n : Int))).toNat) 1 (by omega) (by rw [Nat.div_one]; exact h1.symm) ⟨fun q => absurd (Nat.mod_one _) q, fun q => absurd q h2⟩
    refine kA_same (by rw [Nat.one_mul]; exact B120_pos) (dM_pos x) ?_ hk
    unfold dN dM
    rw [Nat.one_mul, B120_pow, show (((1395 : Nat) : Int) - ((315 - x - (n : Int)) + (n : Int))).toNat = (1080 + x).toNat by omega]
    exact mul4 _ _ (by omega)
  · obtain ⟨h1, h2⟩ := hall.2 (by omega)
    have hk := hcut (hv 10 f n) (10 ^ ((315 - x - (n : Int)) + (n : Int) - ((1395 : Nat) : Int)).toNat) (Nat.pow_pos (by omega)) h1 h2
    refine kA_same (Nat.mul_pos (Nat.pow_pos (by omega)) B120_pos) (dM_pos x) ?_ hk
    unfold dN dM
    rw [B120_pow, show ((315 - x - (n : Int)) + (n : Int) - ((1395 : Nat) : Int)).toNat = (-1080 - x).toNat by omega]
    rw [← Nat.pow_add, Nat.mul_right_comm _ T34, Nat.mul_right_comm _ T34, Nat.mul_assoc (hv 10 f n) _ (10 ^ ((-1080 - x).toNat + 1080)), ← Nat.pow_add, show (-x).toNat = x.toNat + ((-1080 - x).toNat + 1080) by omega]
theorem hv_big {b : Nat} {f : Nat → Nat} {n j : Nat} (hj : j < n) (h : f j ≠ 0) : b ^ (n - 1 - j) ≤ hv b f n := by
  obtain ⟨d, rfl⟩ : ∃ d, n = j + 1 + d := ⟨n - (j + 1), by omega⟩
  rw [hv_app, hv, show j + 1 + d - 1 - j = d by omega]
  have h1 : 1 * b ^ d ≤ (hv b f j * b + f j) * b ^ d := Nat.mul_le_mul_right _ (by omega)
  omega
theorem ten315 : 2 ^ 2112 ≤ 10 ^ 315 * T34 := by decide +kernel
/-- too large -/
theorem dec_big {f : Nat → Nat} {n : Nat} {x : Int} (hH : adH f (315 - x - (n : Int)) n) : 2 ^ 2112 * dM x ≤ dN (hv 10 f n) x := by
  obtain ⟨j, hj, h1, h2⟩ := hH
  have h3 := hv_big (b := 10) hj h1
  unfold dN dM
  have h4 : 10 ^ 315 * 10 ^ (-x).toNat ≤ hv 10 f n * 10 ^ x.toNat := by
    rw [← Nat.pow_add]
    refine Nat.le_trans ?_ (Nat.mul_le_mul_right _ h3)
    rw [← Nat.pow_add]
    exact Nat.pow_le_pow_right (by omega) (by omega)
  have h5 := Nat.mul_le_mul_right T34 h4
  have h6 := Nat.mul_le_mul_right (10 ^ (-x).toNat) ten315
  rw [Nat.mul_right_comm] at h5
  exact Nat.le_trans h6 h5
/-- D * 2^x in units of 2^-1088 -/
def xN (D : Nat) (x : Int) : Nat := D * 2 ^ (x + 1088).toNat
def xM (x : Int) : Nat := 2 ^ (-x - 1088).toNat
theorem xM_pos (x : Int) : 0 < xM x := Nat.two_pow_pos _
theorem hex_bits {f : Nat → Nat} {n : Nat} {x : Int} {mo : Bool} {w : Nat} (hf : ∀ j, f j < 2) (hH : ¬ adH f (1056 - x - (n : Int)) n) (hw : w = adS 2 2144 f (1056 - x - (n : Int)) n) (hm : mo = true ↔ adM 2144 f (1056 - x - (n : Int)) n) : kA w mo (xN (hv 2 f n) x) (xM x) := by
  have hall := adS_all (b := 2) (C := 2144) (s := 1056 - x - (n : Int)) (n := n) (by omega) hf hH
  by_cases hc : (1056 - x - (n : Int)) + (n : Int) ≤ 2144
  · obtain ⟨h1, h2⟩ := hall.1 hc
    have e1 : xM x = 1 := by
      unfold xM
      rw [show (-x - 1088).toNat = 0 by omega, Nat.pow_zero]
    rw [e1]
    refine kA_bits (by omega) ?_ ?_
    · rw [Nat.div_one, hw, h1]
      unfold xN
      congr 2
      omega
    · rw [hm, Nat.mod_one]
      exact ⟨fun q => absurd q h2, fun q => absurd rfl q⟩
  · obtain ⟨h1, h2⟩ := hall.2 (by omega)
    have e1 : xN (hv 2 f n) x = hv 2 f n := by
      unfold xN
      rw [show (x + 1088).toNat = 0 by omega, Nat.pow_zero, Nat.mul_one]
    have e2 : xM x = 2 ^ ((1056 - x - (n : Int)) + (n : Int) - ((2144 : Nat) : Int)).toNat := by
      unfold xM
      congr 1
      omega
    rw [e1, e2]
    exact kA_bits (Nat.two_pow_pos _) (by rw [hw]; exact h1) (by rw [hm]; exact h2.symm)
theorem hex_big {f : Nat → Nat} {n : Nat} {x : Int} (hH : adH f (1056 - x - (n : Int)) n) : 2 ^ 2112 * xM x ≤ xN (hv 2 f n) x := by
  obtain ⟨j, hj, h1, h2⟩ := hH
  have h3 := hv_big (b := 2) hj h1
  unfold xN xM
  refine Nat.le_trans ?_ (Nat.mul_le_mul_right _ h3)
  rw [← Nat.pow_add, ← Nat.pow_add]
  exact Nat.pow_le_pow_right (by omega) (by omega)
theorem hv_bdg (f : Nat → Nat) (n : Nat) (hf : ∀ j, f j < 16) : hv 2 (bdg f) (4 * n) = hv 16 f n := by
  have h := hv_group (b := 2) (w := 4) (e := bdg f) (f := f) (n := n) (fun k _ => by
    obtain ⟨b0, b1, b2, b3⟩ := bdg_4 f k
    have hk := hf k
    show f k = ((((0 * 2 + bdg f (4 * k + 0)) * 2 + bdg f (4 * k + 1)) * 2 + bdg f (4 * k + 2)) * 2 + bdg f (4 * k + 3))
    rw [Nat.add_zero, b0, b1, b2, b3]
    omega)
  exact h.symm
/-- the exponent's true number; cut at lim it is itself, or both are large -/
def xT (t : Nat → Int32) (c n : Nat) : Nat := hv 10 (fun i => dg (t (c + i))) n
theorem xC_eq {t : Nat → Int32} {c lim : Nat} (hlim : 0 < lim) : ∀ k, (xT t c k < lim ∧ xC t c lim k = xT t c k) ∨ (lim ≤ xT t c k ∧ lim ≤ xC t c lim k)
  | 0 => Or.inl ⟨hlim, rfl⟩
  | k + 1 => by
    have e : xT t c (k + 1) = xT t c k * 10 + dg (t (c + k)) := rfl
    rw [e, xC]
    rcases xC_eq (t := t) (c := c) hlim k with ⟨h1, h2⟩ | ⟨h1, h2⟩
    · rw [if_pos (by omega), h2]
      omega
    · right
      split <;> omega

