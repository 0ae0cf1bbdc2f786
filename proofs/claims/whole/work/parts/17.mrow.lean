/-! PURE: the reference's row of limbs (the lowest first) times T, and its decimal digits -/
def tmC (B T : Nat) (f : Nat → Nat) : Nat → Nat
  | 0 => 0
  | k + 1 => (tmC B T f k + f k * T) / B
def tmF (B T : Nat) (f : Nat → Nat) (k : Nat) : Nat → Nat := fun i => if i < k then (tmC B T f i + f i * T) % B else f i
theorem tmF_0 (B T : Nat) (f : Nat → Nat) : tmF B T f 0 = f := by
  funext i
  simp [tmF]
theorem tmF_succ (B T : Nat) (f : Nat → Nat) (k : Nat) : tmF B T f (k + 1) = nup (tmF B T f k) k ((tmC B T f k + f k * T) % B) := by
  funext i
  unfold nup tmF
  by_cases hi : i = k
  · subst hi
    simp
  · rw [if_neg hi]
    by_cases h1 : i < k
    · rw [if_pos h1, if_pos (by omega)]
    · rw [if_neg h1, if_neg (by omega)]
theorem tmC_lt {B T : Nat} {f : Nat → Nat} (hB : 0 < B) (hT : 0 < T) : ∀ {k : Nat}, (∀ i, i < k → f i < B) → tmC B T f k < T
  | 0, _ => hT
  | k + 1, h => le_step hB (tmC_lt hB hT (k := k) (fun i hi => h i (by omega))) (h k (by omega))
theorem tm_sum {B T : Nat} {f : Nat → Nat} : ∀ k : Nat, le B (tmF B T f k) k + tmC B T f k * B ^ k = T * le B f k
  | 0 => by simp [le, tmC]
  | k + 1 => by
    have ih := tm_sum (B := B) (T := T) (f := f) k
    have e1 : le B (tmF B T f (k + 1)) k = le B (tmF B T f k) k := le_congr (fun i hi => by
      unfold tmF
      rw [if_pos (by omega), if_pos hi])
    have e2 : tmF B T f (k + 1) k = (tmC B T f k + f k * T) % B := by simp [tmF]
    rw [le, e1, e2, tmC, le, Nat.pow_succ, Nat.mul_add]
    have hdm := Nat.div_add_mod (tmC B T f k + f k * T) B
    generalize (tmC B T f k + f k * T) / B = Qd at hdm ⊢
    generalize (tmC B T f k + f k * T) % B = Rm at hdm ⊢
    have h5 : (B * Qd + Rm) * B ^ k = (tmC B T f k + f k * T) * B ^ k := by rw [hdm]
    rw [Nat.add_mul, Nat.add_mul] at h5
    have e6 : Qd * (B ^ k * B) = B * Qd * B ^ k := by rw [Nat.mul_comm B Qd, Nat.mul_assoc, Nat.mul_comm B]
    have e7 : T * (f k * B ^ k) = f k * T * B ^ k := by rw [← Nat.mul_assoc, Nat.mul_comm T]
    rw [e6, e7, ← ih]
    omega
/-- the digits of x below 10^9, the highest first -/
theorem hv_nine {x : Nat} (hx : x < 10 ^ 9) : ∀ j, j ≤ 9 → hv 10 (fun i => x / 10 ^ (8 - i) % 10) j = x / 10 ^ (9 - j)
  | 0, _ => by
    rw [hv, Nat.sub_zero, Nat.div_eq_of_lt hx]
  | j + 1, h => by
    rw [hv, hv_nine hx j (by omega)]
    have e : 10 ^ (9 - j) = 10 ^ (8 - j) * 10 := by rw [← Nat.pow_succ]; congr 1; omega
    rw [e, ← Nat.div_div_eq_div_mul, show 9 - (j + 1) = 8 - j by omega]
    have := Nat.div_add_mod (x / 10 ^ (8 - j)) 10
    omega
/-- the t-th of the 9 * n digits of n limbs g (the highest first) -/
def dig9 (g : Nat → Nat) (t : Nat) : Nat := g (t / 9) / 10 ^ (8 - t % 9) % 10
theorem dig9_lt (g : Nat → Nat) (t : Nat) : dig9 g t < 10 := Nat.mod_lt _ (by omega)
theorem hv_dig9 {g : Nat → Nat} : ∀ {n : Nat}, (∀ i, i < n → g i < 10 ^ 9) → hv 10 (dig9 g) (9 * n) = hv (10 ^ 9) g n
  | 0, _ => rfl
  | n + 1, h => by
    have e : hv 10 (fun i => dig9 g (9 * n + i)) 9 = g n := by
      have e2 : hv 10 (fun i => dig9 g (9 * n + i)) 9 = hv 10 (fun i => g n / 10 ^ (8 - i) % 10) 9 := hv_congr (fun i hi => by
        unfold dig9
        rw [show (9 * n + i) / 9 = n by omega, show (9 * n + i) % 9 = i by omega])
      rw [e2, hv_nine (h n (by omega)) 9 (by omega)]
      simp
    rw [Nat.mul_add, Nat.mul_one, hv_app, hv_dig9 (n := n) (fun i hi => h i (by omega)), e]
    rfl
theorem hv_rev {B : Nat} {f : Nat → Nat} : ∀ {n : Nat}, hv B (fun i => f (n - 1 - i)) n = le B f n
  | 0 => rfl
  | n + 1 => by
    have ih := hv_rev (B := B) (f := f) (n := n)
    rw [hv_cons, le, ← ih]
    have e2 : hv B (fun i => f (n + 1 - 1 - (1 + i))) n = hv B (fun i => f (n - 1 - i)) n := hv_congr (fun i hi => by
      rw [show n + 1 - 1 - (1 + i) = n - 1 - i by omega])
    rw [e2]
    show f (n + 1 - 1 - 0) * B ^ n + _ = _
    rw [show n + 1 - 1 - 0 = n by omega]
    omega
