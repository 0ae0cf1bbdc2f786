/-! THE CLASS: Value.addDecimalDigit, addHexDigit; by places -/
/-- the limbs hold the digits e of the places 0 to 1394 -/
def Le (lb : Nat → Int32) (e : Nat → Nat) : Prop := ∀ k, k < 155 → lb k = nI (hv 10 (fun i => e (9 * k + i)) 9)
theorem Le_lt {e : Nat → Nat} (he : ∀ P, e P < 10) (k : Nat) : hv 10 (fun i => e (9 * k + i)) 9 < 1000000000 := hv_lt (B := 10) (n := 9) (fun i _ => he _)
theorem Le.Lr {lb : Nat → Int32} {e : Nat → Nat} (h : Le lb e) (he : ∀ P, e P < 10) : Lr lb (fun k => hv 10 (fun i => e (9 * k + i)) 9) := fun k hk => ⟨h k hk, Le_lt he k⟩
theorem Le.set {lb : Nat → Int32} {e : Nat → Nat} {P d : Nat} (h : Le lb e) (hP : P < 1395) (h0 : e P = 0) : Le (upd lb (P / 9) (lb (P / 9) + nI d * nI (10 ^ (8 - P % 9)))) (nup e P d) := fun k hk => by
  have hr : P % 9 < 9 := Nat.mod_lt _ (by omega)
  have hdm := Nat.div_add_mod P 9
  unfold upd
  by_cases e1 : k = P / 9
  · subst e1
    rw [if_pos rfl, h _ hk, pk_mul, nI_add]
    congr 1
    have h1 := hv_set (B := 10) (f := fun i => e (9 * (P / 9) + i)) (k := P % 9) (x := d) (n := 9) hr
    have e2 : (fun i => e (9 * (P / 9) + i)) (P % 9) = 0 := by
      show e (9 * (P / 9) + P % 9) = 0
      rw [hdm]; exact h0
    rw [e2, Nat.zero_mul, Nat.add_zero] at h1
    rw [show 9 - 1 - P % 9 = 8 - P % 9 by omega] at h1
    rw [← h1]
    apply hv_congr
    intro i hi
    unfold nup
    by_cases e3 : i = P % 9
    · rw [if_pos e3, if_pos (by omega)]
    · rw [if_neg e3, if_neg (by omega)]
  · rw [if_neg e1, h _ hk]
    congr 1
    apply hv_congr
    intro i hi
    unfold nup
    rw [if_neg (by omega)]
/-- the words hold the bits e of the places 0 to 2143 -/
def We (wo : Nat → Int32) (e : Nat → Nat) : Prop := ∀ k, k < 67 → un (wo k) = hv 2 (fun i => e (32 * k + i)) 32
theorem We.num {wo : Nat → Int32} {e : Nat → Nat} (h : We wo e) : wnum wo = hv 2 e 2144 := by
  have := hv_group (b := 2) (w := 32) (e := e) (f := fun i => un (wo i)) (n := 67) h
  exact this
theorem or_bit {x k : Nat} (hk : x / 2 ^ k % 2 = 0) : x ||| 2 ^ k = x + 2 ^ k := by
  have h1 := Nat.div_add_mod x (2 ^ (k + 1))
  have hlt : x % 2 ^ (k + 1) < 2 ^ k := by
    have h2 : x % 2 ^ (k + 1) / 2 ^ k % 2 = 0 := by
      rw [Nat.pow_succ, Nat.mod_mul_right_div_self]
      omega
    exact div_mod_zero (Nat.mod_lt _ (Nat.two_pow_pos _)) h2
  apply Nat.eq_of_testBit_eq
  intro i
  rw [Nat.testBit_or, Nat.testBit_two_pow]
  rcases Nat.lt_trichotomy i k with h | h | h
  · rw [Nat.add_comm x, Nat.testBit_two_pow_add_gt h]
    simp [show ¬ k = i by omega]
  · subst h
    rw [Nat.add_comm x, Nat.testBit_two_pow_add_eq]
    have : x.testBit i = false := by
      rw [Nat.testBit_eq_decide_div_mod_eq]
      simp [hk]
    simp [this]
  · have e1 : x + 2 ^ k = 2 ^ (k + 1) * (x / 2 ^ (k + 1)) + (x % 2 ^ (k + 1) + 2 ^ k) := by omega
    have hlt2 : x % 2 ^ (k + 1) + 2 ^ k < 2 ^ (k + 1) := by rw [Nat.pow_succ] at *; omega
    rw [e1, Nat.testBit_two_pow_mul_add _ hlt2]
    have e2 : x.testBit i = (x / 2 ^ (k + 1)).testBit (i - (k + 1)) := by
      conv => lhs; rw [← h1]
      rw [Nat.testBit_two_pow_mul_add _ (Nat.mod_lt _ (Nat.two_pow_pos _))]
      simp [show ¬ i < k + 1 by omega]
    rw [e2]
    simp [show ¬ i < k + 1 by omega, show ¬ k = i by omega]

