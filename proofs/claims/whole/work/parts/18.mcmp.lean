/-! PURE: two rows of decimal digits with their points: 0.f0f1..f(n-1) * 10^p, in units of 10^-K -/
def sv (f : Nat → Nat) (n : Nat) (p : Int) (K : Nat) : Nat := hv 10 f n * 10 ^ (p - n + K).toNat
theorem sv_lt {f : Nat → Nat} {n K : Nat} {p : Int} (hf : ∀ i, i < n → f i < 10) (h : 0 ≤ p - n + K) : sv f n p K < 10 ^ (p + K).toNat := by
  unfold sv
  have h1 := hv_lt (B := 10) hf
  have e : (p + K).toNat = n + (p - n + K).toNat := by omega
  rw [e, Nat.pow_add]
  exact Nat.mul_lt_mul_of_pos_right h1 (Nat.pow_pos (by omega))
theorem sv_ge {f : Nat → Nat} {n K : Nat} {p : Int} (hn : 0 < n) (h0 : 0 < f 0) (h : 0 ≤ p - n + K) : 10 ^ (p - 1 + K).toNat ≤ sv f n p K := by
  unfold sv
  have h1 := hv_ge (B := 10) hn h0
  have e : (p - 1 + K).toNat = (n - 1) + (p - n + K).toNat := by omega
  rw [e, Nat.pow_add]
  exact Nat.mul_le_mul_right _ h1
theorem sv_p {f g : Nat → Nat} {n r K : Nat} {p q : Int} (hf : ∀ i, i < n → f i < 10) (hr : 0 < r) (hg : 0 < g 0) (h1 : 0 ≤ p - n + K) (h2 : 0 ≤ q - r + K) (hpq : p < q) : sv f n p K < sv g r q K := by
  have a1 := sv_lt hf h1
  have a2 := sv_ge hr hg h2
  have a3 : 10 ^ (p + K).toNat ≤ 10 ^ (q - 1 + K).toNat := Nat.pow_le_pow_right (by omega) (by omega)
  omega
theorem sv_dz {f : Nat → Nat} {n m K : Nat} {p : Int} (hm : n ≤ m) (h : 0 ≤ p - m + K) : sv f n p K = hv 10 (dz f n) m * 10 ^ (p - m + K).toNat := by
  unfold sv
  have e := hv_dz (B := 10) f n (m - n)
  rw [show n + (m - n) = m by omega] at e
  rw [e, Nat.mul_assoc, ← Nat.pow_add]
  congr 2
  omega
theorem sv_first {f g : Nat → Nat} {n r m k K : Nat} {p : Int} (hf : ∀ i, i < n → f i < 10) (hn : n ≤ m) (hr : r ≤ m) (h : 0 ≤ p - m + K) (hk : k < m) (he : ∀ i, i < k → dz f n i = dz g r i) (hlt : dz f n k < dz g r k) : sv f n p K < sv g r p K := by
  rw [sv_dz hn h, sv_dz hr h]
  refine Nat.mul_lt_mul_of_pos_right (hv_first hk he hlt (fun i _ => ?_)) (Nat.pow_pos (by omega))
  unfold dz
  split
  · rename_i h1; exact hf i h1
  · omega
theorem sv_same {f g : Nat → Nat} {n r m K : Nat} {p : Int} (hn : n ≤ m) (hr : r ≤ m) (h : 0 ≤ p - m + K) (he : ∀ i, i < m → dz f n i = dz g r i) : sv f n p K = sv g r p K := by
  rw [sv_dz hn h, sv_dz hr h, hv_congr he]
/-- digits 0 at the end change nothing -/
theorem sv_cut {f : Nat → Nat} {n d K : Nat} {p : Int} (hz : ∀ i, n ≤ i → i < n + d → f i = 0) (h : 0 ≤ p - (n + d : Nat) + K) : sv f (n + d) p K = sv f n p K := by
  unfold sv
  rw [hv_app, hv_zero 10 (fun i hi => hz (n + i) (by omega) (by omega)), Nat.add_zero, Nat.mul_assoc, ← Nat.pow_add]
  congr 2
  omega
