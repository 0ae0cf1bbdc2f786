/-! PURE: a row's digits -/
theorem mlb_push {lm : Nat → Int64} {n V y : Nat} (h : mlb lm n V) (hy : y < 1000000000) : mlb (vp_updL lm n (lN y)) (n + 1) (V + y * 1000000000 ^ n) := by
  obtain ⟨f, h1, h2, h3⟩ := h
  refine ⟨nup f n y, ?_, ?_, ?_⟩
  · intro i hi
    unfold nup
    by_cases hin : i = n
    · rw [hin, updL_at, if_pos rfl]
    · rw [updL_ne hin, if_neg hin]
      exact h1 i (by omega)
  · intro i hi
    unfold nup
    split
    · exact hy
    · exact h2 i (by omega)
  · have e : le 1000000000 (nup f n y) n = le 1000000000 f n := le_congr (fun i hi => by
      unfold nup
      rw [if_neg (by omega)])
    show le 1000000000 _ n + nup f n y n * _ = _
    rw [e, h3]
    unfold nup
    rw [if_pos rfl]
theorem mlb_0 (lm : Nat → Int64) : mlb lm 0 0 := ⟨fun _ => 0, fun i hi => absurd hi (by omega), fun i hi => absurd hi (by omega), rfl⟩
/-- t digits of E seen, the zeros ahead left out, m written -/
def rS (E : Nat → Nat) (t m : Nat) (x : Nat → Int32) : Prop := ∃ z, t = z + m ∧ (∀ j, j < z → E j = 0) ∧ (0 < m → 0 < E z) ∧ ∀ i, i < m → x i = nI (E (z + i))
theorem rS_0 (E : Nat → Nat) (x : Nat → Int32) : rS E 0 0 x := ⟨0, rfl, fun j hj => absurd hj (by omega), fun h => absurd h (by omega), fun i hi => absurd hi (by omega)⟩
theorem rS_skip {E : Nat → Nat} {t : Nat} {x : Nat → Int32} (h : rS E t 0 x) (h0 : E t = 0) : rS E (t + 1) 0 x := by
  obtain ⟨z, h1, h2, -, -⟩ := h
  refine ⟨t + 1, rfl, fun j hj => ?_, fun h => absurd h (by omega), fun i hi => absurd hi (by omega)⟩
  rcases Nat.lt_or_eq_of_le (Nat.le_of_lt_succ hj) with y | y
  · exact h2 j (by omega)
  · rw [y]; exact h0
theorem rS_put {E : Nat → Nat} {t n : Nat} {x : Nat → Int32} (h : rS E t n x) (h0 : ¬ (n = 0 ∧ E t = 0)) : rS E (t + 1) (n + 1) (upd x n (nI (E t))) := by
  obtain ⟨z, h1, h2, h3, h4⟩ := h
  refine ⟨z, by omega, h2, fun _ => ?_, fun i hi => ?_⟩
  · by_cases hm : n = 0
    · have : z = t := by omega
      rw [this]
      omega
    · exact h3 (by omega)
  · unfold upd
    split
    · next y => rw [y, h1]
    · exact h4 i (by omega)
/-- a row: cc * 2^q by its decimal digits -/
def rowR (cc : Nat) (q : Int) (x : Nat → Int32) (dn : Nat) (pp : Int) : Prop := ∃ df : Nat → Nat, dn ≤ 1300 ∧ (∀ i, i < dn → x i = nI (df i)) ∧ (∀ i, i < dn → df i < 10) ∧ (0 < dn → 0 < df 0) ∧ -1075 ≤ pp - dn ∧ pp ≤ 1300 ∧ ∀ K : Nat, 1075 ≤ K → sv df dn pp K = cc * 2 ^ (q + K).toNat * 5 ^ K
theorem p10 (k : Nat) : (10 : Nat) ^ k = 2 ^ k * 5 ^ k := by
  rw [← Nat.mul_pow]
theorem rowR_of {cc n dn k : Nat} {q : Int} {x : Nat → Int32} {f : Nat → Nat} (hb : ∀ i, i < n → f i < 1000000000) (hV : le 1000000000 f n = cc * 2 ^ q.toNat * 5 ^ (-q).toNat) (hn : 9 * n ≤ 1300) (hS : rS (dig9 fun i => f (n - 1 - i)) (9 * n) k x) (hq : -1075 ≤ q) (hd : dn ≤ k) (hz : ∀ i, dn ≤ i → i < k → x i = 0) : rowR cc q x dn ((k : Int) + (if q < 0 then q else 0)) := by
  obtain ⟨z, h1, h2, h3, h4⟩ := hS
  have hE := dig9_lt fun i => f (n - 1 - i)
  have hv1 : hv 10 (dig9 fun i => f (n - 1 - i)) (9 * n) = cc * 2 ^ q.toNat * 5 ^ (-q).toNat := by
    rw [← hV, ← hv_rev]
    exact hv_dig9 (fun i hi => hb _ (by omega))
  generalize dig9 (fun i => f (n - 1 - i)) = E at *
  have hv2 : hv 10 (fun i => E (z + i)) k = cc * 2 ^ q.toNat * 5 ^ (-q).toNat := by
    rw [← hv1, h1, hv_app, hv_zero 10 h2]
    omega
  refine ⟨fun i => E (z + i), by omega, fun i hi => h4 i (by omega), fun i _ => hE _, fun h => h3 (by omega), by split <;> omega, by split <;> omega, fun K hK => ?_⟩
  have hc := sv_cut (f := fun i => E (z + i)) (n := dn) (d := k - dn) (K := K) (p := (k : Int) + (if q < 0 then q else 0)) (fun i hi hi2 => by
    have e1 := hz i hi (by omega)
    rw [h4 i (by omega)] at e1
    have e2 := hE (z + i)
    exact (nI_eq (b := 0) (by omega) (by omega)).mp e1) (by split <;> omega)
  rw [← hc, show dn + (k - dn) = k by omega]
  unfold sv
  rw [hv2]
  by_cases hq0 : q < 0
  · rw [if_pos hq0, show q.toNat = 0 by omega, Nat.pow_zero, Nat.mul_one, show ((k : Int) + q - k + K).toNat = (q + K).toNat by omega, p10, show K = (-q).toNat + (q + K).toNat by omega, Nat.pow_add 5]
    rw [show (q + (((-q).toNat + (q + K).toNat : Nat) : Int)).toNat = (q + K).toNat by omega]
    ac_rfl
  · rw [if_neg hq0, show (-q).toNat = 0 by omega, Nat.pow_zero, Nat.mul_one, show ((k : Int) + 0 - k + K).toNat = K by omega, p10, show (q + (K : Int)).toNat = q.toNat + K by omega, Nat.pow_add 2]
    ac_rfl
theorem nar10 : ∀ d, d < 10 → vp_nar .byte (nI d) = nI d := by decide +kernel
theorem i2b10 : ∀ d, d < 10 → (nI d).toInt8.toInt32 = nI d := by decide +kernel
