/-! PURE: digits to the base b laid down by places: the j-th digit stands at the place j + s (s may be below 0), the places 0 to C - 1 are kept -/
def eS (C : Nat) (dgt : Nat → Nat) (s : Int) : Nat → Nat → Nat
  | 0 => fun _ => 0
  | k + 1 => if s + (k : Int) < 0 ∨ (C : Int) ≤ s + (k : Int) then eS C dgt s k else nup (eS C dgt s k) (s + (k : Int)).toNat (dgt k)
/-- what the digits before the k-th are worth, in units of the last place -/
def adS (b C : Nat) (dgt : Nat → Nat) (s : Int) : Nat → Nat
  | 0 => 0
  | k + 1 => if s + (k : Int) < 0 ∨ (C : Int) ≤ s + (k : Int) then adS b C dgt s k else adS b C dgt s k + dgt k * b ^ (C - 1 - (s + (k : Int)).toNat)
/-- places not reached yet are 0 -/
theorem eS_new {C : Nat} {dgt : Nat → Nat} {s : Int} : ∀ {k : Nat} {P : Nat}, s + (k : Int) ≤ (P : Int) → eS C dgt s k P = 0
  | 0, P, _ => rfl
  | k + 1, P, h => by
    rw [eS]
    split
    · exact eS_new (k := k) (by omega)
    · rename_i hn
      unfold nup
      rw [if_neg (by omega)]
      exact eS_new (k := k) (by omega)
theorem eS_lt {b C : Nat} {dgt : Nat → Nat} {s : Int} (hb : 0 < b) (hd : ∀ j, dgt j < b) : ∀ {k : Nat} {P : Nat}, eS C dgt s k P < b
  | 0, P => hb
  | k + 1, P => by
    rw [eS]
    split
    · exact eS_lt hb hd (k := k)
    · unfold nup
      split
      · exact hd k
      · exact eS_lt hb hd (k := k)
theorem eS_sum {b C : Nat} {dgt : Nat → Nat} {s : Int} : ∀ k : Nat, hv b (eS C dgt s k) C = adS b C dgt s k
  | 0 => hv_zero _ (fun i _ => rfl)
  | k + 1 => by
    have ih := eS_sum (b := b) (C := C) (dgt := dgt) (s := s) k
    rw [eS, adS]
    by_cases h0 : s + (k : Int) < 0 ∨ (C : Int) ≤ s + (k : Int)
    · rw [if_pos h0, if_pos h0]
      exact ih
    · rw [if_neg h0, if_neg h0]
      obtain ⟨n, hn⟩ := Int.eq_ofNat_of_zero_le (show 0 ≤ s + (k : Int) by omega)
      rw [hn, Int.toNat_natCast]
      have h1 := hv_set (B := b) (f := eS C dgt s k) (k := n) (x := dgt k) (n := C) (by omega)
      rw [eS_new (by omega), Nat.zero_mul, Nat.add_zero, ih] at h1
      exact h1
/-- is a digit before place 0; behind the last -/
def adH (dgt : Nat → Nat) (s : Int) (k : Nat) : Prop := ∃ j, j < k ∧ dgt j ≠ 0 ∧ s + (j : Int) < 0
def adM (C : Nat) (dgt : Nat → Nat) (s : Int) (k : Nat) : Prop := ∃ j, j < k ∧ dgt j ≠ 0 ∧ (C : Int) ≤ s + (j : Int)
/-- all digits up to the last place: exactly -/
theorem adS_in {b C : Nat} {dgt : Nat → Nat} {s : Int} : ∀ {k : Nat}, ¬ adH dgt s k → s + (k : Int) ≤ C → (s + (k : Int) < 0 → adS b C dgt s k = 0 ∧ hv b dgt k = 0) ∧ (0 ≤ s + (k : Int) → adS b C dgt s k = hv b dgt k * b ^ (C - (s + (k : Int)).toNat))
  | 0, _, _ => ⟨fun _ => ⟨rfl, rfl⟩, fun _ => by simp [adS, hv]⟩
  | k + 1, hH, hk => by
    have hH' : ¬ adH dgt s k := fun ⟨j, h1, h2⟩ => hH ⟨j, by omega, h2⟩
    have ih := adS_in (b := b) (C := C) (k := k) hH' (by omega)
    have hk0 : s + (k : Int) < 0 → dgt k = 0 := fun h => by
      rcases Nat.eq_zero_or_pos (dgt k) with z | z
      · exact z
      · exact absurd ⟨k, by omega, by omega, h⟩ hH
    rw [adS, hv]
    by_cases h0 : s + (k : Int) < 0
    · obtain ⟨i1, i2⟩ := ih.1 h0
      rw [if_pos (Or.inl h0), i1, i2, hk0 h0]
      exact ⟨fun _ => ⟨rfl, by simp⟩, fun _ => by simp⟩
    · rw [if_neg (by omega), ih.2 (by omega)]
      refine ⟨fun h => by omega, fun h => ?_⟩
      obtain ⟨n, hn⟩ := Int.eq_ofNat_of_zero_le (show 0 ≤ s + (k : Int) by omega)
      have e1 : (s + (k : Int)).toNat = n := by omega
      have e2 : (s + ((k + 1 : Nat) : Int)).toNat = n + 1 := by omega
      rw [e1, e2]
      have hn2 : n + 1 ≤ C := by omega
      have e3 : C - n = C - 1 - n + 1 := by omega
      have e4 : C - (n + 1) = C - 1 - n := by omega
      rw [e3, e4, Nat.pow_succ, Nat.add_mul, Nat.mul_assoc, Nat.mul_comm (b ^ (C - 1 - n)) b]
/-- digits behind the last place add nothing -/
theorem adS_out {b C : Nat} {dgt : Nat → Nat} {s : Int} {k0 : Nat} (h0 : (C : Int) ≤ s + (k0 : Int)) : ∀ d : Nat, adS b C dgt s (k0 + d) = adS b C dgt s k0
  | 0 => rfl
  | d + 1 => by
    rw [← Nat.add_assoc, adS, if_pos (Or.inr (by omega)), adS_out h0 d]
/-- the number that n digits make from the place s on, in units of the last place: the places hold its whole part, 'more' says whether it has a rest -/
theorem adS_all {b C : Nat} {dgt : Nat → Nat} {s : Int} {n : Nat} (hb : 0 < b) (hd : ∀ j, dgt j < b) (hH : ¬ adH dgt s n) :
    (s + (n : Int) ≤ C → adS b C dgt s n = hv b dgt n * b ^ ((C : Int) - (s + (n : Int))).toNat ∧ ¬ adM C dgt s n) ∧
    ((C : Int) < s + (n : Int) → hv b dgt n / b ^ (s + (n : Int) - C).toNat = adS b C dgt s n ∧ (hv b dgt n % b ^ (s + (n : Int) - C).toNat ≠ 0 ↔ adM C dgt s n)) := by
  refine ⟨fun h => ?_, fun h => ?_⟩
  · have h1 := adS_in (b := b) (C := C) hH h
    refine ⟨?_, fun ⟨j, h2, h3, h4⟩ => by omega⟩
    by_cases h0 : s + (n : Int) < 0
    · obtain ⟨i1, i2⟩ := h1.1 h0
      rw [i1, i2, Nat.zero_mul]
    · rw [h1.2 (by omega)]
      congr 2
      omega
  · by_cases hs : s ≤ C
    · obtain ⟨k, hk⟩ : ∃ k : Nat, s + (k : Int) = C := ⟨((C : Int) - s).toNat, by omega⟩
      obtain ⟨d, rfl⟩ : ∃ d, n = k + d := ⟨n - k, by omega⟩
      have e : (s + ((k + d : Nat) : Int) - C).toNat = d := by omega
      have hHk : ¬ adH dgt s k := fun ⟨j, h1, h2⟩ => hH ⟨j, by omega, h2⟩
      have h1 := (adS_in (b := b) (C := C) hHk (by omega)).2 (by omega)
      rw [hk] at h1
      simp at h1
      rw [e, adS_out (by omega) d, h1, hv_div hb (fun i _ => hd i), hv_mod hb (fun i _ => hd i)]
      refine ⟨rfl, ?_⟩
      constructor
      · intro hz
        rcases Classical.em (adM C dgt s (k + d)) with h2 | h2
        · exact h2
        · exact absurd (hv_zero b (fun i hi => by
            rcases Nat.eq_zero_or_pos (dgt (k + i)) with z | z
            · exact z
            · exact absurd ⟨k + i, by omega, by omega, by omega⟩ h2)) hz
      · rintro ⟨j, h2, h3, h4⟩
        exact hv_pos hb (k := j - k) (by omega) (by rw [show k + (j - k) = j by omega]; exact h3)
    · have hall : ∀ k : Nat, adS b C dgt s k = 0 := fun k => by
        induction k with
        | zero => rfl
        | succ k ih => rw [adS, if_pos (Or.inr (by omega)), ih]
      have hlt := hv_lt (B := b) (f := dgt) (n := n) (fun i _ => hd i)
      have hle : b ^ n ≤ b ^ (s + (n : Int) - C).toNat := Nat.pow_le_pow_right hb (by omega)
      rw [hall, Nat.div_eq_of_lt (Nat.lt_of_lt_of_le hlt hle), Nat.mod_eq_of_lt (Nat.lt_of_lt_of_le hlt hle)]
      refine ⟨rfl, ?_⟩
      constructor
      · intro hz
        rcases Classical.em (adM C dgt s n) with h2 | h2
        · exact h2
        · exact absurd (hv_zero b (fun i hi => by
            rcases Nat.eq_zero_or_pos (dgt i) with z | z
            · exact z
            · exact absurd ⟨i, hi, by omega, by omega⟩ h2)) hz
      · rintro ⟨j, h2, h3, h4⟩
        exact hv_pos hb h2 h3
/-- places in groups of w: the k-th group's number -/
theorem hv_group {b w : Nat} {e : Nat → Nat} {f : Nat → Nat} : ∀ {n : Nat}, (∀ k, k < n → f k = hv b (fun i => e (w * k + i)) w) → hv (b ^ w) f n = hv b e (w * n)
  | 0, _ => rfl
  | n + 1, h => by
    rw [hv, hv_group (n := n) (fun k hk => h k (by omega)), h n (by omega), Nat.mul_add, Nat.mul_one, hv_app]
