/-! PURE: the text. t: the tape's bytes (as Java's ints); a position a, an end z -/
/-- a byte's digit: 0 to 15; 16 for none -/
def dg (x : Int32) : Nat := if 48 ≤ x.toInt ∧ x.toInt ≤ 57 then (x.toInt - 48).toNat else if 97 ≤ x.toInt ∧ x.toInt ≤ 102 then (x.toInt - 87).toNat else if 65 ≤ x.toInt ∧ x.toInt ≤ 70 then (x.toInt - 55).toNat else 16
theorem dg_le (x : Int32) : dg x ≤ 16 := by
  unfold dg
  split
  · omega
  · split
    · omega
    · split <;> omega
/-- how many digits below b stand at a, of at most k -/
def rn (t : Nat → Int32) (b : Nat) : Nat → Nat → Nat
  | _, 0 => 0
  | a, k + 1 => if dg (t a) < b then rn t b (a + 1) k + 1 else 0
theorem rn_le (t : Nat → Int32) (b : Nat) : ∀ (k a : Nat), rn t b a k ≤ k
  | 0, a => by simp [rn]
  | k + 1, a => by
    unfold rn
    split
    · have := rn_le t b k (a + 1); omega
    · omega
theorem rn_in (t : Nat → Int32) (b : Nat) : ∀ (k a i : Nat), i < rn t b a k → dg (t (a + i)) < b
  | 0, a, i, h => by simp [rn] at h
  | k + 1, a, i, h => by
    unfold rn at h
    split at h
    · rename_i h1
      cases i with
      | zero => simpa using h1
      | succ i =>
        have := rn_in t b k (a + 1) i (by omega)
        rw [show a + (i + 1) = a + 1 + i by omega]
        exact this
    · omega
theorem rn_end (t : Nat → Int32) (b : Nat) : ∀ (k a : Nat), rn t b a k < k → ¬ dg (t (a + rn t b a k)) < b
  | 0, a, h => by simp [rn] at h
  | k + 1, a, h => by
    unfold rn at h ⊢
    split at h
    · rename_i h1
      rw [if_pos h1]
      have := rn_end t b k (a + 1) (by omega)
      rw [show a + (rn t b (a + 1) k + 1) = a + 1 + rn t b (a + 1) k by omega]
      exact this
    · rename_i h1
      rw [if_neg h1]
      simpa using h1
theorem rn_ge (t : Nat → Int32) (b : Nat) : ∀ (k a j : Nat), j ≤ k → (∀ i, i < j → dg (t (a + i)) < b) → j ≤ rn t b a k
  | 0, a, j, h, _ => by omega
  | k + 1, a, 0, h, _ => Nat.zero_le _
  | k + 1, a, j + 1, h, hd => by
    unfold rn
    rw [if_pos (by simpa using hd 0 (by omega))]
    have := rn_ge t b k (a + 1) j (by omega) (fun i hi => by
      have := hd (i + 1) (by omega)
      rw [show a + 1 + i = a + (i + 1) by omega]
      exact this)
    omega
theorem rn_eq {t : Nat → Int32} {b k a j : Nat} (hj : j ≤ k) (hd : ∀ i, i < j → dg (t (a + i)) < b) (he : j = k ∨ ¬ dg (t (a + j)) < b) : rn t b a k = j := by
  have h1 := rn_ge t b k a j hj hd
  have h2 := rn_le t b k a
  rcases he with he | he
  · omega
  · rcases Nat.lt_or_eq_of_le h1 with h | h
    · exact absurd (rn_in t b k a j h) he
    · exact h.symm
theorem rn_congr {t t' : Nat → Int32} {b : Nat} : ∀ (k a : Nat), (∀ i, a ≤ i → i < a + k → t i = t' i) → rn t b a k = rn t' b a k
  | 0, a, _ => by simp [rn]
  | k + 1, a, h => by
    unfold rn
    rw [h a (by omega) (by omega), rn_congr k (a + 1) (fun i h1 h2 => h i (by omega) (by omega))]
/-- the place behind the blanks at a, before z = a + k -/
def ld (t : Nat → Int32) : Nat → Nat → Nat
  | a, 0 => a
  | a, k + 1 => if 0 ≤ (t a).toInt ∧ (t a).toInt ≤ 32 then ld t (a + 1) k else a
theorem ld_ge (t : Nat → Int32) : ∀ (k a : Nat), a ≤ ld t a k ∧ ld t a k ≤ a + k
  | 0, a => by simp [ld]
  | k + 1, a => by
    unfold ld
    split
    · have := ld_ge t k (a + 1); omega
    · omega
/-- the end without the blanks before a + k, not below a -/
def tr (t : Nat → Int32) (a : Nat) : Nat → Nat
  | 0 => a
  | k + 1 => if 0 ≤ (t (a + k)).toInt ∧ (t (a + k)).toInt ≤ 32 then tr t a k else a + k + 1
theorem tr_ge (t : Nat → Int32) (a : Nat) : ∀ k : Nat, a ≤ tr t a k ∧ tr t a k ≤ a + k
  | 0 => by simp [tr]
  | k + 1 => by
    unfold tr
    split
    · have := tr_ge t a k; omega
    · omega
/-- does the byte x stand at a -/
def isc (t : Nat → Int32) (a z : Nat) (x : Int32) : Prop := a < z ∧ t a = x
