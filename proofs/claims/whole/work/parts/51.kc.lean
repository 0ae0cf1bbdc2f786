/-! PURE: the parts c and q of a place -/
def kc (p a : Nat) : Nat := if a / 2 ^ p = 0 then a else a % 2 ^ p + 2 ^ p
theorem kG_kc (p u a : Nat) : kG p u a = kc p a * 2 ^ (u + (a / 2 ^ p - 1)) := by
  unfold kG kc
  split
  · next h => rw [h]; simp
  · rfl
theorem kc_lt (p a : Nat) : kc p a < 2 ^ (p + 1) := by
  have h := Nat.mod_lt a (Nat.two_pow_pos p)
  have hd := Nat.div_add_mod a (2 ^ p)
  rw [Nat.pow_succ]
  unfold kc
  split
  · next h0 => rw [h0] at hd; omega
  · omega
