/-! PURE: from the reference's reading to the answer -/
theorem isW1 {t : Nat → Int32} {a z i : Nat} {x : Int32} (hl : st_len.getD i 0 = 1) (hb : (st_byt.getD i []).getD 0 0 = x) : isW t a z i ↔ (a + 1 = z ∧ t a = x) := by
  unfold isW
  rw [hl]
  constructor
  · intro h
    have h1 := h.2 0 (by omega)
    rw [Nat.add_zero, hb] at h1
    exact ⟨by omega, h1⟩
  · intro h
    refine ⟨by omega, fun j hj => ?_⟩
    have : j = 0 := by omega
    subst this
    rw [Nat.add_zero, hb]
    exact h.2
theorem isSf_iff {t : Nat → Int32} {a z : Nat} : isSf t a z ↔ (a = z ∨ (a + 1 = z ∧ (t a = 102 ∨ t a = 70 ∨ t a = 100 ∨ t a = 68))) := by
  unfold isSf
  rw [isW1 (i := 2) (x := 102) rfl rfl, isW1 (i := 3) (x := 70) rfl rfl, isW1 (i := 4) (x := 100) rfl rfl, isW1 (i := 5) (x := 68) rfl rfl]
  constructor
  · intro h
    rcases h with h | h | h | h | h
    · exact Or.inl h
    · exact Or.inr ⟨h.1, Or.inl h.2⟩
    · exact Or.inr ⟨h.1, Or.inr (Or.inl h.2)⟩
    · exact Or.inr ⟨h.1, Or.inr (Or.inr (Or.inl h.2))⟩
    · exact Or.inr ⟨h.1, Or.inr (Or.inr (Or.inr h.2))⟩
  · intro h
    rcases h with h | ⟨h, h1 | h1 | h1 | h1⟩
    · exact Or.inl h
    · exact Or.inr (Or.inl ⟨h, h1⟩)
    · exact Or.inr (Or.inr (Or.inl ⟨h, h1⟩))
    · exact Or.inr (Or.inr (Or.inr (Or.inl ⟨h, h1⟩)))
    · exact Or.inr (Or.inr (Or.inr (Or.inr ⟨h, h1⟩)))
theorem scNum_no {t : Nat → Int32} {b z : Nat} {hx : Bool} (hh : hx = true ↔ hxs t b z) (h : ∀ (c0 n1 n2 c2 c3 : Nat) (me : Bool) (c5 n3 c6 : Nat), ¬ scQ t b z hx c0 n1 n2 c2 c3 me c5 n3 c6) : ¬ scNum t b z := by
  rintro ⟨hx', c0, n1, n2, c2, c3, me, c5, n3, c6, h1, h2, h3, -⟩
  have : hx = hx' := me_eq (hh.trans h1.1.symm)
  subst this
  exact h c0 n1 n2 c2 c3 me c5 n3 c6 ⟨h1, h2, h3⟩
theorem scNum_sf {t : Nat → Int32} {b z : Nat} {hx : Bool} {c0 n1 n2 c2 c3 : Nat} {me : Bool} {c5 n3 c6 : Nat} (h : scQ t b z hx c0 n1 n2 c2 c3 me c5 n3 c6) (hn : ¬ isSf t c6 z) : ¬ scNum t b z := by
  rintro ⟨hx', c0', n1', n2', c2', c3', me', c5', n3', c6', h1, h2, h3, h4⟩
  obtain ⟨rfl, -, -, -, -, rfl⟩ := scD_fun h.1 h1
  obtain ⟨-, -, -, -, rfl⟩ := scE_fun h.2.2 h3
  exact hn h4
theorem or0 (x : Int64) : (0 : Int64) ||| x = x := Int64.zero_or
theorem orc (x y : Int64) : x ||| y = y ||| x := Int64.or_comm x y
