/-! PURE: both sides answer alike -/
theorem scB_fun {t : Nat → Int32} {n a z b a' z' b' : Nat} {mi mi' : Bool} (h : scB t n a z b mi) (h' : scB t n a' z' b' mi') : a = a' ∧ z = z' ∧ b = b' ∧ mi = mi' := by
  obtain ⟨h1, h2, h3, h4⟩ := h
  obtain ⟨g1, g2, g3, g4⟩ := h'
  have ea : a = a' := by rw [h1, g1]
  subst ea
  have ez : z = z' := by rw [h2, g2]
  subst ez
  refine ⟨rfl, rfl, ?_, me_eq (h3.trans g3.symm)⟩
  rcases h4 with ⟨q1, q2⟩ | ⟨q1, q2⟩ <;> rcases g4 with ⟨p1, p2⟩ | ⟨p1, p2⟩
  · rw [q2, p2]
  · exact absurd q1 p1
  · exact absurd p1 q1
  · rw [q2, p2]
theorem ansR_fun {p u inf : Nat} {nan sg : Int64} {t : Nat → Int32} {b z : Nat} {mi : Bool} {r r' : Int64} (h : ansR p u inf nan sg t b z mi r) (h' : ansR p u inf nan sg t b z mi r') : r = r' := by
  rcases h with ⟨h1, h2⟩ | ⟨h1, h2, h3⟩ | ⟨h1, h2, s, h3, h4, h5⟩ <;> rcases h' with ⟨g1, g2⟩ | ⟨g1, g2, g3⟩ | ⟨g1, g2, s', g3, g4, g5⟩
  · rw [h2, g2]
  · exact absurd h1 g1
  · exact absurd h1 g1
  · exact absurd g1 h1
  · rw [h3, g3]
  · exact absurd h2 g2
  · exact absurd g1 h1
  · exact absurd g2 h2
  · rw [h5, g5, numR_unique h4 g4]
