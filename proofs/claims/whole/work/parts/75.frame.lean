/-! FRAMES: a contract within a larger world -/
theorem fr_el (a w1 b : va_W) {k : Nat} {q : Nat × va_E} (h : w1[k]? = some q) : (a ++ (w1 ++ b))[a.length + k]? = some q := by
  have hk : k < w1.length := (List.getElem?_eq_some_iff.mp h).1
  rw [List.getElem?_append_right (by omega), show a.length + k - a.length = k by omega, List.getElem?_append_left hk]
  exact h
/-- the larger world's other entries -/
theorem fr_cases (a w1 b : va_W) {j : Nat} {q : Nat × va_E} (h : (a ++ (w1 ++ b))[j]? = some q) : (j < a.length ∧ a[j]? = some q) ∨ (a.length ≤ j ∧ j < a.length + w1.length ∧ w1[j - a.length]? = some q) ∨ (a.length + w1.length ≤ j ∧ b[j - a.length - w1.length]? = some q) := by
  by_cases h1 : j < a.length
  · left
    rw [List.getElem?_append_left h1] at h
    exact ⟨h1, h⟩
  · right
    rw [List.getElem?_append_right (by omega)] at h
    by_cases h2 : j - a.length < w1.length
    · left
      rw [List.getElem?_append_left h2] at h
      exact ⟨by omega, by omega, h⟩
    · right
      rw [List.getElem?_append_right (by omega)] at h
      exact ⟨by omega, h⟩
theorem fr_P {D : va_G} {a w1 b : va_W} {H : Heap} (h : va_P D classes (a ++ (w1 ++ b)) H) : va_P D classes w1 H := fun k q hk => h _ q (fr_el a w1 b hk)
theorem fr_D {A : Nat → Prop} {a w1 b : va_W} (h : va_D A (a ++ (w1 ++ b))) : va_D A w1 := ⟨fun i j p q hi hj e => by
  have := h.1 _ _ p q (fr_el a w1 b hi) (fr_el a w1 b hj) e
  omega, fun k q hk => h.2 _ q (fr_el a w1 b hk)⟩
theorem fr_A {a w1 b : va_W} {sz q : Nat} (h : va_A w1 sz q) : va_A (a ++ (w1 ++ b)) sz q := by
  rcases h with ⟨k, e, h⟩ | h
  · exact Or.inl ⟨_, e, fr_el a w1 b h⟩
  · exact Or.inr h
/-- an entry of a or b lies apart from w1's, and below the heap's end -/
theorem fr_out {D : va_G} {A : Nat → Prop} {a w1 b : va_W} {H : Heap} (hP : va_P D classes (a ++ (w1 ++ b)) H) (hD : va_D A (a ++ (w1 ++ b))) {j : Nat} {q : Nat × va_E} (hj : (a ++ (w1 ++ b))[j]? = some q) (ho : j < a.length ∨ a.length + w1.length ≤ j) : ¬ va_A w1 H.size q.1 := by
  intro h
  rcases h with ⟨k, e, h⟩ | h
  · have hk : k < w1.length := (List.getElem?_eq_some_iff.mp h).1
    have := hD.1 _ _ _ _ hj (fr_el a w1 b h) rfl
    omega
  · have := vx_lt hP hj
    omega
/-- back into the larger world -/
theorem fr_back {D : va_G} {A : Nat → Prop} {a w1 b u : va_W} {H H1 : Heap} (hP : va_P D classes (a ++ (w1 ++ b)) H) (hD : va_D A (a ++ (w1 ++ b))) (hk : ∀ q : Nat, q < H.size → ¬ va_A w1 H.size q → H1[q]? = H[q]?) (hP1 : va_P D classes u H1) (hD1 : va_D (va_A w1 H.size) u) : va_P D classes (a ++ (u ++ b)) H1 ∧ va_D (va_A (a ++ (w1 ++ b)) H.size) (a ++ (u ++ b)) := by
  have hoa : ∀ {j : Nat} {q : Nat × va_E}, a[j]? = some q → (a ++ (w1 ++ b))[j]? = some q := by
    intro j q h
    rw [List.getElem?_append_left (List.getElem?_eq_some_iff.mp h).1]
    exact h
  have hob : ∀ {j : Nat} {q : Nat × va_E}, b[j]? = some q → (a ++ (w1 ++ b))[a.length + w1.length + j]? = some q := by
    intro j q h
    rw [List.getElem?_append_right (by omega), show a.length + w1.length + j - a.length = w1.length + j by omega, List.getElem?_append_right (by omega), show w1.length + j - w1.length = j by omega]
    exact h
  have hla : ∀ {j : Nat} {q : Nat × va_E}, a[j]? = some q → j < a.length := fun h => (List.getElem?_eq_some_iff.mp h).1
  have xa : ∀ {j : Nat} {q : Nat × va_E}, a[j]? = some q → ¬ va_A w1 H.size q.1 := fun h => fr_out hP hD (hoa h) (Or.inl (hla h))
  have xb : ∀ {j : Nat} {q : Nat × va_E}, b[j]? = some q → ¬ va_A w1 H.size q.1 := fun h => fr_out hP hD (hob h) (Or.inr (by omega))
  have keep : ∀ {j : Nat} {q : Nat × va_E}, (a ++ (w1 ++ b))[j]? = some q → ¬ va_A w1 H.size q.1 → va_at D classes q H1 := fun h h2 => (hP _ _ h).kept (hk _ (vx_lt hP h) h2)
  refine ⟨fun j q h => ?_, fun i j p q hi hj e => ?_, fun j q h => ?_⟩
  · rcases fr_cases a u b h with ⟨-, h⟩ | ⟨-, -, h⟩ | ⟨-, h⟩
    · exact keep (hoa h) (xa h)
    · exact hP1 _ q h
    · exact keep (hob h) (xb h)
  · rcases fr_cases a u b hi with ⟨i1, hi⟩ | ⟨i1, i2, hi⟩ | ⟨i1, hi⟩ <;> rcases fr_cases a u b hj with ⟨j1, hj⟩ | ⟨j1, j2, hj⟩ | ⟨j1, hj⟩
    · exact hD.1 _ _ _ _ (hoa hi) (hoa hj) e
    · exact absurd (e ▸ hD1.2 _ _ hj) (xa hi)
    · have := hD.1 _ _ _ _ (hoa hi) (hob hj) e
      omega
    · exact absurd (e ▸ hD1.2 _ _ hi) (xa hj)
    · have := hD1.1 _ _ _ _ hi hj e
      omega
    · exact absurd (e ▸ hD1.2 _ _ hi) (xb hj)
    · have := hD.1 _ _ _ _ (hob hi) (hoa hj) e
      omega
    · exact absurd (e ▸ hD1.2 _ _ hj) (xb hi)
    · have := hD.1 _ _ _ _ (hob hi) (hob hj) e
      omega
  · rcases fr_cases a u b h with ⟨-, h⟩ | ⟨-, -, h⟩ | ⟨-, h⟩
    · exact Or.inl ⟨_, q.2, hoa h⟩
    · exact fr_A (hD1.2 _ _ h)
    · exact Or.inl ⟨_, q.2, hob h⟩
