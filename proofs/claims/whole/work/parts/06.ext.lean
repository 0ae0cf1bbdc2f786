/-! what no method changes: the table of powers of ten, String's switch, the String constants; X: where the table lies, where the constants and their bytes lie -/
abbrev jX : Type := Nat × (Nat → Nat) × (Nat → Nat)
def st_len : List Nat := [3, 8, 1, 1, 1, 1]
def st_byt : List (List Int32) := [[78, 97, 78], [73, 110, 102, 105, 110, 105, 116, 121], [102], [70], [100], [68]]
def jR (X : jX) (U : State) : Prop := vk_R "DecimalReader" 97 "NaN" (X.2.1 0) U ∧ vk_R "DecimalReader" 103 "Infinity" (X.2.1 1) U ∧ vk_R "DecimalReader" 152 "f" (X.2.1 2) U ∧ vk_R "DecimalReader" 154 "F" (X.2.1 3) U ∧ vk_R "DecimalReader" 156 "d" (X.2.1 4) U ∧ vk_R "DecimalReader" 158 "D" (X.2.1 5) U ∧ vk_R "DecimalReaderModel" 117 "NaN" (X.2.1 0) U ∧ vk_R "DecimalReaderModel" 126 "Infinity" (X.2.1 1) U
def jE (X : jX) (A : Nat → Prop) (U : State) (H : Heap) : Prop := va_Z "DecimalReader$Value" "POWERS_OF_TEN" "[I" (.ref X.1) A U H ∧ va_T .int X.1 9 (fun j => .int (nI (10 ^ j))) A U H ∧ va_Z "java/lang/String" "COMPACT_STRINGS" "Z" (.int 1) A U H ∧ vk_S 6 st_len st_byt X.2.1 X.2.2 A U H ∧ jR X U
theorem jE.kept {X : jX} {A : Nat → Prop} {U : State} {H H1 : Heap} (h : jE X A U H) (hq : ∀ a : Nat, a < H.size → ¬ A a → H1[a]? = H[a]?) : jE X A U H1 := ⟨h.1.kept hq, h.2.1.kept hq, h.2.2.1.kept hq, h.2.2.2.1.kept hq, h.2.2.2.2⟩
theorem jE.narrow {X : jX} {A B : Nat → Prop} {U : State} {H : Heap} (h : jE X A U H) (hAB : ∀ q, B q → A q) : jE X B U H := ⟨h.1.narrow hAB, h.2.1.narrow hAB, h.2.2.1.narrow hAB, h.2.2.2.1.narrow hAB, h.2.2.2.2⟩
theorem jR.warm {X : jX} {s U : State} (hW : s.WarmedH U.vm) (h : jR X s) : jR X U := ⟨h.1.warm hW, h.2.1.warm hW, h.2.2.1.warm hW, h.2.2.2.1.warm hW, h.2.2.2.2.1.warm hW, h.2.2.2.2.2.1.warm hW, h.2.2.2.2.2.2.1.warm hW, h.2.2.2.2.2.2.2.warm hW⟩
theorem jR.same {X : jX} {u U : State} (hv : U.vm = u.vm) (h : jR X u) : jR X U := ⟨h.1.same hv, h.2.1.same hv, h.2.2.1.same hv, h.2.2.2.1.same hv, h.2.2.2.2.1.same hv, h.2.2.2.2.2.1.same hv, h.2.2.2.2.2.2.1.same hv, h.2.2.2.2.2.2.2.same hv⟩
theorem jE.warm {X : jX} {A : Nat → Prop} {s U : State} {H : Heap} (hW : s.WarmedH U.vm) (h : jE X A s H) : jE X A U H := ⟨va_Z.moved hW.alike h.1, va_T.moved hW.alike h.2.1, va_Z.moved hW.alike h.2.2.1, vk_S.moved hW.alike h.2.2.2.1, h.2.2.2.2.warm hW⟩
theorem jE.same {X : jX} {A : Nat → Prop} {u U : State} {H : Heap} (hv : U.vm = u.vm) (h : jE X A u H) : jE X A U H := by
  have ha : u.vm.Alike U.vm := by rw [hv]; exact Vm.Alike.refl _
  exact ⟨va_Z.moved ha h.1, va_T.moved ha h.2.1, va_Z.moved ha h.2.2.1, vk_S.moved ha h.2.2.2.1, h.2.2.2.2.same hv⟩
