/-! what no method changes: the table of powers of ten, String's switch, the String constants, what throwing reads; X: where the table lies, where the constants and their bytes lie -/
abbrev jX : Type := Nat × (Nat → Nat) × (Nat → Nat)
def st_len : List Nat := [3, 8, 1, 1, 1, 1]
def st_byt : List (List Int32) := [[78, 97, 78], [73, 110, 102, 105, 110, 105, 116, 121], [102], [70], [100], [68]]
def jR (X : jX) (U : State) : Prop := (vk_R "DecimalReader" 97 "NaN" (X.2.1 0) U ∧ vk_R "DecimalReader" 103 "Infinity" (X.2.1 1) U ∧ vk_R "DecimalReader" 152 "f" (X.2.1 2) U ∧ vk_R "DecimalReader" 154 "F" (X.2.1 3) U ∧ vk_R "DecimalReader" 156 "d" (X.2.1 4) U ∧ vk_R "DecimalReader" 158 "D" (X.2.1 5) U ∧ vk_R "DecimalReaderModel" 117 "NaN" (X.2.1 0) U ∧ vk_R "DecimalReaderModel" 126 "Infinity" (X.2.1 1) U) ∧ ∃ a1 a2 a3 : Nat, vk_R "DecimalReader" 38 "the tape has no room for 20 bytes more" a1 U ∧ vk_R "DecimalReader" 49 "the tape has no such length to keep" a2 U ∧ vk_R "DecimalReader" 58 "the tape is no number text" a3 U
def jS (A : Nat → Prop) (U : State) (H : Heap) : Prop := va_Zq "jdk/internal/util/Preconditions" "SIOOBE_FORMATTER" "Ljava/util/function/BiFunction;" A U H ∧ vx_Zq "java/lang/Throwable" "UNASSIGNED_STACK" "[Ljava/lang/StackTraceElement;" A U H ∧ vx_Zq "java/lang/Throwable" "SUPPRESSED_SENTINEL" "Ljava/util/List;" A U H
theorem jS.kept {A : Nat → Prop} {U : State} {H H1 : Heap} (h : jS A U H) (hq : ∀ a : Nat, a < H.size → ¬ A a → H1[a]? = H[a]?) : jS A U H1 := ⟨h.1.kept hq, h.2.1.kept hq, h.2.2.kept hq⟩
theorem jS.narrow {A B : Nat → Prop} {U : State} {H : Heap} (h : jS A U H) (hAB : ∀ q, B q → A q) : jS B U H := ⟨h.1.narrow hAB, h.2.1.narrow hAB, h.2.2.narrow hAB⟩
theorem jS.moved {A : Nat → Prop} {u U : State} {H : Heap} (hvm : u.vm.Alike U.vm) (h : jS A u H) : jS A U H := ⟨h.1.moved hvm, h.2.1.moved hvm, h.2.2.moved hvm⟩
def jE (X : jX) (A : Nat → Prop) (U : State) (H : Heap) : Prop := va_Z "DecimalReader$Value" "POWERS_OF_TEN" "[I" (.ref X.1) A U H ∧ va_T .int X.1 9 (fun j => .int (nI (10 ^ j))) A U H ∧ va_Z "java/lang/String" "COMPACT_STRINGS" "Z" (.int 1) A U H ∧ vk_S 6 st_len st_byt X.2.1 X.2.2 A U H ∧ jS A U H ∧ jR X U
theorem jE.kept {X : jX} {A : Nat → Prop} {U : State} {H H1 : Heap} (h : jE X A U H) (hq : ∀ a : Nat, a < H.size → ¬ A a → H1[a]? = H[a]?) : jE X A U H1 := ⟨h.1.kept hq, h.2.1.kept hq, h.2.2.1.kept hq, h.2.2.2.1.kept hq, h.2.2.2.2.1.kept hq, h.2.2.2.2.2⟩
theorem jE.narrow {X : jX} {A B : Nat → Prop} {U : State} {H : Heap} (h : jE X A U H) (hAB : ∀ q, B q → A q) : jE X B U H := ⟨h.1.narrow hAB, h.2.1.narrow hAB, h.2.2.1.narrow hAB, h.2.2.2.1.narrow hAB, h.2.2.2.2.1.narrow hAB, h.2.2.2.2.2⟩
theorem jR.warm {X : jX} {s U : State} (hW : s.WarmedH U.vm) (h : jR X s) : jR X U := by
  obtain ⟨⟨h1, h2, h3, h4, h5, h6, h7, h8⟩, a1, a2, a3, k1, k2, k3⟩ := h
  exact ⟨⟨h1.warm hW, h2.warm hW, h3.warm hW, h4.warm hW, h5.warm hW, h6.warm hW, h7.warm hW, h8.warm hW⟩, a1, a2, a3, k1.warm hW, k2.warm hW, k3.warm hW⟩
theorem jR.same {X : jX} {u U : State} (hv : U.vm = u.vm) (h : jR X u) : jR X U := by
  obtain ⟨⟨h1, h2, h3, h4, h5, h6, h7, h8⟩, a1, a2, a3, k1, k2, k3⟩ := h
  exact ⟨⟨h1.same hv, h2.same hv, h3.same hv, h4.same hv, h5.same hv, h6.same hv, h7.same hv, h8.same hv⟩, a1, a2, a3, k1.same hv, k2.same hv, k3.same hv⟩
theorem jE.warm {X : jX} {A : Nat → Prop} {s U : State} {H : Heap} (hW : s.WarmedH U.vm) (h : jE X A s H) : jE X A U H := ⟨va_Z.moved hW.alike h.1, va_T.moved hW.alike h.2.1, va_Z.moved hW.alike h.2.2.1, vk_S.moved hW.alike h.2.2.2.1, jS.moved hW.alike h.2.2.2.2.1, h.2.2.2.2.2.warm hW⟩
theorem jE.same {X : jX} {A : Nat → Prop} {u U : State} {H : Heap} (hv : U.vm = u.vm) (h : jE X A u H) : jE X A U H := by
  have ha : u.vm.Alike U.vm := by rw [hv]; exact Vm.Alike.refl _
  exact ⟨va_Z.moved ha h.1, va_T.moved ha h.2.1, va_Z.moved ha h.2.2.1, vk_S.moved ha h.2.2.2.1, jS.moved ha h.2.2.2.2.1, h.2.2.2.2.2.same hv⟩
